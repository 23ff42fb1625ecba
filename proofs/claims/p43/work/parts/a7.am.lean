/-! ===== the models of a node ===== -/
def s_L_areModels : CS := (xc 31 20660 10, ap [(3, 0), (0, 0)] (fun n h Rt X =>
∃ w ps s, CI h w ps s ∧ (0 ≤ n ∧ n < w 0) ∧ ∀ g u ps s, CI g u ps s → Kp h g → Ipt w u → Rt (some (.inl 1)) g))
def cl_L_areModels : List (Nat × CS) := [(153, wk s_X9_satisfiable), (163, wk s_X9_core1), (166, wk s_X9_gain), (158, wk s_X9_models), (157, wk s_X9_fixed), (160, wk s_X9_valueAt), (144, wk s_X9_variables), (154, wk s_X9_witness), (167, wk s_X9_bestWitness), (341, wk s_L_inputs), (340, wk s_L_isModel), (147, wk s_X9_value), (155, wk s_X9_extreme), (159, wk s_X9_values), (145, wk s_X9_info), (337, wk s_L_mask), (343, wk s_L_isGain)]
theorem mc_L_areModels : allMM cl_L_areModels := ⟨mm_wk m_X9_satisfiable, mm_wk m_X9_core1, mm_wk m_X9_gain, mm_wk m_X9_models, mm_wk m_X9_fixed, mm_wk m_X9_valueAt, mm_wk m_X9_variables, mm_wk m_X9_witness, mm_wk m_X9_bestWitness, mm_wk m_L_inputs, mm_wk m_L_isModel, mm_wk m_X9_value, mm_wk m_X9_extreme, mm_wk m_X9_values, mm_wk m_X9_info, mm_wk m_L_mask, mm_wk m_L_isGain, trivial⟩
set_option maxRecDepth 100000 in
set_option maxHeartbeats 4000000 in
theorem o_L_areModels : Obl true 2 6 (sp cl_L_areModels) [] code_L_areModels s_L_areModels := by
  refine obl0x (by rfl) ?_
  intro n r_n h Rt X hh hf hs
  obtain ⟨w, ps, s, hC, ⟨n0, n1⟩, K⟩ := hs
  have hW := hC.wf
  have cn := hW.cn
  have vn := hW.vn
  have tr := tot_rng hW
  by_cases z : nxt w 0 = -1
  · obtain ⟨rg, hg⟩ := isB_tot hW (gnA w)
    have eg := isB_no hg z
    subst eg
    have cf := coreF_nn hW (w 290).toNat (by omega)
    obtain ⟨f, hf⟩ := Mets_tot hW n
    have x0 : gnR w (-1) = -1 := rfl
    have x1 := mmF_0 z
    have x2 := kthW_0 hf z
    have x3 : wrd w (nxt w 0) 0 = -1 := if_pos z
    have x4 : wrd w (-1) 0 = -1 := rfl
    show doC 31 20660 10 (sp cl_L_areModels) [] X (kq 2 31 20660 10 (sp cl_L_areModels) Rt X code_L_areModels 3998 (code_L_areModels.drop 2)) 1 4 [some (aX 0), some (.inl n), none, none, none, none] h 0 0 153 [aX 0] []
    refine dcQ (cs := s_X9_satisfiable) (by rfl) (mc := 0) (ms := 0) (ht := 7) (by rfl) (by rfl) (q_satF hC z) ?_
    intro g1 c1 k1
    refine And.intro (fun e9 => (by omega : False).elim) (fun _ => ?_)
    show doC 31 20660 10 (sp cl_L_areModels) [] X (kq 2 31 20660 10 (sp cl_L_areModels) Rt X code_L_areModels 3995 (code_L_areModels.drop 5)) 8 11 [some (aX 0), some (.inl n), none, none, none, none] g1 0 0 163 [aX 0] []
    refine dcQ (cs := s_X9_core1) (by rfl) (mc := 1) (ms := 20480) (ht := 7) (by rfl) (by rfl) (q_coreF c1 z) ?_
    intro g2 c2 k2
    refine And.intro (fun e9 => (by omega : False).elim) (fun _ => ?_)
    show doC 31 20660 10 (sp cl_L_areModels) [] X (kq 2 31 20660 10 (sp cl_L_areModels) Rt X code_L_areModels 3992 (code_L_areModels.drop 8)) 15 18 [some (aX 0), some (.inl n), none, none, none, none] g2 1 20480 166 [aX 0] []
    refine dcQ (cs := s_X9_gain) (by rfl) (mc := 0) (ms := 0) (ht := 7) (by rfl) (by rfl) (q_gain c2 hg) ?_
    intro g3 c3 k3
    refine And.intro (fun e9 => (by omega : False).elim) (fun _ => ?_)
    show doC 31 20660 10 (sp cl_L_areModels) [] X (kq 2 31 20660 10 (sp cl_L_areModels) Rt X code_L_areModels 3987 (code_L_areModels.drop 13)) 26 29 [some (aX 0), some (.inl n), none, none, none, none] g3 1 20480 158 [aX 0, .inl 200] []
    refine dcQ (cs := s_X9_models) (by rfl) (mc := 1) (ms := 6) (ht := 7) (by rfl) (by rfl) (p_models hW (Ipt.rf w) c3) ?_
    intro g4 c4 k4
    refine And.intro (fun e9 => (by omega : False).elim) (fun _ => ?_)
    show doC 31 20660 10 (sp cl_L_areModels) [] X (kq 2 31 20660 10 (sp cl_L_areModels) Rt X code_L_areModels 3982 (code_L_areModels.drop 18)) 35 38 [some (aX 0), some (.inl n), none, none, none, none] g4 2 20486 157 [aX 0, .inl n, .inl 1] []
    refine dcQ (cs := s_X9_fixed) (by rfl) (mc := 1) (ms := 6) (ht := 7) (by rfl) (by rfl) (q_fixedN c4 n0 n1 z) ?_
    intro g5 c5 k5
    refine And.intro (fun e9 => (by omega : False).elim) (fun _ => ?_)
    show doC 31 20660 10 (sp cl_L_areModels) [] X (kq 2 31 20660 10 (sp cl_L_areModels) Rt X code_L_areModels 3976 (code_L_areModels.drop 24)) 45 48 [some (aX 0), some (.inl n), none, none, none, none] g5 3 20492 160 [aX 0, .inl n, .inl 0] []
    refine dcQ (cs := s_X9_valueAt) (by rfl) (mc := 1) (ms := 6) (ht := 7) (by rfl) (by rfl) (q_valueAt c5 n0 n1 (by decide) (by decide) hf) ?_
    intro g6 c6 k6
    refine And.intro (fun e9 => (by omega : False).elim) (fun _ => ?_)
    refine And.intro (fun e9 => (by omega : False).elim) (fun _ => ?_)
    show doC 31 20660 10 (sp cl_L_areModels) [] X (kq 2 31 20660 10 (sp cl_L_areModels) Rt X code_L_areModels 3967 (code_L_areModels.drop 34)) 63 66 [some (aX 0), some (.inl n), some (.inl 1), none, none, none] g6 4 20498 144 [aX 0] []
    refine dcH (cs := s_X9_variables) (by rfl) (mc := 0) (ms := 0) (ht := 2) (by rfl) (by rfl) (q_variables c6) ?_
    refine And.intro (fun e1 => ?_) (fun e2 => ?_)
    · exact ⟨Or.inr rfl, K g6 w ps s c6 (((((k1.tr k2).tr k3).tr k4).tr k5).tr k6) (Ipt.rf w)⟩
    · show doC 31 20660 10 (sp cl_L_areModels) [] X (kq 2 31 20660 10 (sp cl_L_areModels) Rt X code_L_areModels 3963 (code_L_areModels.drop 38)) 71 74 [some (aX 0), some (.inl n), some (.inl 1), none, none, none] g6 4 20498 154 [aX 0, .inl 0] []
      refine dcQ (cs := s_X9_witness) (by rfl) (mc := 1) (ms := 6) (ht := 7) (by rfl) (by rfl) (q_witness c6 (by decide) (by omega)) ?_
      intro g7 c7 k7
      refine And.intro (fun e9 => (by omega : False).elim) (fun _ => ?_)
      show doC 31 20660 10 (sp cl_L_areModels) [] X (kq 2 31 20660 10 (sp cl_L_areModels) Rt X code_L_areModels 3958 (code_L_areModels.drop 43)) 80 83 [some (aX 0), some (.inl n), some (.inl 1), none, none, none] g7 5 20504 167 [aX 0, .inl 0] []
      refine dcQ (cs := s_X9_bestWitness) (by rfl) (mc := 1) (ms := 6) (ht := 7) (by rfl) (by rfl) (q_best c7 (by decide) (by omega) hg) ?_
      intro g8 c8 k8
      refine And.intro (fun e9 => (by omega : False).elim) (fun _ => ?_)
      exact ⟨Or.inr rfl, K g8 w ps s c8 (((((((k1.tr k2).tr k3).tr k4).tr k5).tr k6).tr k7).tr k8) (Ipt.rf w)⟩
  · obtain ⟨r0, r1, q0, q1, rg, f, ⟨b0, b1, d0, d1, bg, hf⟩, ⟨m0, m1, mg⟩, ⟨y0, y1, y2, y3⟩, ⟨t0, t1⟩, ⟨v0, v1⟩, ⟨l0, l1⟩, l2, l3, l4, l5⟩ := am_facts hW n0 n1 z
    show doC 31 20660 10 (sp cl_L_areModels) [] X (kq 2 31 20660 10 (sp cl_L_areModels) Rt X code_L_areModels 3998 (code_L_areModels.drop 2)) 1 4 [some (aX 0), some (.inl n), none, none, none, none] h 0 0 153 [aX 0] []
    refine dcQ (cs := s_X9_satisfiable) (by rfl) (mc := 0) (ms := 0) (ht := 7) (by rfl) (by rfl) (q_satT hC z) ?_
    intro g1 c1 k1
    refine And.intro (fun _ => ?_) (fun e9 => (by omega : False).elim)
    show doC 31 20660 10 (sp cl_L_areModels) [] X (kq 2 31 20660 10 (sp cl_L_areModels) Rt X code_L_areModels 3993 (code_L_areModels.drop 53)) 96 99 [some (aX 0), some (.inl n), none, none, none, none] g1 0 0 341 [aX 0, .inl 0, .inl n] []
    refine dcN (cs := s_L_inputs) (by rfl) (mc := 0) (ms := 0) (ht := 8) (by rfl) (by rfl) (p_inputs (way := 0) hW (Ipt.rf w) c1 n0 n1 (by decide) (Box.i ⟨fun _ => rfl, by omega, by omega, by omega⟩) z) ?_
    intro ua pa sa g2 c2 k2 ia
    obtain ⟨ia, ja⟩ := ia
    show doC 31 20660 10 (sp cl_L_areModels) [] X (kq 2 31 20660 10 (sp cl_L_areModels) Rt X code_L_areModels 3991 (code_L_areModels.drop 55)) 100 103 [some (aX 0), some (.inl n), none, none, none, none] g2 0 0 340 [aX 0] []
    refine dcQ (cs := s_L_isModel) (by rfl) (mc := 0) (ms := 0) (ht := 6) (by rfl) (by rfl) (p_isModel hW ia c2 ja y0) ?_
    intro g3 c3 k3
    refine And.intro (fun e9 => (by omega : False).elim) (fun _ => ?_)
    show doC 31 20660 10 (sp cl_L_areModels) [] X (kq 2 31 20660 10 (sp cl_L_areModels) Rt X code_L_areModels 3988 (code_L_areModels.drop 58)) 107 110 [some (aX 0), some (.inl n), none, none, none, none] g3 0 0 163 [aX 0] []
    refine dcQ (cs := s_X9_core1) (by rfl) (mc := 1) (ms := 20480) (ht := 7) (by rfl) (by rfl) (q_coreT c3 (p_nx hW ia z)) ?_
    intro g4 c4 k4
    refine And.intro (fun e9 => (by omega : False).elim) (fun _ => ?_)
    show doC 31 20660 10 (sp cl_L_areModels) [] X (kq 2 31 20660 10 (sp cl_L_areModels) Rt X code_L_areModels 3979 (code_L_areModels.drop 68)) 123 126 [some (aX 0), some (.inl n), some (.inl 1), none, none, none] g4 1 20480 147 [aX 0, .inl n, .inl 0] []
    refine dcQ (cs := s_X9_value) (by rfl) (mc := 1) (ms := 6) (ht := 5) (by rfl) (by rfl) (p_value hW ia c4 ja n0 n1) ?_
    intro g5 c5 k5
    show doC 31 20660 10 (sp cl_L_areModels) [] X (kq 2 31 20660 10 (sp cl_L_areModels) Rt X code_L_areModels 3974 (code_L_areModels.drop 73)) 130 133 [some (aX 0), some (.inl n), some (.inl 1), some (.inl (vl w (asg w (nxt w 0)) n)), none, none] g5 2 20486 341 [aX 0, .inl 2, .inl n] []
    refine dcN (cs := s_L_inputs) (by rfl) (mc := 0) (ms := 0) (ht := 8) (by rfl) (by rfl) (p_inputs (way := 2) hW ia c5 n0 n1 (by decide) (Box.i ⟨by omega, by omega, fun _ => b0, by omega⟩) m0) ?_
    intro ub pb sb g6 c6 k6 ib
    obtain ⟨ib, jb⟩ := ib
    refine And.intro (fun e9 => (by omega : False).elim) (fun _ => ?_)
    show doC 31 20660 10 (sp cl_L_areModels) [] X (kq 2 31 20660 10 (sp cl_L_areModels) Rt X code_L_areModels 3970 (code_L_areModels.drop 77)) 138 141 [some (aX 0), some (.inl n), some (.inl 1), some (.inl (vl w (asg w (nxt w 0)) n)), none, none] g6 2 20486 340 [aX 0] []
    refine dcQ (cs := s_L_isModel) (by rfl) (mc := 0) (ms := 0) (ht := 6) (by rfl) (by rfl) (p_isModel hW ib c6 jb y1) ?_
    intro g7 c7 k7
    refine And.intro (fun e9 => (by omega : False).elim) (fun _ => ?_)
    show doC 31 20660 10 (sp cl_L_areModels) [] X (kq 2 31 20660 10 (sp cl_L_areModels) Rt X code_L_areModels 3965 (code_L_areModels.drop 82)) 147 150 [some (aX 0), some (.inl n), some (.inl 1), some (.inl (vl w (asg w (nxt w 0)) n)), none, none] g7 2 20486 147 [aX 0, .inl n, .inl 0] []
    refine dcQ (cs := s_X9_value) (by rfl) (mc := 1) (ms := 6) (ht := 5) (by rfl) (by rfl) (p_value hW ib c7 jb n0 n1) ?_
    intro g8 c8 k8
    show doC 31 20660 10 (sp cl_L_areModels) [] X (kq 2 31 20660 10 (sp cl_L_areModels) Rt X code_L_areModels 3960 (code_L_areModels.drop 87)) 154 157 [some (aX 0), some (.inl n), some (.inl 1), some (.inl (vl w (asg w (nxt w 0)) n)), none, none] g8 3 20492 155 [aX 0, .inl n, .inl 0, .inl 0] [.inl (vl w (asg w r0) n)]
    refine dcQ (cs := s_X9_extreme) (by rfl) (mc := 2) (ms := 12) (ht := 7) (by rfl) (by rfl) (p_extreme hW ib c8 n0 n1 z b0) ?_
    intro g9 c9 k9
    refine And.intro (fun e9 => (by omega : False).elim) (fun _ => ?_)
    show doC 31 20660 10 (sp cl_L_areModels) [] X (kq 2 31 20660 10 (sp cl_L_areModels) Rt X code_L_areModels 3955 (code_L_areModels.drop 92)) 163 166 [some (aX 0), some (.inl n), some (.inl 1), some (.inl (vl w (asg w (nxt w 0)) n)), none, none] g9 5 20504 160 [aX 0, .inl n, .inl 0] []
    refine dcQ (cs := s_X9_valueAt) (by rfl) (mc := 1) (ms := 6) (ht := 7) (by rfl) (by rfl) (p_valueAt hW ib c9 n0 n1 (by decide) (by decide) hf) ?_
    intro ga ca ka
    show doC 31 20660 10 (sp cl_L_areModels) [] X (kq 2 31 20660 10 (sp cl_L_areModels) Rt X code_L_areModels 3950 (code_L_areModels.drop 97)) 170 173 [some (aX 0), some (.inl n), some (.inl 1), some (.inl (vl w (asg w (nxt w 0)) n)), none, none] ga 6 20510 155 [aX 0, .inl n, .inl 0, .inl 0] [.inl (kthW f 0)]
    refine dcQ (cs := s_X9_extreme) (by rfl) (mc := 2) (ms := 12) (ht := 7) (by rfl) (by rfl) (p_extreme hW ib ca n0 n1 z b0) ?_
    intro gb cb kb
    refine And.intro (fun e9 => (by omega : False).elim) (fun _ => ?_)
    show doC 31 20660 10 (sp cl_L_areModels) [] X (kq 2 31 20660 10 (sp cl_L_areModels) Rt X code_L_areModels 3942 (code_L_areModels.drop 106)) 185 188 [some (aX 0), some (.inl n), some (.inl 1), some (.inl (vl w (asg w (nxt w 0)) n)), none, none] gb 8 20522 341 [aX 0, .inl 3, .inl n] []
    refine dcN (cs := s_L_inputs) (by rfl) (mc := 0) (ms := 0) (ht := 8) (by rfl) (by rfl) (p_inputs (way := 3) hW ib cb n0 n1 (by decide) (Box.i ⟨by omega, by omega, by omega, fun _ => b1⟩) m1) ?_
    intro uc pc sc gc cc kc ic
    obtain ⟨ic, jc⟩ := ic
    show doC 31 20660 10 (sp cl_L_areModels) [] X (kq 2 31 20660 10 (sp cl_L_areModels) Rt X code_L_areModels 3938 (code_L_areModels.drop 110)) 193 196 [some (aX 0), some (.inl n), some (.inl 1), some (.inl (vl w (asg w (nxt w 0)) n)), none, none] gc 8 20522 159 [aX 0, .inl n, .inl 200] []
    refine dcQ (cs := s_X9_values) (by rfl) (mc := 2) (ms := 12) (ht := 7) (by rfl) (by rfl) (p_values hW ic cc n0 n1 hf) ?_
    intro gd cd kd
    refine And.intro (fun e9 => (by omega : False).elim) (fun _ => ?_)
    show doC 31 20660 10 (sp cl_L_areModels) [] X (kq 2 31 20660 10 (sp cl_L_areModels) Rt X code_L_areModels 3933 (code_L_areModels.drop 115)) 203 206 [some (aX 0), some (.inl n), some (.inl 1), some (.inl (vl w (asg w (nxt w 0)) n)), some (.inl (nvF f)), none] gd 10 20534 340 [aX 0] []
    refine dcQ (cs := s_L_isModel) (by rfl) (mc := 0) (ms := 0) (ht := 6) (by rfl) (by rfl) (p_isModel hW ic cd jc y2) ?_
    intro ge ce ke
    refine And.intro (fun e9 => (by omega : False).elim) (fun _ => ?_)
    show doC 31 20660 10 (sp cl_L_areModels) [] X (kq 2 31 20660 10 (sp cl_L_areModels) Rt X code_L_areModels 3928 (code_L_areModels.drop 120)) 212 215 [some (aX 0), some (.inl n), some (.inl 1), some (.inl (vl w (asg w (nxt w 0)) n)), some (.inl (nvF f)), none] ge 10 20534 147 [aX 0, .inl n, .inl 0] []
    refine dcQ (cs := s_X9_value) (by rfl) (mc := 1) (ms := 6) (ht := 5) (by rfl) (by rfl) (p_value hW ic ce jc n0 n1) ?_
    intro gf cf kf
    show doC 31 20660 10 (sp cl_L_areModels) [] X (kq 2 31 20660 10 (sp cl_L_areModels) Rt X code_L_areModels 3923 (code_L_areModels.drop 125)) 219 222 [some (aX 0), some (.inl n), some (.inl 1), some (.inl (vl w (asg w (nxt w 0)) n)), some (.inl (nvF f)), none] gf 11 20540 155 [aX 0, .inl n, .inl 1, .inl 0] [.inl (vl w (asg w r1) n)]
    refine dcQ (cs := s_X9_extreme) (by rfl) (mc := 2) (ms := 12) (ht := 7) (by rfl) (by rfl) (p_extreme hW ic cf n0 n1 z b1) ?_
    intro gg cg kg
    refine And.intro (fun e9 => (by omega : False).elim) (fun _ => ?_)
    have kall := (((((((((((((((k1.tr k2).tr k3).tr k4).tr k5).tr k6).tr k7).tr k8).tr k9).tr ka).tr kb).tr kc).tr kd).tr ke).tr kf).tr kg)
    refine And.intro (fun e1 => ?_) (fun e2 => ?_)
    · show doC 31 20660 10 (sp cl_L_areModels) [] X (kq 2 31 20660 10 (sp cl_L_areModels) Rt X code_L_areModels 3915 (code_L_areModels.drop 145)) 257 260 [some (aX 0), some (.inl n), some (.inl 1), some (.inl (vl w (asg w (nxt w 0)) n)), some (.inl (nvF f)), none] gg 13 20552 160 [aX 0, .inl n, .inl 200] []
      refine dcQ (cs := s_X9_valueAt) (by rfl) (mc := 1) (ms := 6) (ht := 7) (by rfl) (by rfl) (q_valueNo cg n0 (p_lt hW ic n1) (by decide)) ?_
      intro gh ch kh
      refine And.intro (fun e9 => (by omega : False).elim) (fun _ => ?_)
      refine And.intro (fun e9 => (by omega : False).elim) (fun _ => ?_)
      have kall := (kall.tr kh)
      show doC 31 20660 10 (sp cl_L_areModels) [] X (kq 2 31 20660 10 (sp cl_L_areModels) Rt X code_L_areModels 3903 (code_L_areModels.drop 158)) 278 281 [some (aX 0), some (.inl n), some (.inl 1), some (.inl (vl w (asg w (nxt w 0)) n)), some (.inl (nvF f)), none] gh 14 20558 155 [aX 0, .inl n, .inl 0, .inl 1] []
      refine dcQ (cs := s_X9_extreme) (by rfl) (mc := 2) (ms := 12) (ht := 7) (by rfl) (by rfl) (p_extreme hW ic ch n0 n1 z d0) ?_
      intro gi ci ki
      show doC 31 20660 10 (sp cl_L_areModels) [] X (kq 2 31 20660 10 (sp cl_L_areModels) Rt X code_L_areModels 3898 (code_L_areModels.drop 163)) 285 288 [some (aX 0), some (.inl n), some (.inl 1), some (.inl (vl w (asg w (nxt w 0)) n)), some (.inl (nvF f)), none] gi 16 20570 155 [aX 0, .inl n, .inl 1, .inl 1] [.inl (gV w n 1 q0)]
      refine dcQ (cs := s_X9_extreme) (by rfl) (mc := 2) (ms := 12) (ht := 7) (by rfl) (by rfl) (p_extreme hW ic ci n0 n1 z d1) ?_
      intro gj cj kj
      refine And.intro (fun e9 => (by omega : False).elim) (fun _ => ?_)
      show doC 31 20660 10 (sp cl_L_areModels) [] X (kq 2 31 20660 10 (sp cl_L_areModels) Rt X code_L_areModels 3892 (code_L_areModels.drop 169)) 295 298 [some (aX 0), some (.inl n), some (.inl 1), some (.inl (vl w (asg w (nxt w 0)) n)), some (.inl (nvF f)), none] gj 18 20582 155 [aX 0, .inl n, .inl 0, .inl 0] []
      refine dcQ (cs := s_X9_extreme) (by rfl) (mc := 2) (ms := 12) (ht := 7) (by rfl) (by rfl) (p_extreme hW ic cj n0 n1 z b0) ?_
      intro gk ck kk
      refine And.intro (fun e9 => (by omega : False).elim) (fun _ => ?_)
      show doC 31 20660 10 (sp cl_L_areModels) [] X (kq 2 31 20660 10 (sp cl_L_areModels) Rt X code_L_areModels 3884 (code_L_areModels.drop 177)) 307 310 [some (aX 0), some (.inl n), some (.inl 1), some (.inl (vl w (asg w (nxt w 0)) n)), some (.inl (nvF f)), none] gk 20 20594 155 [aX 0, .inl n, .inl 1, .inl 0] [.inl (vl w (asg w (nxt w 0)) n)]
      refine dcQ (cs := s_X9_extreme) (by rfl) (mc := 2) (ms := 12) (ht := 7) (by rfl) (by rfl) (p_extreme hW ic ck n0 n1 z b1) ?_
      intro gl cl9 kl
      refine And.intro (fun e9 => (by omega : False).elim) (fun _ => ?_)
      show doC 31 20660 10 (sp cl_L_areModels) [] X (kq 2 31 20660 10 (sp cl_L_areModels) Rt X code_L_areModels 3876 (code_L_areModels.drop 186)) 322 325 [some (aX 0), some (.inl n), some (.inl 1), some (.inl (vl w (asg w (nxt w 0)) n)), some (.inl (nvF f)), none] gl 22 20606 157 [aX 0, .inl n, .inl 0] []
      refine dcQ (cs := s_X9_fixed) (by rfl) (mc := 1) (ms := 6) (ht := 7) (by rfl) (by rfl) (p_fixedB hW ic cl9 n0 n1 z) ?_
      intro gm cm km
      refine And.intro (fun e9 => (by omega : False).elim) (fun _ => ?_)
      show doC 31 20660 10 (sp cl_L_areModels) [] X (kq 2 31 20660 10 (sp cl_L_areModels) Rt X code_L_areModels 3869 (code_L_areModels.drop 193)) 334 337 [some (aX 0), some (.inl n), some (.inl 1), some (.inl (vl w (asg w (nxt w 0)) n)), some (.inl (nvF f)), some (.inl (fxB w n))] gm 23 20612 147 [aX 0, .inl n, .inl 0] []
      refine dcQ (cs := s_X9_value) (by rfl) (mc := 1) (ms := 6) (ht := 5) (by rfl) (by rfl) (p_value hW ic cm jc n0 n1) ?_
      intro gn cn9 kn
      show doC 31 20660 10 (sp cl_L_areModels) [] X (kq 2 31 20660 10 (sp cl_L_areModels) Rt X code_L_areModels 3863 (code_L_areModels.drop 199)) 343 346 [some (aX 0), some (.inl n), some (.inl 1), some (.inl (vl w (asg w (nxt w 0)) n)), some (.inl (nvF f)), some (.inl (fxB w n))] gn 24 20618 157 [aX 0, .inl n, .inl 1] [.inl (bAnd (vl w (asg w r1) n) (fxB w n))]
      refine dcQ (cs := s_X9_fixed) (by rfl) (mc := 1) (ms := 6) (ht := 7) (by rfl) (by rfl) (p_fixedV hW ic cn9 n0 n1 z) ?_
      intro go co ko
      refine And.intro (fun e9 => (by omega : False).elim) (fun _ => ?_)
      show doC 31 20660 10 (sp cl_L_areModels) [] X (kq 2 31 20660 10 (sp cl_L_areModels) Rt X code_L_areModels 3857 (code_L_areModels.drop 205)) 354 357 [some (aX 0), some (.inl n), some (.inl 1), some (.inl (vl w (asg w (nxt w 0)) n)), some (.inl (nvF f)), some (.inl (fxB w n))] go 25 20624 145 [aX 0, .inl n, .inl 1] [.inl (fxB w n)]
      refine dcH (cs := s_X9_info) (by rfl) (mc := 2) (ms := 12) (ht := 3) (by rfl) (by rfl) (p_width hW ic co n0 n1) ?_
      show doC 31 20660 10 (sp cl_L_areModels) [] X (kq 2 31 20660 10 (sp cl_L_areModels) Rt X code_L_areModels 3856 (code_L_areModels.drop 206)) 357 360 [some (aX 0), some (.inl n), some (.inl 1), some (.inl (vl w (asg w (nxt w 0)) n)), some (.inl (nvF f)), some (.inl (fxB w n))] go 27 20636 337 [.inl (nd w n 1)] [.inl (fxB w n)]
      refine dcH (cs := s_L_mask) (by rfl) (mc := 0) (ms := 0) (ht := 1) (by rfl) (by rfl) (mask_h (hW.wd n0 n1)) ?_
      have kall := (((((((kall.tr ki).tr kj).tr kk).tr kl).tr km).tr kn).tr ko)
      refine And.intro (fun e3 => ?_) (fun e4 => ?_)
      · refine And.intro (fun _ => ?_) (fun e9 => (by omega : False).elim)
        refine And.intro (fun e9 => (by omega : False).elim) (fun _ => ?_)
        show doC 31 20660 10 (sp cl_L_areModels) [] X (kq 2 31 20660 10 (sp cl_L_areModels) Rt X code_L_areModels 3846 (code_L_areModels.drop 220)) 386 389 [some (aX 0), some (.inl n), some (.inl 1), some (.inl (vl w (asg w (nxt w 0)) n)), some (.inl (nvF f)), some (.inl (fxB w n))] go 27 20636 158 [aX 0, .inl 200] []
        refine dcQ (cs := s_X9_models) (by rfl) (mc := 1) (ms := 6) (ht := 7) (by rfl) (by rfl) (p_models hW ic co) ?_
        intro gp cp9 kp
        refine And.intro (fun e5 => ?_) (fun e6 => ?_)
        · refine And.intro (fun e9 => (by omega : False).elim) (fun _ => ?_)
          show doC 31 20660 10 (sp cl_L_areModels) [] X (kq 2 31 20660 10 (sp cl_L_areModels) Rt X code_L_areModels 3834 (code_L_areModels.drop 235)) 417 420 [some (aX 0), some (.inl n), some (.inl 1), some (.inl (vl w (asg w (nxt w 0)) n)), some (.inl (nvF f)), some (.inl (fxB w n))] gp 28 20642 341 [aX 0, .inl 1, .inl n] []
          refine dcN (cs := s_L_inputs) (by rfl) (mc := 0) (ms := 0) (ht := 8) (by rfl) (by rfl) (p_inputs (way := 1) hW ic cp9 n0 n1 (by decide) (Box.i ⟨by omega, fun _ => bg, by omega, by omega⟩) mg) ?_
          intro ud pd sd gq cq kq9 id
          obtain ⟨id, jd⟩ := id
          refine And.intro (fun e9 => (by omega : False).elim) (fun _ => ?_)
          show doC 31 20660 10 (sp cl_L_areModels) [] X (kq 2 31 20660 10 (sp cl_L_areModels) Rt X code_L_areModels 3830 (code_L_areModels.drop 239)) 425 428 [some (aX 0), some (.inl n), some (.inl 1), some (.inl (vl w (asg w (nxt w 0)) n)), some (.inl (nvF f)), some (.inl (fxB w n))] gq 28 20642 340 [aX 0] []
          refine dcQ (cs := s_L_isModel) (by rfl) (mc := 0) (ms := 0) (ht := 6) (by rfl) (by rfl) (p_isModel hW id cq jd y3) ?_
          intro gr cr kr
          refine And.intro (fun e9 => (by omega : False).elim) (fun _ => ?_)
          show doC 31 20660 10 (sp cl_L_areModels) [] X (kq 2 31 20660 10 (sp cl_L_areModels) Rt X code_L_areModels 3827 (code_L_areModels.drop 242)) 432 435 [some (aX 0), some (.inl n), some (.inl 1), some (.inl (vl w (asg w (nxt w 0)) n)), some (.inl (nvF f)), some (.inl (fxB w n))] gr 28 20642 343 [aX 0] []
          refine dcQ (cs := s_L_isGain) (by rfl) (mc := 0) (ms := 0) (ht := 9) (by rfl) (by rfl) (p_isGain hW id cr z) ?_
          intro gs cs9 ks
          refine And.intro (fun e9 => (by omega : False).elim) (fun _ => ?_)
          exact ⟨Or.inr rfl, K gs ud pd sd cs9 ((((kall.tr kp).tr kq9).tr kr).tr ks) id⟩
        · refine And.intro (fun e9 => (by omega : False).elim) (fun _ => ?_)
          show doC 31 20660 10 (sp cl_L_areModels) [] X (kq 2 31 20660 10 (sp cl_L_areModels) Rt X code_L_areModels 3833 (code_L_areModels.drop 235)) 417 420 [some (aX 0), some (.inl n), some (.inl 1), some (.inl (vl w (asg w (nxt w 0)) n)), some (.inl (nvF f)), some (.inl (fxB w n))] gp 28 20642 341 [aX 0, .inl 1, .inl n] []
          refine dcN (cs := s_L_inputs) (by rfl) (mc := 0) (ms := 0) (ht := 8) (by rfl) (by rfl) (p_inputs (way := 1) hW ic cp9 n0 n1 (by decide) (Box.i ⟨by omega, fun _ => bg, by omega, by omega⟩) mg) ?_
          intro ud pd sd gq cq kq9 id
          obtain ⟨id, jd⟩ := id
          refine And.intro (fun e9 => (by omega : False).elim) (fun _ => ?_)
          show doC 31 20660 10 (sp cl_L_areModels) [] X (kq 2 31 20660 10 (sp cl_L_areModels) Rt X code_L_areModels 3829 (code_L_areModels.drop 239)) 425 428 [some (aX 0), some (.inl n), some (.inl 1), some (.inl (vl w (asg w (nxt w 0)) n)), some (.inl (nvF f)), some (.inl (fxB w n))] gq 28 20642 340 [aX 0] []
          refine dcQ (cs := s_L_isModel) (by rfl) (mc := 0) (ms := 0) (ht := 6) (by rfl) (by rfl) (p_isModel hW id cq jd y3) ?_
          intro gr cr kr
          refine And.intro (fun e9 => (by omega : False).elim) (fun _ => ?_)
          show doC 31 20660 10 (sp cl_L_areModels) [] X (kq 2 31 20660 10 (sp cl_L_areModels) Rt X code_L_areModels 3826 (code_L_areModels.drop 242)) 432 435 [some (aX 0), some (.inl n), some (.inl 1), some (.inl (vl w (asg w (nxt w 0)) n)), some (.inl (nvF f)), some (.inl (fxB w n))] gr 28 20642 343 [aX 0] []
          refine dcQ (cs := s_L_isGain) (by rfl) (mc := 0) (ms := 0) (ht := 9) (by rfl) (by rfl) (p_isGain hW id cr z) ?_
          intro gs cs9 ks
          refine And.intro (fun e9 => (by omega : False).elim) (fun _ => ?_)
          exact ⟨Or.inr rfl, K gs ud pd sd cs9 ((((kall.tr kp).tr kq9).tr kr).tr ks) id⟩
      · refine And.intro (fun e9 => (by omega : False).elim) (fun _ => ?_)
        refine And.intro (fun e9 => (by omega : False).elim) (fun _ => ?_)
        show doC 31 20660 10 (sp cl_L_areModels) [] X (kq 2 31 20660 10 (sp cl_L_areModels) Rt X code_L_areModels 3844 (code_L_areModels.drop 220)) 386 389 [some (aX 0), some (.inl n), some (.inl 1), some (.inl (vl w (asg w (nxt w 0)) n)), some (.inl (nvF f)), some (.inl (fxB w n))] go 27 20636 158 [aX 0, .inl 200] []
        refine dcQ (cs := s_X9_models) (by rfl) (mc := 1) (ms := 6) (ht := 7) (by rfl) (by rfl) (p_models hW ic co) ?_
        intro gp cp9 kp
        refine And.intro (fun e5 => ?_) (fun e6 => ?_)
        · refine And.intro (fun e9 => (by omega : False).elim) (fun _ => ?_)
          show doC 31 20660 10 (sp cl_L_areModels) [] X (kq 2 31 20660 10 (sp cl_L_areModels) Rt X code_L_areModels 3832 (code_L_areModels.drop 235)) 417 420 [some (aX 0), some (.inl n), some (.inl 1), some (.inl (vl w (asg w (nxt w 0)) n)), some (.inl (nvF f)), some (.inl (fxB w n))] gp 28 20642 341 [aX 0, .inl 1, .inl n] []
          refine dcN (cs := s_L_inputs) (by rfl) (mc := 0) (ms := 0) (ht := 8) (by rfl) (by rfl) (p_inputs (way := 1) hW ic cp9 n0 n1 (by decide) (Box.i ⟨by omega, fun _ => bg, by omega, by omega⟩) mg) ?_
          intro ud pd sd gq cq kq9 id
          obtain ⟨id, jd⟩ := id
          refine And.intro (fun e9 => (by omega : False).elim) (fun _ => ?_)
          show doC 31 20660 10 (sp cl_L_areModels) [] X (kq 2 31 20660 10 (sp cl_L_areModels) Rt X code_L_areModels 3828 (code_L_areModels.drop 239)) 425 428 [some (aX 0), some (.inl n), some (.inl 1), some (.inl (vl w (asg w (nxt w 0)) n)), some (.inl (nvF f)), some (.inl (fxB w n))] gq 28 20642 340 [aX 0] []
          refine dcQ (cs := s_L_isModel) (by rfl) (mc := 0) (ms := 0) (ht := 6) (by rfl) (by rfl) (p_isModel hW id cq jd y3) ?_
          intro gr cr kr
          refine And.intro (fun e9 => (by omega : False).elim) (fun _ => ?_)
          show doC 31 20660 10 (sp cl_L_areModels) [] X (kq 2 31 20660 10 (sp cl_L_areModels) Rt X code_L_areModels 3825 (code_L_areModels.drop 242)) 432 435 [some (aX 0), some (.inl n), some (.inl 1), some (.inl (vl w (asg w (nxt w 0)) n)), some (.inl (nvF f)), some (.inl (fxB w n))] gr 28 20642 343 [aX 0] []
          refine dcQ (cs := s_L_isGain) (by rfl) (mc := 0) (ms := 0) (ht := 9) (by rfl) (by rfl) (p_isGain hW id cr z) ?_
          intro gs cs9 ks
          refine And.intro (fun e9 => (by omega : False).elim) (fun _ => ?_)
          exact ⟨Or.inr rfl, K gs ud pd sd cs9 ((((kall.tr kp).tr kq9).tr kr).tr ks) id⟩
        · refine And.intro (fun e9 => (by omega : False).elim) (fun _ => ?_)
          show doC 31 20660 10 (sp cl_L_areModels) [] X (kq 2 31 20660 10 (sp cl_L_areModels) Rt X code_L_areModels 3831 (code_L_areModels.drop 235)) 417 420 [some (aX 0), some (.inl n), some (.inl 1), some (.inl (vl w (asg w (nxt w 0)) n)), some (.inl (nvF f)), some (.inl (fxB w n))] gp 28 20642 341 [aX 0, .inl 1, .inl n] []
          refine dcN (cs := s_L_inputs) (by rfl) (mc := 0) (ms := 0) (ht := 8) (by rfl) (by rfl) (p_inputs (way := 1) hW ic cp9 n0 n1 (by decide) (Box.i ⟨by omega, fun _ => bg, by omega, by omega⟩) mg) ?_
          intro ud pd sd gq cq kq9 id
          obtain ⟨id, jd⟩ := id
          refine And.intro (fun e9 => (by omega : False).elim) (fun _ => ?_)
          show doC 31 20660 10 (sp cl_L_areModels) [] X (kq 2 31 20660 10 (sp cl_L_areModels) Rt X code_L_areModels 3827 (code_L_areModels.drop 239)) 425 428 [some (aX 0), some (.inl n), some (.inl 1), some (.inl (vl w (asg w (nxt w 0)) n)), some (.inl (nvF f)), some (.inl (fxB w n))] gq 28 20642 340 [aX 0] []
          refine dcQ (cs := s_L_isModel) (by rfl) (mc := 0) (ms := 0) (ht := 6) (by rfl) (by rfl) (p_isModel hW id cq jd y3) ?_
          intro gr cr kr
          refine And.intro (fun e9 => (by omega : False).elim) (fun _ => ?_)
          show doC 31 20660 10 (sp cl_L_areModels) [] X (kq 2 31 20660 10 (sp cl_L_areModels) Rt X code_L_areModels 3824 (code_L_areModels.drop 242)) 432 435 [some (aX 0), some (.inl n), some (.inl 1), some (.inl (vl w (asg w (nxt w 0)) n)), some (.inl (nvF f)), some (.inl (fxB w n))] gr 28 20642 343 [aX 0] []
          refine dcQ (cs := s_L_isGain) (by rfl) (mc := 0) (ms := 0) (ht := 9) (by rfl) (by rfl) (p_isGain hW id cr z) ?_
          intro gs cs9 ks
          refine And.intro (fun e9 => (by omega : False).elim) (fun _ => ?_)
          exact ⟨Or.inr rfl, K gs ud pd sd cs9 ((((kall.tr kp).tr kq9).tr kr).tr ks) id⟩
    · have t1 := t1 e2
      refine And.intro ⟨by omega, by omega⟩ ?_
      show doC 31 20660 10 (sp cl_L_areModels) [] X (kq 2 31 20660 10 (sp cl_L_areModels) Rt X code_L_areModels 3913 (code_L_areModels.drop 135)) 239 242 [some (aX 0), some (.inl n), some (.inl 1), some (.inl (vl w (asg w (nxt w 0)) n)), some (.inl (nvF f)), none] gg 13 20552 160 [aX 0, .inl n, .inl ((nvF f) - 1)] []
      refine dcQ (cs := s_X9_valueAt) (by rfl) (mc := 1) (ms := 6) (ht := 7) (by rfl) (by rfl) (p_valueAt hW ic cg n0 n1 (by omega) (by omega) hf) ?_
      intro gy cy ky
      show doC 31 20660 10 (sp cl_L_areModels) [] X (kq 2 31 20660 10 (sp cl_L_areModels) Rt X code_L_areModels 3908 (code_L_areModels.drop 140)) 246 249 [some (aX 0), some (.inl n), some (.inl 1), some (.inl (vl w (asg w (nxt w 0)) n)), some (.inl (nvF f)), none] gy 14 20558 155 [aX 0, .inl n, .inl 1, .inl 0] [.inl (kthW f (nvF f - 1))]
      refine dcQ (cs := s_X9_extreme) (by rfl) (mc := 2) (ms := 12) (ht := 7) (by rfl) (by rfl) (p_extreme hW ic cy n0 n1 z b1) ?_
      intro gz cz kz
      refine And.intro (fun e9 => (by omega : False).elim) (fun _ => ?_)
      show doC 31 20660 10 (sp cl_L_areModels) [] X (kq 2 31 20660 10 (sp cl_L_areModels) Rt X code_L_areModels 3903 (code_L_areModels.drop 145)) 257 260 [some (aX 0), some (.inl n), some (.inl 1), some (.inl (vl w (asg w (nxt w 0)) n)), some (.inl (nvF f)), none] gz 16 20570 160 [aX 0, .inl n, .inl 200] []
      refine dcQ (cs := s_X9_valueAt) (by rfl) (mc := 1) (ms := 6) (ht := 7) (by rfl) (by rfl) (q_valueNo cz n0 (p_lt hW ic n1) (by decide)) ?_
      intro gh ch kh
      refine And.intro (fun e9 => (by omega : False).elim) (fun _ => ?_)
      refine And.intro (fun e9 => (by omega : False).elim) (fun _ => ?_)
      have kall := (((kall.tr ky).tr kz).tr kh)
      show doC 31 20660 10 (sp cl_L_areModels) [] X (kq 2 31 20660 10 (sp cl_L_areModels) Rt X code_L_areModels 3891 (code_L_areModels.drop 158)) 278 281 [some (aX 0), some (.inl n), some (.inl 1), some (.inl (vl w (asg w (nxt w 0)) n)), some (.inl (nvF f)), none] gh 17 20576 155 [aX 0, .inl n, .inl 0, .inl 1] []
      refine dcQ (cs := s_X9_extreme) (by rfl) (mc := 2) (ms := 12) (ht := 7) (by rfl) (by rfl) (p_extreme hW ic ch n0 n1 z d0) ?_
      intro gi ci ki
      show doC 31 20660 10 (sp cl_L_areModels) [] X (kq 2 31 20660 10 (sp cl_L_areModels) Rt X code_L_areModels 3886 (code_L_areModels.drop 163)) 285 288 [some (aX 0), some (.inl n), some (.inl 1), some (.inl (vl w (asg w (nxt w 0)) n)), some (.inl (nvF f)), none] gi 19 20588 155 [aX 0, .inl n, .inl 1, .inl 1] [.inl (gV w n 1 q0)]
      refine dcQ (cs := s_X9_extreme) (by rfl) (mc := 2) (ms := 12) (ht := 7) (by rfl) (by rfl) (p_extreme hW ic ci n0 n1 z d1) ?_
      intro gj cj kj
      refine And.intro (fun e9 => (by omega : False).elim) (fun _ => ?_)
      show doC 31 20660 10 (sp cl_L_areModels) [] X (kq 2 31 20660 10 (sp cl_L_areModels) Rt X code_L_areModels 3880 (code_L_areModels.drop 169)) 295 298 [some (aX 0), some (.inl n), some (.inl 1), some (.inl (vl w (asg w (nxt w 0)) n)), some (.inl (nvF f)), none] gj 21 20600 155 [aX 0, .inl n, .inl 0, .inl 0] []
      refine dcQ (cs := s_X9_extreme) (by rfl) (mc := 2) (ms := 12) (ht := 7) (by rfl) (by rfl) (p_extreme hW ic cj n0 n1 z b0) ?_
      intro gk ck kk
      refine And.intro (fun e9 => (by omega : False).elim) (fun _ => ?_)
      show doC 31 20660 10 (sp cl_L_areModels) [] X (kq 2 31 20660 10 (sp cl_L_areModels) Rt X code_L_areModels 3872 (code_L_areModels.drop 177)) 307 310 [some (aX 0), some (.inl n), some (.inl 1), some (.inl (vl w (asg w (nxt w 0)) n)), some (.inl (nvF f)), none] gk 23 20612 155 [aX 0, .inl n, .inl 1, .inl 0] [.inl (vl w (asg w (nxt w 0)) n)]
      refine dcQ (cs := s_X9_extreme) (by rfl) (mc := 2) (ms := 12) (ht := 7) (by rfl) (by rfl) (p_extreme hW ic ck n0 n1 z b1) ?_
      intro gl cl9 kl
      refine And.intro (fun e9 => (by omega : False).elim) (fun _ => ?_)
      show doC 31 20660 10 (sp cl_L_areModels) [] X (kq 2 31 20660 10 (sp cl_L_areModels) Rt X code_L_areModels 3864 (code_L_areModels.drop 186)) 322 325 [some (aX 0), some (.inl n), some (.inl 1), some (.inl (vl w (asg w (nxt w 0)) n)), some (.inl (nvF f)), none] gl 25 20624 157 [aX 0, .inl n, .inl 0] []
      refine dcQ (cs := s_X9_fixed) (by rfl) (mc := 1) (ms := 6) (ht := 7) (by rfl) (by rfl) (p_fixedB hW ic cl9 n0 n1 z) ?_
      intro gm cm km
      refine And.intro (fun e9 => (by omega : False).elim) (fun _ => ?_)
      show doC 31 20660 10 (sp cl_L_areModels) [] X (kq 2 31 20660 10 (sp cl_L_areModels) Rt X code_L_areModels 3857 (code_L_areModels.drop 193)) 334 337 [some (aX 0), some (.inl n), some (.inl 1), some (.inl (vl w (asg w (nxt w 0)) n)), some (.inl (nvF f)), some (.inl (fxB w n))] gm 26 20630 147 [aX 0, .inl n, .inl 0] []
      refine dcQ (cs := s_X9_value) (by rfl) (mc := 1) (ms := 6) (ht := 5) (by rfl) (by rfl) (p_value hW ic cm jc n0 n1) ?_
      intro gn cn9 kn
      show doC 31 20660 10 (sp cl_L_areModels) [] X (kq 2 31 20660 10 (sp cl_L_areModels) Rt X code_L_areModels 3851 (code_L_areModels.drop 199)) 343 346 [some (aX 0), some (.inl n), some (.inl 1), some (.inl (vl w (asg w (nxt w 0)) n)), some (.inl (nvF f)), some (.inl (fxB w n))] gn 27 20636 157 [aX 0, .inl n, .inl 1] [.inl (bAnd (vl w (asg w r1) n) (fxB w n))]
      refine dcQ (cs := s_X9_fixed) (by rfl) (mc := 1) (ms := 6) (ht := 7) (by rfl) (by rfl) (p_fixedV hW ic cn9 n0 n1 z) ?_
      intro go co ko
      refine And.intro (fun e9 => (by omega : False).elim) (fun _ => ?_)
      show doC 31 20660 10 (sp cl_L_areModels) [] X (kq 2 31 20660 10 (sp cl_L_areModels) Rt X code_L_areModels 3845 (code_L_areModels.drop 205)) 354 357 [some (aX 0), some (.inl n), some (.inl 1), some (.inl (vl w (asg w (nxt w 0)) n)), some (.inl (nvF f)), some (.inl (fxB w n))] go 28 20642 145 [aX 0, .inl n, .inl 1] [.inl (fxB w n)]
      refine dcH (cs := s_X9_info) (by rfl) (mc := 2) (ms := 12) (ht := 3) (by rfl) (by rfl) (p_width hW ic co n0 n1) ?_
      show doC 31 20660 10 (sp cl_L_areModels) [] X (kq 2 31 20660 10 (sp cl_L_areModels) Rt X code_L_areModels 3844 (code_L_areModels.drop 206)) 357 360 [some (aX 0), some (.inl n), some (.inl 1), some (.inl (vl w (asg w (nxt w 0)) n)), some (.inl (nvF f)), some (.inl (fxB w n))] go 30 20654 337 [.inl (nd w n 1)] [.inl (fxB w n)]
      refine dcH (cs := s_L_mask) (by rfl) (mc := 0) (ms := 0) (ht := 1) (by rfl) (by rfl) (mask_h (hW.wd n0 n1)) ?_
      have kall := (((((((kall.tr ki).tr kj).tr kk).tr kl).tr km).tr kn).tr ko)
      refine And.intro (fun e3 => ?_) (fun e4 => ?_)
      · refine And.intro (fun _ => ?_) (fun e9 => (by omega : False).elim)
        refine And.intro (fun e9 => (by omega : False).elim) (fun _ => ?_)
        show doC 31 20660 10 (sp cl_L_areModels) [] X (kq 2 31 20660 10 (sp cl_L_areModels) Rt X code_L_areModels 3834 (code_L_areModels.drop 220)) 386 389 [some (aX 0), some (.inl n), some (.inl 1), some (.inl (vl w (asg w (nxt w 0)) n)), some (.inl (nvF f)), some (.inl (fxB w n))] go 30 20654 158 [aX 0, .inl 200] []
        refine dcQ (cs := s_X9_models) (by rfl) (mc := 1) (ms := 6) (ht := 7) (by rfl) (by rfl) (p_models hW ic co) ?_
        intro gp cp9 kp
        refine And.intro (fun e5 => ?_) (fun e6 => ?_)
        · refine And.intro (fun e9 => (by omega : False).elim) (fun _ => ?_)
          show doC 31 20660 10 (sp cl_L_areModels) [] X (kq 2 31 20660 10 (sp cl_L_areModels) Rt X code_L_areModels 3822 (code_L_areModels.drop 235)) 417 420 [some (aX 0), some (.inl n), some (.inl 1), some (.inl (vl w (asg w (nxt w 0)) n)), some (.inl (nvF f)), some (.inl (fxB w n))] gp 31 20660 341 [aX 0, .inl 1, .inl n] []
          refine dcN (cs := s_L_inputs) (by rfl) (mc := 0) (ms := 0) (ht := 8) (by rfl) (by rfl) (p_inputs (way := 1) hW ic cp9 n0 n1 (by decide) (Box.i ⟨by omega, fun _ => bg, by omega, by omega⟩) mg) ?_
          intro ud pd sd gq cq kq9 id
          obtain ⟨id, jd⟩ := id
          refine And.intro (fun e9 => (by omega : False).elim) (fun _ => ?_)
          show doC 31 20660 10 (sp cl_L_areModels) [] X (kq 2 31 20660 10 (sp cl_L_areModels) Rt X code_L_areModels 3818 (code_L_areModels.drop 239)) 425 428 [some (aX 0), some (.inl n), some (.inl 1), some (.inl (vl w (asg w (nxt w 0)) n)), some (.inl (nvF f)), some (.inl (fxB w n))] gq 31 20660 340 [aX 0] []
          refine dcQ (cs := s_L_isModel) (by rfl) (mc := 0) (ms := 0) (ht := 6) (by rfl) (by rfl) (p_isModel hW id cq jd y3) ?_
          intro gr cr kr
          refine And.intro (fun e9 => (by omega : False).elim) (fun _ => ?_)
          show doC 31 20660 10 (sp cl_L_areModels) [] X (kq 2 31 20660 10 (sp cl_L_areModels) Rt X code_L_areModels 3815 (code_L_areModels.drop 242)) 432 435 [some (aX 0), some (.inl n), some (.inl 1), some (.inl (vl w (asg w (nxt w 0)) n)), some (.inl (nvF f)), some (.inl (fxB w n))] gr 31 20660 343 [aX 0] []
          refine dcQ (cs := s_L_isGain) (by rfl) (mc := 0) (ms := 0) (ht := 9) (by rfl) (by rfl) (p_isGain hW id cr z) ?_
          intro gs cs9 ks
          refine And.intro (fun e9 => (by omega : False).elim) (fun _ => ?_)
          exact ⟨Or.inr rfl, K gs ud pd sd cs9 ((((kall.tr kp).tr kq9).tr kr).tr ks) id⟩
        · refine And.intro (fun e9 => (by omega : False).elim) (fun _ => ?_)
          show doC 31 20660 10 (sp cl_L_areModels) [] X (kq 2 31 20660 10 (sp cl_L_areModels) Rt X code_L_areModels 3821 (code_L_areModels.drop 235)) 417 420 [some (aX 0), some (.inl n), some (.inl 1), some (.inl (vl w (asg w (nxt w 0)) n)), some (.inl (nvF f)), some (.inl (fxB w n))] gp 31 20660 341 [aX 0, .inl 1, .inl n] []
          refine dcN (cs := s_L_inputs) (by rfl) (mc := 0) (ms := 0) (ht := 8) (by rfl) (by rfl) (p_inputs (way := 1) hW ic cp9 n0 n1 (by decide) (Box.i ⟨by omega, fun _ => bg, by omega, by omega⟩) mg) ?_
          intro ud pd sd gq cq kq9 id
          obtain ⟨id, jd⟩ := id
          refine And.intro (fun e9 => (by omega : False).elim) (fun _ => ?_)
          show doC 31 20660 10 (sp cl_L_areModels) [] X (kq 2 31 20660 10 (sp cl_L_areModels) Rt X code_L_areModels 3817 (code_L_areModels.drop 239)) 425 428 [some (aX 0), some (.inl n), some (.inl 1), some (.inl (vl w (asg w (nxt w 0)) n)), some (.inl (nvF f)), some (.inl (fxB w n))] gq 31 20660 340 [aX 0] []
          refine dcQ (cs := s_L_isModel) (by rfl) (mc := 0) (ms := 0) (ht := 6) (by rfl) (by rfl) (p_isModel hW id cq jd y3) ?_
          intro gr cr kr
          refine And.intro (fun e9 => (by omega : False).elim) (fun _ => ?_)
          show doC 31 20660 10 (sp cl_L_areModels) [] X (kq 2 31 20660 10 (sp cl_L_areModels) Rt X code_L_areModels 3814 (code_L_areModels.drop 242)) 432 435 [some (aX 0), some (.inl n), some (.inl 1), some (.inl (vl w (asg w (nxt w 0)) n)), some (.inl (nvF f)), some (.inl (fxB w n))] gr 31 20660 343 [aX 0] []
          refine dcQ (cs := s_L_isGain) (by rfl) (mc := 0) (ms := 0) (ht := 9) (by rfl) (by rfl) (p_isGain hW id cr z) ?_
          intro gs cs9 ks
          refine And.intro (fun e9 => (by omega : False).elim) (fun _ => ?_)
          exact ⟨Or.inr rfl, K gs ud pd sd cs9 ((((kall.tr kp).tr kq9).tr kr).tr ks) id⟩
      · refine And.intro (fun e9 => (by omega : False).elim) (fun _ => ?_)
        refine And.intro (fun e9 => (by omega : False).elim) (fun _ => ?_)
        show doC 31 20660 10 (sp cl_L_areModels) [] X (kq 2 31 20660 10 (sp cl_L_areModels) Rt X code_L_areModels 3832 (code_L_areModels.drop 220)) 386 389 [some (aX 0), some (.inl n), some (.inl 1), some (.inl (vl w (asg w (nxt w 0)) n)), some (.inl (nvF f)), some (.inl (fxB w n))] go 30 20654 158 [aX 0, .inl 200] []
        refine dcQ (cs := s_X9_models) (by rfl) (mc := 1) (ms := 6) (ht := 7) (by rfl) (by rfl) (p_models hW ic co) ?_
        intro gp cp9 kp
        refine And.intro (fun e5 => ?_) (fun e6 => ?_)
        · refine And.intro (fun e9 => (by omega : False).elim) (fun _ => ?_)
          show doC 31 20660 10 (sp cl_L_areModels) [] X (kq 2 31 20660 10 (sp cl_L_areModels) Rt X code_L_areModels 3820 (code_L_areModels.drop 235)) 417 420 [some (aX 0), some (.inl n), some (.inl 1), some (.inl (vl w (asg w (nxt w 0)) n)), some (.inl (nvF f)), some (.inl (fxB w n))] gp 31 20660 341 [aX 0, .inl 1, .inl n] []
          refine dcN (cs := s_L_inputs) (by rfl) (mc := 0) (ms := 0) (ht := 8) (by rfl) (by rfl) (p_inputs (way := 1) hW ic cp9 n0 n1 (by decide) (Box.i ⟨by omega, fun _ => bg, by omega, by omega⟩) mg) ?_
          intro ud pd sd gq cq kq9 id
          obtain ⟨id, jd⟩ := id
          refine And.intro (fun e9 => (by omega : False).elim) (fun _ => ?_)
          show doC 31 20660 10 (sp cl_L_areModels) [] X (kq 2 31 20660 10 (sp cl_L_areModels) Rt X code_L_areModels 3816 (code_L_areModels.drop 239)) 425 428 [some (aX 0), some (.inl n), some (.inl 1), some (.inl (vl w (asg w (nxt w 0)) n)), some (.inl (nvF f)), some (.inl (fxB w n))] gq 31 20660 340 [aX 0] []
          refine dcQ (cs := s_L_isModel) (by rfl) (mc := 0) (ms := 0) (ht := 6) (by rfl) (by rfl) (p_isModel hW id cq jd y3) ?_
          intro gr cr kr
          refine And.intro (fun e9 => (by omega : False).elim) (fun _ => ?_)
          show doC 31 20660 10 (sp cl_L_areModels) [] X (kq 2 31 20660 10 (sp cl_L_areModels) Rt X code_L_areModels 3813 (code_L_areModels.drop 242)) 432 435 [some (aX 0), some (.inl n), some (.inl 1), some (.inl (vl w (asg w (nxt w 0)) n)), some (.inl (nvF f)), some (.inl (fxB w n))] gr 31 20660 343 [aX 0] []
          refine dcQ (cs := s_L_isGain) (by rfl) (mc := 0) (ms := 0) (ht := 9) (by rfl) (by rfl) (p_isGain hW id cr z) ?_
          intro gs cs9 ks
          refine And.intro (fun e9 => (by omega : False).elim) (fun _ => ?_)
          exact ⟨Or.inr rfl, K gs ud pd sd cs9 ((((kall.tr kp).tr kq9).tr kr).tr ks) id⟩
        · refine And.intro (fun e9 => (by omega : False).elim) (fun _ => ?_)
          show doC 31 20660 10 (sp cl_L_areModels) [] X (kq 2 31 20660 10 (sp cl_L_areModels) Rt X code_L_areModels 3819 (code_L_areModels.drop 235)) 417 420 [some (aX 0), some (.inl n), some (.inl 1), some (.inl (vl w (asg w (nxt w 0)) n)), some (.inl (nvF f)), some (.inl (fxB w n))] gp 31 20660 341 [aX 0, .inl 1, .inl n] []
          refine dcN (cs := s_L_inputs) (by rfl) (mc := 0) (ms := 0) (ht := 8) (by rfl) (by rfl) (p_inputs (way := 1) hW ic cp9 n0 n1 (by decide) (Box.i ⟨by omega, fun _ => bg, by omega, by omega⟩) mg) ?_
          intro ud pd sd gq cq kq9 id
          obtain ⟨id, jd⟩ := id
          refine And.intro (fun e9 => (by omega : False).elim) (fun _ => ?_)
          show doC 31 20660 10 (sp cl_L_areModels) [] X (kq 2 31 20660 10 (sp cl_L_areModels) Rt X code_L_areModels 3815 (code_L_areModels.drop 239)) 425 428 [some (aX 0), some (.inl n), some (.inl 1), some (.inl (vl w (asg w (nxt w 0)) n)), some (.inl (nvF f)), some (.inl (fxB w n))] gq 31 20660 340 [aX 0] []
          refine dcQ (cs := s_L_isModel) (by rfl) (mc := 0) (ms := 0) (ht := 6) (by rfl) (by rfl) (p_isModel hW id cq jd y3) ?_
          intro gr cr kr
          refine And.intro (fun e9 => (by omega : False).elim) (fun _ => ?_)
          show doC 31 20660 10 (sp cl_L_areModels) [] X (kq 2 31 20660 10 (sp cl_L_areModels) Rt X code_L_areModels 3812 (code_L_areModels.drop 242)) 432 435 [some (aX 0), some (.inl n), some (.inl 1), some (.inl (vl w (asg w (nxt w 0)) n)), some (.inl (nvF f)), some (.inl (fxB w n))] gr 31 20660 343 [aX 0] []
          refine dcQ (cs := s_L_isGain) (by rfl) (mc := 0) (ms := 0) (ht := 9) (by rfl) (by rfl) (p_isGain hW id cr z) ?_
          intro gs cs9 ks
          refine And.intro (fun e9 => (by omega : False).elim) (fun _ => ?_)
          exact ⟨Or.inr rfl, K gs ud pd sd cs9 ((((kall.tr kp).tr kq9).tr kr).tr ks) id⟩
theorem m_L_areModels : MM 342 s_L_areModels := mm_of (own := 11) (by rfl) k_L_areModels (cl := cl_L_areModels) mc_L_areModels o_L_areModels

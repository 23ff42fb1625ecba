/-! ===== two nodes compared ===== -/
def s_L_areCompared : CS := (xc 18 108 8, ap [(3, 0), (0, 0), (0, 0)] (fun a b h Rt X =>
∃ w ps s, CI h w ps s ∧ (0 ≤ a ∧ a < w 0 ∧ 0 ≤ b ∧ b < w 0 ∧ nd w a 1 = nd w b 1) ∧ Go h w ps s (Rt (some (.inl 1)))))
def cl_L_areCompared : List (Nat × CS) := [(161, wk s_X9_equivalent), (144, wk s_X9_variables), (162, wk s_X9_counterexample), (153, wk s_X9_satisfiable), (154, wk s_X9_witness)]
theorem mc_L_areCompared : allMM cl_L_areCompared := ⟨mm_wk m_X9_equivalent, mm_wk m_X9_variables, mm_wk m_X9_counterexample, mm_wk m_X9_satisfiable, mm_wk m_X9_witness, trivial⟩
set_option maxRecDepth 100000 in
set_option maxHeartbeats 4000000 in
theorem o_L_areCompared : Obl true 2 6 (sp cl_L_areCompared) [] code_L_areCompared s_L_areCompared := by
  refine obl0x (by rfl) ?_
  intro a r_a b r_b h Rt X hh hf hs
  obtain ⟨w, ps, s, hC, ⟨a0, a1, b0, b1, e⟩, K⟩ := hs
  have hW := hC.wf
  have vn := hW.vn
  have tr := tot_rng hW
  have sy := dfM_sym w b a
  have se := dfM_self w a
  by_cases z : dfM w a b = -1
  · show doC 18 108 8 (sp cl_L_areCompared) [] X (kq 2 18 108 8 (sp cl_L_areCompared) Rt X code_L_areCompared 3996 (code_L_areCompared.drop 4)) 3 6 [some (aX 0), some (.inl a), some (.inl b), none, none, none] h 0 0 161 [aX 0, .inl a, .inl b] []
    refine dcQ (cs := s_X9_equivalent) (by rfl) (mc := 3) (ms := 18) (ht := 7) (by rfl) (by rfl) (q_eqT hC a0 a1 b0 b1 e z) ?_
    intro g1 c1 k1
    show doC 18 108 8 (sp cl_L_areCompared) [] X (kq 2 18 108 8 (sp cl_L_areCompared) Rt X code_L_areCompared 3991 (code_L_areCompared.drop 9)) 10 13 [some (aX 0), some (.inl a), some (.inl b), some (.inl 1), none, none] g1 3 18 161 [aX 0, .inl b, .inl a] []
    refine dcQ (cs := s_X9_equivalent) (by rfl) (mc := 3) (ms := 18) (ht := 7) (by rfl) (by rfl) (q_eqT c1 b0 b1 a0 a1 e.symm (by rw [sy]; exact z)) ?_
    intro g2 c2 k2
    refine And.intro (fun e9 => (by omega : False).elim) (fun _ => ?_)
    show doC 18 108 8 (sp cl_L_areCompared) [] X (kq 2 18 108 8 (sp cl_L_areCompared) Rt X code_L_areCompared 3985 (code_L_areCompared.drop 15)) 20 23 [some (aX 0), some (.inl a), some (.inl b), some (.inl 1), none, none] g2 6 36 161 [aX 0, .inl a, .inl a] []
    refine dcQ (cs := s_X9_equivalent) (by rfl) (mc := 3) (ms := 18) (ht := 7) (by rfl) (by rfl) (q_eqT c2 a0 a1 a0 a1 rfl se) ?_
    intro g3 c3 k3
    refine And.intro (fun e9 => (by omega : False).elim) (fun _ => ?_)
    show doC 18 108 8 (sp cl_L_areCompared) [] X (kq 2 18 108 8 (sp cl_L_areCompared) Rt X code_L_areCompared 3979 (code_L_areCompared.drop 22)) 34 37 [some (aX 0), some (.inl a), some (.inl b), some (.inl 1), some (.inl 1), none] g3 9 54 144 [aX 0] []
    refine dcH (cs := s_X9_variables) (by rfl) (mc := 0) (ms := 0) (ht := 2) (by rfl) (by rfl) (q_variables c3) ?_
    refine And.intro (fun e1 => ?_) (fun e2 => ?_)
    · exact ⟨Or.inr rfl, K g3 c3 ((k1.tr k2).tr k3)⟩
    · show doC 18 108 8 (sp cl_L_areCompared) [] X (kq 2 18 108 8 (sp cl_L_areCompared) Rt X code_L_areCompared 3973 (code_L_areCompared.drop 28)) 44 47 [some (aX 0), some (.inl a), some (.inl b), some (.inl 1), some (.inl 1), none] g3 9 54 162 [aX 0, .inl a, .inl b, .inl 0] []
      refine dcQ (cs := s_X9_counterexample) (by rfl) (mc := 4) (ms := 24) (ht := 7) (by rfl) (by rfl) (q_counter c3 a0 a1 b0 b1 (by decide) e2 e) ?_
      intro g4 c4 k4
      have d1 : wrd w (dfM w a b) 0 = -1 := by rw [z]; rfl
      refine And.intro (fun e9 => (by omega : False).elim) (fun _ => ?_)
      refine And.intro (fun e9 => (by omega : False).elim) (fun _ => ?_)
      refine And.intro (fun e9 => (by omega : False).elim) (fun _ => ?_)
      refine And.intro (fun _ => ?_) (fun e9 => (by omega : False).elim)
      exact ⟨Or.inr rfl, K g4 c4 (((k1.tr k2).tr k3).tr k4)⟩
  · have dn := dfM_at z (by omega)
    have nl := nxt_le dn.1 dn.2.1 dn.2.2
    have ns := nxt_some nl.1
    show doC 18 108 8 (sp cl_L_areCompared) [] X (kq 2 18 108 8 (sp cl_L_areCompared) Rt X code_L_areCompared 3996 (code_L_areCompared.drop 4)) 3 6 [some (aX 0), some (.inl a), some (.inl b), none, none, none] h 0 0 161 [aX 0, .inl a, .inl b] []
    refine dcQ (cs := s_X9_equivalent) (by rfl) (mc := 3) (ms := 18) (ht := 7) (by rfl) (by rfl) (q_eqF hC a0 a1 b0 b1 e z) ?_
    intro g1 c1 k1
    show doC 18 108 8 (sp cl_L_areCompared) [] X (kq 2 18 108 8 (sp cl_L_areCompared) Rt X code_L_areCompared 3991 (code_L_areCompared.drop 9)) 10 13 [some (aX 0), some (.inl a), some (.inl b), some (.inl 0), none, none] g1 3 18 161 [aX 0, .inl b, .inl a] []
    refine dcQ (cs := s_X9_equivalent) (by rfl) (mc := 3) (ms := 18) (ht := 7) (by rfl) (by rfl) (q_eqF c1 b0 b1 a0 a1 e.symm (by rw [sy]; exact z)) ?_
    intro g2 c2 k2
    refine And.intro (fun e9 => (by omega : False).elim) (fun _ => ?_)
    show doC 18 108 8 (sp cl_L_areCompared) [] X (kq 2 18 108 8 (sp cl_L_areCompared) Rt X code_L_areCompared 3985 (code_L_areCompared.drop 15)) 20 23 [some (aX 0), some (.inl a), some (.inl b), some (.inl 0), none, none] g2 6 36 161 [aX 0, .inl a, .inl a] []
    refine dcQ (cs := s_X9_equivalent) (by rfl) (mc := 3) (ms := 18) (ht := 7) (by rfl) (by rfl) (q_eqT c2 a0 a1 a0 a1 rfl se) ?_
    intro g3 c3 k3
    refine And.intro (fun e9 => (by omega : False).elim) (fun _ => ?_)
    show doC 18 108 8 (sp cl_L_areCompared) [] X (kq 2 18 108 8 (sp cl_L_areCompared) Rt X code_L_areCompared 3979 (code_L_areCompared.drop 22)) 34 37 [some (aX 0), some (.inl a), some (.inl b), some (.inl 0), some (.inl 1), none] g3 9 54 144 [aX 0] []
    refine dcH (cs := s_X9_variables) (by rfl) (mc := 0) (ms := 0) (ht := 2) (by rfl) (by rfl) (q_variables c3) ?_
    refine And.intro (fun e1 => ?_) (fun e2 => ?_)
    · exact ⟨Or.inr rfl, K g3 c3 ((k1.tr k2).tr k3)⟩
    · show doC 18 108 8 (sp cl_L_areCompared) [] X (kq 2 18 108 8 (sp cl_L_areCompared) Rt X code_L_areCompared 3973 (code_L_areCompared.drop 28)) 44 47 [some (aX 0), some (.inl a), some (.inl b), some (.inl 0), some (.inl 1), none] g3 9 54 162 [aX 0, .inl a, .inl b, .inl 0] []
      refine dcQ (cs := s_X9_counterexample) (by rfl) (mc := 4) (ms := 24) (ht := 7) (by rfl) (by rfl) (q_counter c3 a0 a1 b0 b1 (by decide) e2 e) ?_
      intro g4 c4 k4
      have d1 : wrd w (dfM w a b) 0 = asg w (dfM w a b) 0 := if_neg z
      have d2 : wrd w (nxt w 0) 0 = asg w (nxt w 0) 0 := if_neg nl.1
      have d3 : wrd w (dfM w b a) 0 = wrd w (dfM w a b) 0 := by rw [sy]
      have d4 := asg_mono hW e2 ns.1 nl.2 dn.2.1
      have d5 : 0 ≤ asg w (dfM w a b) 0 := asg_nn _ _
      refine And.intro (fun e9 => (by omega : False).elim) (fun _ => ?_)
      refine And.intro (fun _ => ?_) (fun e9 => (by omega : False).elim)
      refine And.intro (fun e9 => (by omega : False).elim) (fun _ => ?_)
      refine And.intro (fun e9 => (by omega : False).elim) (fun _ => ?_)
      show doC 18 108 8 (sp cl_L_areCompared) [] X (kq 2 18 108 8 (sp cl_L_areCompared) Rt X code_L_areCompared 3957 (code_L_areCompared.drop 46)) 77 80 [some (aX 0), some (.inl a), some (.inl b), some (.inl 0), some (.inl 1), some (.inl (wrd w (dfM w a b) 0))] g4 13 78 162 [aX 0, .inl b, .inl a, .inl 0] []
      refine dcQ (cs := s_X9_counterexample) (by rfl) (mc := 4) (ms := 24) (ht := 7) (by rfl) (by rfl) (q_counter c4 b0 b1 a0 a1 (by decide) e2 e.symm) ?_
      intro g5 c5 k5
      refine And.intro (fun e9 => (by omega : False).elim) (fun _ => ?_)
      show doC 18 108 8 (sp cl_L_areCompared) [] X (kq 2 18 108 8 (sp cl_L_areCompared) Rt X code_L_areCompared 3952 (code_L_areCompared.drop 51)) 88 91 [some (aX 0), some (.inl a), some (.inl b), some (.inl 0), some (.inl 1), some (.inl (wrd w (dfM w a b) 0))] g5 17 102 153 [aX 0] [.inl (wrd w (dfM w a b) 0)]
      refine dcQ (cs := s_X9_satisfiable) (by rfl) (mc := 0) (ms := 0) (ht := 7) (by rfl) (by rfl) (q_satT c5 nl.1) ?_
      intro g6 c6 k6
      refine And.intro (fun e9 => (by omega : False).elim) (fun _ => ?_)
      show doC 18 108 8 (sp cl_L_areCompared) [] X (kq 2 18 108 8 (sp cl_L_areCompared) Rt X code_L_areCompared 3948 (code_L_areCompared.drop 55)) 96 99 [some (aX 0), some (.inl a), some (.inl b), some (.inl 0), some (.inl 1), some (.inl (wrd w (dfM w a b) 0))] g6 17 102 154 [aX 0, .inl 0] [.inl (wrd w (dfM w a b) 0)]
      refine dcQ (cs := s_X9_witness) (by rfl) (mc := 1) (ms := 6) (ht := 7) (by rfl) (by rfl) (q_witness c6 (by decide) e2) ?_
      intro g7 c7 k7
      refine And.intro (fun e9 => (by omega : False).elim) (fun _ => ?_)
      exact ⟨Or.inr rfl, K g7 c7 ((((((k1.tr k2).tr k3).tr k4).tr k5).tr k6).tr k7)⟩
theorem m_L_areCompared : MM 344 s_L_areCompared := mm_of (own := 11) (by rfl) k_L_areCompared (cl := cl_L_areCompared) mc_L_areCompared o_L_areCompared

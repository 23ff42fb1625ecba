/-! ===== the graph grows ===== -/
def s_L_grows : CS := (xc 16 96 7, ap [(3, 0), (0, 0)] (fun x h Rt X =>
∃ w ps s, CI h w ps s ∧ (2 ≤ w 0 ∧ Uq w) ∧ ∀ g u ps s, CI g u ps s → Kp h g → Gw w u → Rt none g))
def cl_L_grows : List (Nat × CS) := [(143, wk s_X9_nodes), (335, wk s_L_low), (145, wk s_X9_info), (338, wk s_L_fitted), (138, wk s_X9_binary), (137, wk s_X9_constant), (139, wk s_X9_unary), (142, wk s_X9_choice)]
theorem mc_L_grows : allMM cl_L_grows := ⟨mm_wk m_X9_nodes, mm_wk m_L_low, mm_wk m_X9_info, mm_wk m_L_fitted, mm_wk m_X9_binary, mm_wk m_X9_constant, mm_wk m_X9_unary, mm_wk m_X9_choice, trivial⟩
set_option maxRecDepth 100000 in
set_option maxHeartbeats 4000000 in
theorem o_L_grows : Obl true 0 6 (sp cl_L_grows) [] code_L_grows s_L_grows := by
  refine obl0x (by rfl) ?_
  intro x r_x h Rt X hh hf hs
  obtain ⟨w, ps, s, hC, ⟨z2, hU⟩, K⟩ := hs
  have hW := hC.wf
  have p3 : 2 ≤ p2 1 := by decide
  show doC 16 96 7 (sp cl_L_grows) [] X (kq 0 16 96 7 (sp cl_L_grows) Rt X code_L_grows 3998 (code_L_grows.drop 2)) 1 4 [some (aX 0), some (.inl x), none, none, none, none] h 0 0 143 [aX 0] []
  refine dcH (cs := s_X9_nodes) (by rfl) (mc := 0) (ms := 0) (ht := 2) (by rfl) (by rfl) (q_nodes hC) ?_
  refine And.intro (fun e1 => ?_) (fun e2 => ?_)
  · show doC 16 96 7 (sp cl_L_grows) [] X (kq 0 16 96 7 (sp cl_L_grows) Rt X code_L_grows 3993 (code_L_grows.drop 8)) 12 15 [some (aX 0), some (.inl x), none, none, none, none] h 0 0 143 [aX 0] [.inl x]
    refine dcH (cs := s_X9_nodes) (by rfl) (mc := 0) (ms := 0) (ht := 2) (by rfl) (by rfl) (q_nodes hC) ?_
    show doC 16 96 7 (sp cl_L_grows) [] X (kq 0 16 96 7 (sp cl_L_grows) Rt X code_L_grows 3992 (code_L_grows.drop 9)) 15 18 [some (aX 0), some (.inl x), none, none, none, none] h 0 0 335 [.inl x, .inl (w 0)] []
    refine dcL (cs := s_L_low) (by rfl) (mc := 0) (ms := 0) (ht := 1) (by rfl) (by rfl) (q_low (by omega)) ?_
    intro a a0 a1
    show doC 16 96 7 (sp cl_L_grows) [] X (kq 0 16 96 7 (sp cl_L_grows) Rt X code_L_grows 3986 (code_L_grows.drop 15)) 23 26 [some (aX 0), some (.inl x), some (.inl a), none, none, none] h 0 0 143 [aX 0] [.inl (sShr x 5)]
    refine dcH (cs := s_X9_nodes) (by rfl) (mc := 0) (ms := 0) (ht := 2) (by rfl) (by rfl) (q_nodes hC) ?_
    show doC 16 96 7 (sp cl_L_grows) [] X (kq 0 16 96 7 (sp cl_L_grows) Rt X code_L_grows 3985 (code_L_grows.drop 16)) 26 29 [some (aX 0), some (.inl x), some (.inl a), none, none, none] h 0 0 335 [.inl (sShr x 5), .inl (w 0)] []
    refine dcL (cs := s_L_low) (by rfl) (mc := 0) (ms := 0) (ht := 1) (by rfl) (by rfl) (q_low (by omega)) ?_
    intro b b0 b1
    have wa := hW.wd a0 a1
    have wb := hW.wd b0 b1
    show doC 16 96 7 (sp cl_L_grows) [] X (kq 0 16 96 7 (sp cl_L_grows) Rt X code_L_grows 3980 (code_L_grows.drop 21)) 33 36 [some (aX 0), some (.inl x), some (.inl a), some (.inl b), none, none] h 0 0 145 [aX 0, .inl a, .inl 1] []
    refine dcH (cs := s_X9_info) (by rfl) (mc := 2) (ms := 12) (ht := 3) (by rfl) (by rfl) (q_width hC a0 a1) ?_
    show doC 16 96 7 (sp cl_L_grows) [] X (kq 0 16 96 7 (sp cl_L_grows) Rt X code_L_grows 3974 (code_L_grows.drop 27)) 44 47 [some (aX 0), some (.inl x), some (.inl a), some (.inl b), some (.inl (nd w a 1)), none] h 2 12 335 [.inl (sShr x 10), .inl 8] []
    refine dcL (cs := s_L_low) (by rfl) (mc := 0) (ms := 0) (ht := 1) (by rfl) (by rfl) (q_low (by decide)) ?_
    intro t t0 t1
    refine And.intro (fun e => ?_) (And.intro (fun e => ?_) (And.intro (fun e => ?_) (And.intro (fun e => ?_) (And.intro (fun e => ?_) (And.intro (fun e => ?_) trivial)))))
    · show doC 16 96 7 (sp cl_L_grows) [] X (kq 0 16 96 7 (sp cl_L_grows) Rt X code_L_grows 3966 (code_L_grows.drop 113)) 220 223 [some (aX 0), some (.inl x), some (.inl a), some (.inl b), some (.inl (nd w a 1)), none] h 2 12 335 [.inl (sShr x 13), .inl 11] [.inl 2, aX 0]
      refine dcL (cs := s_L_low) (by rfl) (mc := 0) (ms := 0) (ht := 1) (by rfl) (by rfl) (q_low (by decide)) ?_
      intro r y0 y1
      refine And.intro ⟨by omega, by omega⟩ ?_
      show doC 16 96 7 (sp cl_L_grows) [] X (kq 0 16 96 7 (sp cl_L_grows) Rt X code_L_grows 3960 (code_L_grows.drop 119)) 229 232 [some (aX 0), some (.inl x), some (.inl a), some (.inl b), some (.inl (nd w a 1)), none] h 2 12 338 [aX 0, .inl b, .inl (nd w a 1)] [.inl a, .inl (2 + r), aX 0]
      refine dcE (cs := s_L_fitted) (by rfl) (mc := 5) (ms := 30) (ht := 6) (by rfl) (by rfl) (q_fitted hC hU (by omega) ⟨b0, b1⟩ wa) ?_
      intro y u p q g1 c1 k1 m1
      obtain ⟨m1, m2, m3, m4⟩ := m1
      have n1 := m1.n0
      have wu := m1.wd a0 a1
      show doC 16 96 7 (sp cl_L_grows) [] X (kq 0 16 96 7 (sp cl_L_grows) Rt X code_L_grows 3959 (code_L_grows.drop 120)) 232 235 [some (aX 0), some (.inl x), some (.inl a), some (.inl b), some (.inl (nd w a 1)), none] g1 7 42 138 [aX 0, .inl (2 + r), .inl a, .inl y] []
      refine dcE (cs := s_X9_binary) (by rfl) (mc := 4) (ms := 24) (ht := 5) (by rfl) (by rfl) (q_binary c1 m1.uq (by omega) ⟨by omega, by omega⟩ ⟨a0, by omega, m2, m3⟩ (Or.inr ⟨by omega, by omega⟩)) ?_
      intro y' u' p' q' g2 c2 k2 j1
      exact K g2 u' p' q' c2 (k1.tr k2) ((m1.tr j1.1 (Int.le_refl _)).gw (by omega))
    · show doC 16 96 7 (sp cl_L_grows) [] X (kq 0 16 96 7 (sp cl_L_grows) Rt X code_L_grows 3966 (code_L_grows.drop 35)) 87 90 [some (aX 0), some (.inl x), some (.inl a), some (.inl b), some (.inl (nd w a 1)), none] h 2 12 335 [.inl (sShr x 13), .inl 4] [.inl 1, aX 0]
      refine dcL (cs := s_L_low) (by rfl) (mc := 0) (ms := 0) (ht := 1) (by rfl) (by rfl) (q_low (by decide)) ?_
      intro r y0 y1
      refine And.intro ⟨by omega, by omega⟩ ?_
      show doC 16 96 7 (sp cl_L_grows) [] X (kq 0 16 96 7 (sp cl_L_grows) Rt X code_L_grows 3960 (code_L_grows.drop 41)) 96 99 [some (aX 0), some (.inl x), some (.inl a), some (.inl b), some (.inl (nd w a 1)), none] h 2 12 335 [.inl (sShr x 15), .inl 2] [.inl (1 + r), aX 0]
      refine dcL (cs := s_L_low) (by rfl) (mc := 0) (ms := 0) (ht := 1) (by rfl) (by rfl) (q_low (by decide)) ?_
      intro v v0 v1
      have pl := p2_le (a := 1) (b := 1 + r) (by omega)
      show doC 16 96 7 (sp cl_L_grows) [] X (kq 0 16 96 7 (sp cl_L_grows) Rt X code_L_grows 3959 (code_L_grows.drop 42)) 99 102 [some (aX 0), some (.inl x), some (.inl a), some (.inl b), some (.inl (nd w a 1)), none] h 2 12 137 [aX 0, .inl (1 + r), .inl v] []
      refine dcE (cs := s_X9_constant) (by rfl) (mc := 2) (ms := 12) (ht := 4) (by rfl) (by rfl) (q_constant hC hU (by omega) ⟨by omega, by omega, v0, by omega⟩) ?_
      intro y u p q g1 c1 k1 m1
      exact K g1 u p q c1 k1 (m1.1.gw (by omega))
    · show doC 16 96 7 (sp cl_L_grows) [] X (kq 0 16 96 7 (sp cl_L_grows) Rt X code_L_grows 3966 (code_L_grows.drop 51)) 114 117 [some (aX 0), some (.inl x), some (.inl a), some (.inl b), some (.inl (nd w a 1)), none] h 2 12 335 [.inl (sShr x 13), .inl 2] [.inl 19, aX 0]
      refine dcL (cs := s_L_low) (by rfl) (mc := 0) (ms := 0) (ht := 1) (by rfl) (by rfl) (q_low (by decide)) ?_
      intro r y0 y1
      refine And.intro ⟨by omega, by omega⟩ ?_
      show doC 16 96 7 (sp cl_L_grows) [] X (kq 0 16 96 7 (sp cl_L_grows) Rt X code_L_grows 3963 (code_L_grows.drop 54)) 119 122 [some (aX 0), some (.inl x), some (.inl a), some (.inl b), some (.inl (nd w a 1)), none] h 2 12 139 [aX 0, .inl (19 + r), .inl a] []
      refine dcE (cs := s_X9_unary) (by rfl) (mc := 3) (ms := 18) (ht := 4) (by rfl) (by rfl) (q_unary hC hU (by omega) ⟨by omega, by omega⟩ ⟨a0, a1⟩) ?_
      intro y u p q g1 c1 k1 m1
      exact K g1 u p q c1 k1 (m1.1.gw (by omega))
    · show doC 16 96 7 (sp cl_L_grows) [] X (kq 0 16 96 7 (sp cl_L_grows) Rt X code_L_grows 3968 (code_L_grows.drop 61)) 131 134 [some (aX 0), some (.inl x), some (.inl a), some (.inl b), some (.inl (nd w a 1)), none] h 2 12 145 [aX 0, .inl b, .inl 1] [.inl (nd w a 1)]
      refine dcH (cs := s_X9_info) (by rfl) (mc := 2) (ms := 12) (ht := 3) (by rfl) (by rfl) (q_width hC b0 b1) ?_
      refine And.intro ⟨by omega, by omega⟩ ?_
      refine And.intro (fun e3 => ?_) (fun e4 => ?_)
      · exact K h w ps s hC (Kp.rf h) (Gw.rf hU)
      · show doC 16 96 7 (sp cl_L_grows) [] X (kq 0 16 96 7 (sp cl_L_grows) Rt X code_L_grows 3960 (code_L_grows.drop 69)) 145 148 [some (aX 0), some (.inl x), some (.inl a), some (.inl b), some (.inl (nd w a 1)), none] h 4 24 138 [aX 0, .inl 18, .inl a, .inl b] []
        refine dcE (cs := s_X9_binary) (by rfl) (mc := 4) (ms := 24) (ht := 5) (by rfl) (by rfl) (q_binary hC hU (by omega) ⟨by decide, by decide⟩ ⟨a0, a1, b0, b1⟩ (Or.inl ⟨rfl, e4⟩)) ?_
        intro y u p q g1 c1 k1 m1
        exact K g1 u p q c1 k1 (m1.1.gw (by omega))
    · show doC 16 96 7 (sp cl_L_grows) [] X (kq 0 16 96 7 (sp cl_L_grows) Rt X code_L_grows 3969 (code_L_grows.drop 75)) 155 158 [some (aX 0), some (.inl x), some (.inl a), some (.inl b), some (.inl (nd w a 1)), none] h 2 12 338 [aX 0, .inl b, .inl 1] []
      refine dcE (cs := s_L_fitted) (by rfl) (mc := 5) (ms := 30) (ht := 6) (by rfl) (by rfl) (q_fitted hC hU (by omega) ⟨b0, b1⟩ ⟨by decide, by decide⟩) ?_
      intro y u p q g1 c1 k1 m1
      obtain ⟨m1, m2, m3, m4⟩ := m1
      have n1 := m1.n0
      have wu := m1.wd a0 a1
      show doC 16 96 7 (sp cl_L_grows) [] X (kq 0 16 96 7 (sp cl_L_grows) Rt X code_L_grows 3959 (code_L_grows.drop 85)) 170 173 [some (aX 0), some (.inl x), some (.inl a), some (.inl b), some (.inl (nd w a 1)), some (.inl y)] g1 7 42 335 [.inl (sShr x 13), .inl 2] [aX 0, .inl a, .inl y, aX 0]
      refine dcL (cs := s_L_low) (by rfl) (mc := 0) (ms := 0) (ht := 1) (by rfl) (by rfl) (q_low (by decide)) ?_
      intro r y0 y1
      show doC 16 96 7 (sp cl_L_grows) [] X (kq 0 16 96 7 (sp cl_L_grows) Rt X code_L_grows 3957 (code_L_grows.drop 87)) 175 178 [some (aX 0), some (.inl x), some (.inl a), some (.inl b), some (.inl (nd w a 1)), some (.inl y)] g1 7 42 338 [aX 0, .inl r, .inl (nd w a 1)] [.inl a, .inl y, aX 0]
      refine dcE (cs := s_L_fitted) (by rfl) (mc := 5) (ms := 30) (ht := 6) (by rfl) (by rfl) (q_fitted c1 m1.uq (by omega) ⟨y0, by omega⟩ wa) ?_
      intro v u' p' q' g2 c2 k2 j1
      obtain ⟨j1, j2, j3, j4⟩ := j1
      have n2 := j1.n0
      have wu2 := j1.wd a0 (by omega)
      have wu3 := j1.wd m2 m3
      show doC 16 96 7 (sp cl_L_grows) [] X (kq 0 16 96 7 (sp cl_L_grows) Rt X code_L_grows 3956 (code_L_grows.drop 88)) 178 181 [some (aX 0), some (.inl x), some (.inl a), some (.inl b), some (.inl (nd w a 1)), some (.inl y)] g2 12 72 142 [aX 0, .inl y, .inl a, .inl v] []
      refine dcE (cs := s_X9_choice) (by rfl) (mc := 4) (ms := 24) (ht := 4) (by rfl) (by rfl) (q_choice c2 j1.uq (by omega) ⟨m2, by omega, a0, by omega, j2, j3⟩ ⟨by omega, by omega⟩) ?_
      intro v' u2 p2' q2 g3 c3 k3 i1
      exact K g3 u2 p2' q2 c3 ((k1.tr k2).tr k3) (((m1.tr j1 (Int.le_refl _)).tr i1.1 (Int.le_refl _)).gw (by omega))
    · show doC 16 96 7 (sp cl_L_grows) [] X (kq 0 16 96 7 (sp cl_L_grows) Rt X code_L_grows 3966 (code_L_grows.drop 97)) 193 196 [some (aX 0), some (.inl x), some (.inl a), some (.inl b), some (.inl (nd w a 1)), none] h 2 12 335 [.inl (sShr x 13), .inl 5] [.inl 13, aX 0]
      refine dcL (cs := s_L_low) (by rfl) (mc := 0) (ms := 0) (ht := 1) (by rfl) (by rfl) (q_low (by decide)) ?_
      intro r y0 y1
      refine And.intro ⟨by omega, by omega⟩ ?_
      show doC 16 96 7 (sp cl_L_grows) [] X (kq 0 16 96 7 (sp cl_L_grows) Rt X code_L_grows 3960 (code_L_grows.drop 103)) 202 205 [some (aX 0), some (.inl x), some (.inl a), some (.inl b), some (.inl (nd w a 1)), none] h 2 12 338 [aX 0, .inl b, .inl (nd w a 1)] [.inl a, .inl (13 + r), aX 0]
      refine dcE (cs := s_L_fitted) (by rfl) (mc := 5) (ms := 30) (ht := 6) (by rfl) (by rfl) (q_fitted hC hU (by omega) ⟨b0, b1⟩ wa) ?_
      intro y u p q g1 c1 k1 m1
      obtain ⟨m1, m2, m3, m4⟩ := m1
      have n1 := m1.n0
      have wu := m1.wd a0 a1
      show doC 16 96 7 (sp cl_L_grows) [] X (kq 0 16 96 7 (sp cl_L_grows) Rt X code_L_grows 3959 (code_L_grows.drop 104)) 205 208 [some (aX 0), some (.inl x), some (.inl a), some (.inl b), some (.inl (nd w a 1)), none] g1 7 42 138 [aX 0, .inl (13 + r), .inl a, .inl y] []
      refine dcE (cs := s_X9_binary) (by rfl) (mc := 4) (ms := 24) (ht := 5) (by rfl) (by rfl) (q_binary c1 m1.uq (by omega) ⟨by omega, by omega⟩ ⟨a0, by omega, m2, m3⟩ (Or.inr ⟨by omega, by omega⟩)) ?_
      intro y' u' p' q' g2 c2 k2 j1
      exact K g2 u' p' q' c2 (k1.tr k2) ((m1.tr j1.1 (Int.le_refl _)).gw (by omega))
  · exact K h w ps s hC (Kp.rf h) (Gw.rf hU)
theorem m_L_grows : MM 339 s_L_grows := mm_of (own := 11) (by rfl) k_L_grows (cl := cl_L_grows) mc_L_grows o_L_grows
theorem q_grows {h : Hp} {w ps : Int → Int} {s x : Int} (hC : CI h w ps s) (z : 2 ≤ w 0) (hU : Uq w) : s_L_grows.2 [aX 0, .inl x] h (Rn h (Gw w)) NoX := e3 w ps s ⟨hC, ⟨z, hU⟩, fun g u p t c k q => ⟨u, p, t, rfl, c, k, q⟩⟩

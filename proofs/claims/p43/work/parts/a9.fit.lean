/-! ===== a node fitted ===== -/
def s_L_fitted : CS := (xc 5 30 6, ap [(3, 0), (0, 0), (0, 0)] (fun a to h Rt X =>
∃ w ps s, CI h w ps s ∧ (0 ≤ a ∧ a < w 0 ∧ 1 ≤ to ∧ to ≤ 8 ∧ w 0 < 40 ∧ Uq w) ∧ ∀ g u ps s x, CI g u ps s → Kp h g → MkQ w to x u → Rt (some (.inl x)) g))
def cl_L_fitted : List (Nat × CS) := [(145, wk s_X9_info), (141, wk s_X9_extend), (140, wk s_X9_slice)]
theorem mc_L_fitted : allMM cl_L_fitted := ⟨mm_wk m_X9_info, mm_wk m_X9_extend, mm_wk m_X9_slice, trivial⟩
set_option maxRecDepth 100000 in
set_option maxHeartbeats 4000000 in
theorem o_L_fitted : Obl true 1 4 (sp cl_L_fitted) [] code_L_fitted s_L_fitted := by
  refine obl0x (by rfl) ?_
  intro a r_a to r_to h Rt X hh hf hs
  obtain ⟨w, ps, s, hC, ⟨a0, a1, t1, t8, hc, hU⟩, K⟩ := hs
  have hW := hC.wf
  have wd := hW.wd a0 a1
  show doC 5 30 6 (sp cl_L_fitted) [] X (kq 1 5 30 6 (sp cl_L_fitted) Rt X code_L_fitted 3996 (code_L_fitted.drop 4)) 3 6 [some (aX 0), some (.inl a), some (.inl to), none] h 0 0 145 [aX 0, .inl a, .inl 1] []
  refine dcH (cs := s_X9_info) (by rfl) (mc := 2) (ms := 12) (ht := 3) (by rfl) (by rfl) (q_width hC a0 a1) ?_
  refine And.intro (fun e1 => ?_) (fun e2 => ?_)
  · refine And.intro (fun e3 => ?_) (fun e4 => ?_)
    · refine And.intro (fun e5 => ?_) (fun e6 => ?_)
      · show doC 5 30 6 (sp cl_L_fitted) [] X (kq 1 5 30 6 (sp cl_L_fitted) Rt X code_L_fitted 3979 (code_L_fitted.drop 33)) 48 51 [some (aX 0), some (.inl a), some (.inl to), some (.inl (nd w a 1))] h 2 12 141 [aX 0, .inl a, .inl to, .inl 0] []
        refine dcE (cs := s_X9_extend) (by rfl) (mc := 3) (ms := 18) (ht := 5) (by rfl) (by rfl) (q_extend hC hU hc ⟨a0, a1⟩ ⟨by omega, t8⟩) ?_
        intro x u p t g c k q
        exact K g u p t x c k q
      · show doC 5 30 6 (sp cl_L_fitted) [] X (kq 1 5 30 6 (sp cl_L_fitted) Rt X code_L_fitted 3978 (code_L_fitted.drop 33)) 48 51 [some (aX 0), some (.inl a), some (.inl to), some (.inl (nd w a 1))] h 2 12 141 [aX 0, .inl a, .inl to, .inl 1] []
        refine dcE (cs := s_X9_extend) (by rfl) (mc := 3) (ms := 18) (ht := 5) (by rfl) (by rfl) (q_extend hC hU hc ⟨a0, a1⟩ ⟨by omega, t8⟩) ?_
        intro x u p t g c k q
        exact K g u p t x c k q
    · refine And.intro ⟨by omega, by omega⟩ ?_
      show doC 5 30 6 (sp cl_L_fitted) [] X (kq 1 5 30 6 (sp cl_L_fitted) Rt X code_L_fitted 3982 (code_L_fitted.drop 20)) 27 30 [some (aX 0), some (.inl a), some (.inl to), some (.inl (nd w a 1))] h 2 12 140 [aX 0, .inl a, .inl (to - 1), .inl 0] []
      refine dcE (cs := s_X9_slice) (by rfl) (mc := 3) (ms := 18) (ht := 5) (by rfl) (by rfl) (q_slice hC hU hc ⟨a0, a1⟩ ⟨by decide, by omega, by omega⟩) ?_
      intro x u p t g c k q
      rw [show to - 1 - 0 + 1 = to by omega] at q
      exact K g u p t x c k q
  · exact K h w ps s a hC (Kp.rf h) (MkQ.self hU a0 a1 e2)
theorem m_L_fitted : MM 338 s_L_fitted := mm_of (own := 11) (by rfl) k_L_fitted (cl := cl_L_fitted) mc_L_fitted o_L_fitted
theorem q_fitted {h : Hp} {w ps : Int → Int} {s a to : Int} (hC : CI h w ps s) (hU : Uq w) (hc : w 0 < 40) (z : 0 ≤ a ∧ a < w 0) (y : 1 ≤ to ∧ to ≤ 8) : s_L_fitted.2 [aX 0, .inl a, .inl to] h (Re h (MkQ w to)) NoX := e3 w ps s ⟨hC, ⟨z.1, z.2, y.1, y.2, hc, hU⟩, fun g u p t x c k q => ⟨x, u, p, t, rfl, c, k, q⟩⟩
/-- what growing leaves -/
def Gw (w u : Int → Int) : Prop := Box (Nx w u ∧ (∀ j, 281 ≤ j → u j = w j) ∧ Uq u ∧ w 0 ≤ u 0 ∧ (u 0 ≤ 35 ∨ u 0 = w 0))
theorem Gr.gw {w u : Int → Int} {d : Int} (a : Gr w u d) (h : w 0 + d ≤ 35) : Gw w u := by
  obtain ⟨a1, a2, a3, a4, a5⟩ := a.o
  exact Box.i ⟨a1, a2, a3, a4, Or.inl (by omega)⟩
theorem Gw.rf {w : Int → Int} (h : Uq w) : Gw w w := Box.i ⟨Nx.rf w, fun _ _ => rfl, h, Int.le_refl _, Or.inr rfl⟩

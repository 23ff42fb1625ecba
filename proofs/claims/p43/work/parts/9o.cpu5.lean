/-! ===== the class's methods: pairs of nodes, choices, variables ===== -/
theorem bW_eq (w : Int → Int) (k a b : Int) : bW w k a b = if k = 18 then nd w a 1 + nd w b 1 else if 13 ≤ k then 1 else nd w a 1 := rfl
def s_X9_binary : CS := (xc 4 24 5, ap [(3, 0), (0, 0), (0, 0), (0, 0)] (fun k a b h Rt X =>
∃ w ps s, CI h w ps s ∧ (¬ (2 ≤ k ∧ k ≤ 18) → X 0 h) ∧ (2 ≤ k ∧ k ≤ 18 → ¬ (0 ≤ a ∧ a < w 0 ∧ 0 ≤ b ∧ b < w 0) → X 2 h) ∧ (2 ≤ k ∧ k ≤ 18 → 0 ≤ a ∧ a < w 0 ∧ 0 ≤ b ∧ b < w 0 → ¬ bFit w k a b → X 1 h) ∧ (2 ≤ k ∧ k ≤ 18 → 0 ≤ a ∧ a < w 0 ∧ 0 ≤ b ∧ b < w 0 → bFit w k a b → mkC h w ps s (mk1 w k (bW w k a b) a b (-1) (-1) (-1)) Rt X)))
set_option maxRecDepth 100000 in
set_option maxHeartbeats 4000000 in
theorem o_X9_binary : Obl true 1 5 (sp [(181, s_X9_demandNode), (1, s_X0_count), (12, s_X0_makeBinary), (179, s_X9_keepMade)]) [] code_X9_binary s_X9_binary := by
  refine obl0x (by rfl) ?_
  intro k r_k a r_a b r_b h Rt X hh hf hs
  obtain ⟨w, ps, s, hC, h2, h3, h4, h5⟩ := hs
  have hW := hC.wf
  have hG := hC.gh
  have g0 := hG.n
  have nn := hW.nn
  by_cases y : 2 ≤ k ∧ k ≤ 18
  · by_cases z : 0 ≤ a ∧ a < w 0 ∧ 0 ≤ b ∧ b < w 0
    · have wa := hW.wd z.1 z.2.1
      have wb := hW.wd z.2.2.1 z.2.2.2
      have ft : bFit w k a b ↔ ((k = 18 ∧ nd w a 1 + nd w b 1 ≤ 8) ∨ (k ≠ 18 ∧ nd w a 1 = nd w b 1)) := Iff.rfl
      by_cases x : bFit w k a b
      · have K := h5 y z x
        have hb : (k = 18 ∧ bW w k a b = nd w a 1 + nd w b 1) ∨ (13 ≤ k ∧ k ≠ 18 ∧ bW w k a b = 1) ∨ (k < 13 ∧ bW w k a b = nd w a 1) := by
          rw [bW_eq]
          split
          · omega
          · split <;> omega
        have x' := ft.mp x
        have ho : MkO w (mk1 w k (bW w k a b) a b (-1) (-1) (-1)) := mk1_ok hW (Box.i ⟨by omega, by omega, fun _ => by omega, fun _ => by omega, by omega, fun q => by omega, fun q => by omega, fun q => by omega, fun q => by omega, fun q => by omega, fun q => by omega, fun q => by omega, fun q => by omega, fun q => by omega, fun q => by omega, fun q => by omega, fun q => by omega, fun q => by omega⟩)
        repeat' (first | (intro q9; exact absurd x q9) | refine gk_k ?_ | apply And.intro | (with_reducible assumption) | (intro h9; first | (exfalso; omega) | (simp only [rI_rI, rJ_rJ, hI_rI, hJ_rI, hI_rJ, hJ_rJ, hI_rR, hR_rI, hR_rJ, hN_rI, hN_rJ, svH_63, svH_66, rfH_63, wvH_63, wvH_62, wvH_67, wvH_68, wvH_69, sc_63, sc_n62, sc_n67, sc_n68, sc_n69, sc_n70, reduceIte, Nat.reduceEqDiff, eq_self, up_up, up_self, up_ne, ne_eq, not_false_eq_true, Int.reduceEq, Int.reduceNeg] at h9; first | (exfalso; omega) | skip) | skip) | exact ⟨w, ps, s, mk_HR hC _ _, mk_St hC _ _, hW.cts, g0, mkC_k hC ho K (by assumption)⟩ | refine Exists.intro w ?_ | exact hG | exact hW | exact h2 | exact h2 (by omega) | exact h3 | exact h3 (by omega) | exact h4 | exact h4 (by omega) | exact h5 | exact h5 (by omega) | omega | exact True.intro | (simp only [rI_rI, rJ_rJ, hI_rI, hJ_rI, hI_rJ, hJ_rJ, hI_rR, hR_rI, hR_rJ, hN_rI, hN_rJ, svH_63, svH_66, rfH_63, wvH_63, wvH_62, wvH_67, wvH_68, wvH_69, sc_63, sc_n62, sc_n67, sc_n68, sc_n69, sc_n70, reduceIte, Nat.reduceEqDiff, eq_self, up_up, up_self, up_ne, ne_eq, not_false_eq_true, Int.reduceEq, Int.reduceNeg]; omega))
      · have C := h4 y z x
        repeat' (first | (intro q9; exact absurd q9 x) | apply And.intro | (with_reducible assumption) | (intro h9; first | (exfalso; omega) | (simp only [rI_rI, rJ_rJ, hI_rI, hJ_rI, hI_rJ, hJ_rJ, hI_rR, hR_rI, hR_rJ, hN_rI, hN_rJ, svH_63, svH_66, rfH_63, wvH_63, wvH_62, wvH_67, wvH_68, wvH_69, sc_63, sc_n62, sc_n67, sc_n68, sc_n69, sc_n70, reduceIte, Nat.reduceEqDiff, eq_self, up_up, up_self, up_ne, ne_eq, not_false_eq_true, Int.reduceEq, Int.reduceNeg] at h9; first | (exfalso; omega) | skip) | skip) | exact ⟨w, ps, s, hC.hr, hC.st, hW.cts, g0, fun _ => C, fun q => absurd rfl q⟩ | refine Exists.intro w ?_ | exact hG | exact hW | exact h2 | exact h2 (by omega) | exact h3 | exact h3 (by omega) | exact h4 | exact h4 (by omega) | exact h5 | exact h5 (by omega) | omega | exact True.intro | (simp only [rI_rI, rJ_rJ, hI_rI, hJ_rI, hI_rJ, hJ_rJ, hI_rR, hR_rI, hR_rJ, hN_rI, hN_rJ, svH_63, svH_66, rfH_63, wvH_63, wvH_62, wvH_67, wvH_68, wvH_69, sc_63, sc_n62, sc_n67, sc_n68, sc_n69, sc_n70, reduceIte, Nat.reduceEqDiff, eq_self, up_up, up_self, up_ne, ne_eq, not_false_eq_true, Int.reduceEq, Int.reduceNeg]; omega))
    · have C := h3 y z
      repeat' (first | apply And.intro | (with_reducible assumption) | (intro h9; first | (exfalso; omega) | (simp only [rI_rI, rJ_rJ, hI_rI, hJ_rI, hI_rJ, hJ_rJ, hI_rR, hR_rI, hR_rJ, hN_rI, hN_rJ, svH_63, svH_66, rfH_63, wvH_63, wvH_62, wvH_67, wvH_68, wvH_69, sc_63, sc_n62, sc_n67, sc_n68, sc_n69, sc_n70, reduceIte, Nat.reduceEqDiff, eq_self, up_up, up_self, up_ne, ne_eq, not_false_eq_true, Int.reduceEq, Int.reduceNeg] at h9; first | (exfalso; omega) | skip) | skip) | exact C | exact h2 | exact h2 (by omega) | exact h3 | exact h3 (by omega) | exact h4 | exact h4 (by omega) | exact h5 | exact h5 (by omega) | omega | exact True.intro | (simp only [rI_rI, rJ_rJ, hI_rI, hJ_rI, hI_rJ, hJ_rJ, hI_rR, hR_rI, hR_rJ, hN_rI, hN_rJ, svH_63, svH_66, rfH_63, wvH_63, wvH_62, wvH_67, wvH_68, wvH_69, sc_63, sc_n62, sc_n67, sc_n68, sc_n69, sc_n70, reduceIte, Nat.reduceEqDiff, eq_self, up_up, up_self, up_ne, ne_eq, not_false_eq_true, Int.reduceEq, Int.reduceNeg]; omega))
  · have C := h2 y
    repeat' (first | apply And.intro | (with_reducible assumption) | (intro h9; first | (exfalso; omega) | (simp only [rI_rI, rJ_rJ, hI_rI, hJ_rI, hI_rJ, hJ_rJ, hI_rR, hR_rI, hR_rJ, hN_rI, hN_rJ, svH_63, svH_66, rfH_63, wvH_63, wvH_62, wvH_67, wvH_68, wvH_69, sc_63, sc_n62, sc_n67, sc_n68, sc_n69, sc_n70, reduceIte, Nat.reduceEqDiff, eq_self, up_up, up_self, up_ne, ne_eq, not_false_eq_true, Int.reduceEq, Int.reduceNeg] at h9; first | (exfalso; omega) | skip) | skip) | exact C | exact h2 | exact h2 (by omega) | exact h3 | exact h3 (by omega) | exact h4 | exact h4 (by omega) | exact h5 | exact h5 (by omega) | omega | exact True.intro | (simp only [rI_rI, rJ_rJ, hI_rI, hJ_rI, hI_rJ, hJ_rJ, hI_rR, hR_rI, hR_rJ, hN_rI, hN_rJ, svH_63, svH_66, rfH_63, wvH_63, wvH_62, wvH_67, wvH_68, wvH_69, sc_63, sc_n62, sc_n67, sc_n68, sc_n69, sc_n70, reduceIte, Nat.reduceEqDiff, eq_self, up_up, up_self, up_ne, ne_eq, not_false_eq_true, Int.reduceEq, Int.reduceNeg]; omega))
theorem m_X9_binary : MM 138 s_X9_binary := mm_of (own := 8) (by rfl) k_X9_binary (cl := [(181, s_X9_demandNode), (1, s_X0_count), (12, s_X0_makeBinary), (179, s_X9_keepMade)]) ⟨m_X9_demandNode, m_X0_count, m_X0_makeBinary, m_X9_keepMade, trivial⟩ o_X9_binary
def s_X9_choice : CS := (xc 4 24 4, ap [(3, 0), (0, 0), (0, 0), (0, 0)] (fun a b c h Rt X =>
∃ w ps s, CI h w ps s ∧ (¬ (0 ≤ a ∧ a < w 0 ∧ 0 ≤ b ∧ b < w 0 ∧ 0 ≤ c ∧ c < w 0) → X 2 h) ∧ (0 ≤ a ∧ a < w 0 ∧ 0 ≤ b ∧ b < w 0 ∧ 0 ≤ c ∧ c < w 0 → ¬ (nd w a 1 = 1 ∧ nd w b 1 = nd w c 1) → X 1 h) ∧ (0 ≤ a ∧ a < w 0 ∧ 0 ≤ b ∧ b < w 0 ∧ 0 ≤ c ∧ c < w 0 → nd w a 1 = 1 ∧ nd w b 1 = nd w c 1 → mkC h w ps s (mk1 w 24 (nd w b 1) a b c (-1) (-1)) Rt X)))
set_option maxRecDepth 100000 in
set_option maxHeartbeats 4000000 in
theorem o_X9_choice : Obl true 1 5 (sp [(181, s_X9_demandNode), (1, s_X0_count), (16, s_X0_makeChoice), (179, s_X9_keepMade)]) [] code_X9_choice s_X9_choice := by
  refine obl0x (by rfl) ?_
  intro a r_a b r_b c r_c h Rt X hh hf hs
  obtain ⟨w, ps, s, hC, h2, h3, h4⟩ := hs
  have hW := hC.wf
  have hG := hC.gh
  have g0 := hG.n
  have nn := hW.nn
  by_cases z : 0 ≤ a ∧ a < w 0 ∧ 0 ≤ b ∧ b < w 0 ∧ 0 ≤ c ∧ c < w 0
  · have wa := hW.wd z.1 z.2.1
    have wb := hW.wd z.2.2.1 z.2.2.2.1
    by_cases x : nd w a 1 = 1 ∧ nd w b 1 = nd w c 1
    · have K := h4 z x
      have ho : MkO w (mk1 w 24 (nd w b 1) a b c (-1) (-1)) := mk1_ok hW (Box.i ⟨by omega, by omega, fun _ => by omega, fun _ => by omega, by omega, fun q => by omega, fun q => by omega, fun q => by omega, fun q => by omega, fun q => by omega, fun q => by omega, fun q => by omega, fun q => by omega, fun q => by omega, fun q => by omega, fun q => by omega, fun q => by omega, fun q => by omega⟩)
      repeat' (first | (intro q9; exact absurd x q9) | refine gk_k ?_ | apply And.intro | (with_reducible assumption) | (intro h9; first | (exfalso; omega) | (simp only [rI_rI, rJ_rJ, hI_rI, hJ_rI, hI_rJ, hJ_rJ, hI_rR, hR_rI, hR_rJ, hN_rI, hN_rJ, svH_63, svH_66, rfH_63, wvH_63, wvH_62, wvH_67, wvH_68, wvH_69, sc_63, sc_n62, sc_n67, sc_n68, sc_n69, sc_n70, reduceIte, Nat.reduceEqDiff, eq_self, up_up, up_self, up_ne, ne_eq, not_false_eq_true, Int.reduceEq, Int.reduceNeg] at h9; first | (exfalso; omega) | skip) | skip) | exact ⟨w, ps, s, mk_HR hC _ _, mk_St hC _ _, hW.cts, g0, mkC_k hC ho K (by assumption)⟩ | refine Exists.intro w ?_ | exact hG | exact hW | exact h2 | exact h2 (by omega) | exact h3 | exact h3 (by omega) | exact h4 | exact h4 (by omega) | omega | exact True.intro | (simp only [rI_rI, rJ_rJ, hI_rI, hJ_rI, hI_rJ, hJ_rJ, hI_rR, hR_rI, hR_rJ, hN_rI, hN_rJ, svH_63, svH_66, rfH_63, wvH_63, wvH_62, wvH_67, wvH_68, wvH_69, sc_63, sc_n62, sc_n67, sc_n68, sc_n69, sc_n70, reduceIte, Nat.reduceEqDiff, eq_self, up_up, up_self, up_ne, ne_eq, not_false_eq_true, Int.reduceEq, Int.reduceNeg]; omega))
    · have C := h3 z x
      repeat' (first | (intro q9; exact absurd q9 x) | apply And.intro | (with_reducible assumption) | (intro h9; first | (exfalso; omega) | (simp only [rI_rI, rJ_rJ, hI_rI, hJ_rI, hI_rJ, hJ_rJ, hI_rR, hR_rI, hR_rJ, hN_rI, hN_rJ, svH_63, svH_66, rfH_63, wvH_63, wvH_62, wvH_67, wvH_68, wvH_69, sc_63, sc_n62, sc_n67, sc_n68, sc_n69, sc_n70, reduceIte, Nat.reduceEqDiff, eq_self, up_up, up_self, up_ne, ne_eq, not_false_eq_true, Int.reduceEq, Int.reduceNeg] at h9; first | (exfalso; omega) | skip) | skip) | exact ⟨w, ps, s, hC.hr, hC.st, hW.cts, g0, fun _ => C, fun q => absurd rfl q⟩ | refine Exists.intro w ?_ | exact hG | exact hW | exact h2 | exact h2 (by omega) | exact h3 | exact h3 (by omega) | exact h4 | exact h4 (by omega) | omega | exact True.intro | (simp only [rI_rI, rJ_rJ, hI_rI, hJ_rI, hI_rJ, hJ_rJ, hI_rR, hR_rI, hR_rJ, hN_rI, hN_rJ, svH_63, svH_66, rfH_63, wvH_63, wvH_62, wvH_67, wvH_68, wvH_69, sc_63, sc_n62, sc_n67, sc_n68, sc_n69, sc_n70, reduceIte, Nat.reduceEqDiff, eq_self, up_up, up_self, up_ne, ne_eq, not_false_eq_true, Int.reduceEq, Int.reduceNeg]; omega))
  · have C := h2 z
    repeat' (first | apply And.intro | (with_reducible assumption) | (intro h9; first | (exfalso; omega) | (simp only [rI_rI, rJ_rJ, hI_rI, hJ_rI, hI_rJ, hJ_rJ, hI_rR, hR_rI, hR_rJ, hN_rI, hN_rJ, svH_63, svH_66, rfH_63, wvH_63, wvH_62, wvH_67, wvH_68, wvH_69, sc_63, sc_n62, sc_n67, sc_n68, sc_n69, sc_n70, reduceIte, Nat.reduceEqDiff, eq_self, up_up, up_self, up_ne, ne_eq, not_false_eq_true, Int.reduceEq, Int.reduceNeg] at h9; first | (exfalso; omega) | skip) | skip) | exact C | exact h2 | exact h2 (by omega) | exact h3 | exact h3 (by omega) | exact h4 | exact h4 (by omega) | omega | exact True.intro | (simp only [rI_rI, rJ_rJ, hI_rI, hJ_rI, hI_rJ, hJ_rJ, hI_rR, hR_rI, hR_rJ, hN_rI, hN_rJ, svH_63, svH_66, rfH_63, wvH_63, wvH_62, wvH_67, wvH_68, wvH_69, sc_63, sc_n62, sc_n67, sc_n68, sc_n69, sc_n70, reduceIte, Nat.reduceEqDiff, eq_self, up_up, up_self, up_ne, ne_eq, not_false_eq_true, Int.reduceEq, Int.reduceNeg]; omega))
theorem m_X9_choice : MM 142 s_X9_choice := mm_of (own := 8) (by rfl) k_X9_choice (cl := [(181, s_X9_demandNode), (1, s_X0_count), (16, s_X0_makeChoice), (179, s_X9_keepMade)]) ⟨m_X9_demandNode, m_X0_count, m_X0_makeChoice, m_X9_keepMade, trivial⟩ o_X9_choice
def s_X9_variable : CS := (xc 2 12 4, ap [(3, 0), (0, 0)] (fun wd h Rt X =>
∃ w ps s, CI h w ps s ∧ (¬ (1 ≤ wd ∧ wd ≤ 8) → X 0 h) ∧ (1 ≤ wd ∧ wd ≤ 8 → (w 281 = 4 ∨ w 0 = 40 ∨ 16 < sumW w (w 281).toNat + wd) → Go h w ps s (X 1)) ∧ (1 ≤ wd ∧ wd ≤ 8 → ¬ (w 281 = 4 ∨ w 0 = 40 ∨ 16 < sumW w (w 281).toNat + wd) → Go h (varN w wd) (svPp ps s w) (svS s) (Rt (some (.inl (w 0)))))))
set_option maxRecDepth 100000 in
set_option maxHeartbeats 4000000 in
theorem o_X9_variable : Obl true 1 4 (sp [(185, s_X9_isWidth), (1, s_X0_count), (10, s_X0_makeVariable), (179, s_X9_keepMade), (2, s_X0_variableCount), (96, s_X5_forget)]) [] code_X9_variable s_X9_variable := by
  refine obl0x (by rfl) ?_
  intro wd r_wd h Rt X hh hf hs
  obtain ⟨w, ps, s, hC, h2, h3, h4⟩ := hs
  have hW := hC.wf
  have hG := hC.gh
  have g0 := hG.n
  have g1 := hG.v
  have nn := hW.nn
  have vn := hW.vn
  by_cases y : 1 ≤ wd ∧ wd ≤ 8
  · by_cases z : w 281 = 4 ∨ 16 < sumW w (w 281).toNat + wd
    · have C : X 1 h := h3 y (by omega) h hC (Kp.rf h)
      repeat' (first | (intro q9; exact absurd z q9) | apply And.intro | (with_reducible assumption) | (intro h9; first | (exfalso; omega) | (simp only [rI_rI, rJ_rJ, hI_rI, hJ_rI, hI_rJ, hJ_rJ, hI_rR, hR_rI, hR_rJ, hN_rI, hN_rJ, svH_63, svH_66, rfH_63, wvH_63, wvH_62, wvH_67, wvH_68, wvH_69, sc_63, sc_n62, sc_n67, sc_n68, sc_n69, sc_n70, reduceIte, Nat.reduceEqDiff, eq_self, up_up, up_self, up_ne, ne_eq, not_false_eq_true, Int.reduceEq, Int.reduceNeg] at h9; first | (exfalso; omega) | skip) | skip) | exact ⟨w, ps, s, hC.hr, hC.st, hW.cts, g0, fun _ => C, fun q => absurd rfl q⟩ | refine Exists.intro w ?_ | exact hG | exact hW | exact h2 | exact h2 (by omega) | exact h3 | exact h3 (by omega) | exact h4 | exact h4 (by omega) | omega | exact True.intro | (simp only [rI_rI, rJ_rJ, hI_rI, hJ_rI, hI_rJ, hJ_rJ, hI_rR, hR_rI, hR_rJ, hN_rI, hN_rJ, svH_63, svH_66, rfH_63, wvH_63, wvH_62, wvH_67, wvH_68, wvH_69, sc_63, sc_n62, sc_n67, sc_n68, sc_n69, sc_n70, reduceIte, Nat.reduceEqDiff, eq_self, up_up, up_self, up_ne, ne_eq, not_false_eq_true, Int.reduceEq, Int.reduceNeg]; omega))
    · have A : ∀ a b c d, HR (hI (g4 h a b c d)) (hR (g4 h a b c d) 12) ps s := fun a b c d => HR.fc (fun q q0 q1 => by
          show (if q = 1 then a else if q = 2 then b else if q = 3 then c else if q = 4 then d else hI h q) = _
          rw [if_neg (by omega), if_neg (by omega), if_neg (by omega), if_neg (by omega)]) hC.hr
      have B : ∀ a b c d, St0 (hI (g4 h a b c d)) 5 w := fun a b c d => St0_fc (fun q q0 q1 => by
          show (if q = 1 then a else if q = 2 then b else if q = 3 then c else if q = 4 then d else hI h q) = _
          rw [if_neg (by omega), if_neg (by omega), if_neg (by omega), if_neg (by omega)]) hC.st
      by_cases x : w 0 = 40
      · have C : ∀ f, GR (hI h 1) f (hI h 3) (hI h 4) w → X 1 (g4 h (hI h 1) f (hI h 3) (hI h 4)) := fun f G => by
          refine h3 y (by omega) _ ?_ ?_
          · refine hC.gr hW (fun q q0 q1 => ?_) rfl G (fun _ _ _ => rfl) hC.sk hC.rn ⟨rfl, rfl⟩
            show (if q = 1 then _ else if q = 2 then _ else if q = 3 then _ else if q = 4 then _ else hI h q) = _
            rw [if_neg (by omega), if_neg (by omega), if_neg (by omega), if_neg (by omega)]
          · refine Box.i ⟨Box.i fun q q0 q1 => ⟨?_, rfl, rfl⟩, rfl, rfl⟩
            show (if q = 1 then _ else if q = 2 then _ else if q = 3 then _ else if q = 4 then _ else hI h q) = _
            rw [if_neg (by omega), if_neg (by omega), if_neg (by omega), if_neg (by omega)]
        repeat' (first | (intro q9; exact absurd q9 z) | apply And.intro | (with_reducible assumption) | (intro h9; first | (exfalso; omega) | (simp only [rI_rI, rJ_rJ, hI_rI, hJ_rI, hI_rJ, hJ_rJ, hI_rR, hR_rI, hR_rJ, hN_rI, hN_rJ, svH_63, svH_66, rfH_63, wvH_63, wvH_62, wvH_67, wvH_68, wvH_69, sc_63, sc_n62, sc_n67, sc_n68, sc_n69, sc_n70, reduceIte, Nat.reduceEqDiff, eq_self, up_up, up_self, up_ne, ne_eq, not_false_eq_true, Int.reduceEq, Int.reduceNeg] at h9; first | (exfalso; omega) | skip) | skip) | exact ⟨w, ps, s, A _ _ _ _, B _ _ _ _, hW.cts, g0, fun _ => C _ (by assumption), fun q => absurd rfl q⟩ | refine Exists.intro w ?_ | exact hG | exact hW | exact h2 | exact h2 (by omega) | exact h3 | exact h3 (by omega) | exact h4 | exact h4 (by omega) | omega | exact True.intro | (simp only [rI_rI, rJ_rJ, hI_rI, hJ_rI, hI_rJ, hJ_rJ, hI_rR, hR_rI, hR_rJ, hN_rI, hN_rJ, svH_63, svH_66, rfH_63, wvH_63, wvH_62, wvH_67, wvH_68, wvH_69, sc_63, sc_n62, sc_n67, sc_n68, sc_n69, sc_n70, reduceIte, Nat.reduceEqDiff, eq_self, up_up, up_self, up_ne, ne_eq, not_false_eq_true, Int.reduceEq, Int.reduceNeg]; omega))
      · have C : ∀ f1 f2 f3 f4 f r, GR f1 f2 f3 f4 (varN w wd) → HR f r (svPp ps s w) (svS s) → ∀ p, p = w 281 → Rt (some (.inl (w 0))) (vmH h f1 f2 f3 f4 f r p) := fun f1 f2 f3 f4 f r G k p hp => by
          subst hp
          have q := vm_ci hC (by omega) (by omega) y.1 y.2 (by omega) G k
          exact h4 y (by omega) _ q.1 q.2
        have V : ∀ f1 f2 f3 f4, GR f1 f2 f3 f4 (varN w wd) → ∀ f r, hI (hsH (g4 h f1 f2 f3 f4) f r) 1 4 - 1 = w 281 := fun f1 f2 f3 f4 G f r => by
          have e : f1 4 = w 281 + 1 := by
            rw [G.o.2.1]
            exact (varN_f wd nn.1 (by omega) vn.1 (by omega)).2.1
          show f1 4 - 1 = _
          omega
        repeat' (first | (intro q9; exact absurd q9 z) | apply And.intro | (with_reducible assumption) | (intro h9; first | (exfalso; omega) | (simp only [rI_rI, rJ_rJ, hI_rI, hJ_rI, hI_rJ, hJ_rJ, hI_rR, hR_rI, hR_rJ, hN_rI, hN_rJ, svH_63, svH_66, rfH_63, wvH_63, wvH_62, wvH_67, wvH_68, wvH_69, sc_63, sc_n62, sc_n67, sc_n68, sc_n69, sc_n70, reduceIte, Nat.reduceEqDiff, eq_self, up_up, up_self, up_ne, ne_eq, not_false_eq_true, Int.reduceEq, Int.reduceNeg] at h9; first | (exfalso; omega) | skip) | skip) | exact C _ _ _ _ _ _ (by assumption) (by assumption) _ (V _ _ _ _ (by assumption) _ _) | (rw [V _ _ _ _ (by assumption)]; omega) | refine ⟨w, ps, s, A _ _ _ _, B _ _ _ _, hW.cts, g0, fun q => absurd q (by omega), fun _ => ?_⟩ | refine Exists.intro w ?_ | exact hG | exact hW | exact h2 | exact h2 (by omega) | exact h3 | exact h3 (by omega) | exact h4 | exact h4 (by omega) | omega | exact True.intro | (simp only [rI_rI, rJ_rJ, hI_rI, hJ_rI, hI_rJ, hJ_rJ, hI_rR, hR_rI, hR_rJ, hN_rI, hN_rJ, svH_63, svH_66, rfH_63, wvH_63, wvH_62, wvH_67, wvH_68, wvH_69, sc_63, sc_n62, sc_n67, sc_n68, sc_n69, sc_n70, reduceIte, Nat.reduceEqDiff, eq_self, up_up, up_self, up_ne, ne_eq, not_false_eq_true, Int.reduceEq, Int.reduceNeg]; omega))
  · have C := h2 y
    repeat' (first | apply And.intro | (with_reducible assumption) | (intro h9; first | (exfalso; omega) | (simp only [rI_rI, rJ_rJ, hI_rI, hJ_rI, hI_rJ, hJ_rJ, hI_rR, hR_rI, hR_rJ, hN_rI, hN_rJ, svH_63, svH_66, rfH_63, wvH_63, wvH_62, wvH_67, wvH_68, wvH_69, sc_63, sc_n62, sc_n67, sc_n68, sc_n69, sc_n70, reduceIte, Nat.reduceEqDiff, eq_self, up_up, up_self, up_ne, ne_eq, not_false_eq_true, Int.reduceEq, Int.reduceNeg] at h9; first | (exfalso; omega) | skip) | skip) | exact C | exact h2 | exact h2 (by omega) | exact h3 | exact h3 (by omega) | exact h4 | exact h4 (by omega) | omega | exact True.intro | (simp only [rI_rI, rJ_rJ, hI_rI, hJ_rI, hI_rJ, hJ_rJ, hI_rR, hR_rI, hR_rJ, hN_rI, hN_rJ, svH_63, svH_66, rfH_63, wvH_63, wvH_62, wvH_67, wvH_68, wvH_69, sc_63, sc_n62, sc_n67, sc_n68, sc_n69, sc_n70, reduceIte, Nat.reduceEqDiff, eq_self, up_up, up_self, up_ne, ne_eq, not_false_eq_true, Int.reduceEq, Int.reduceNeg]; omega))
theorem m_X9_variable : MM 136 s_X9_variable := mm_of (own := 8) (by rfl) k_X9_variable (cl := [(185, s_X9_isWidth), (1, s_X0_count), (10, s_X0_makeVariable), (179, s_X9_keepMade), (2, s_X0_variableCount), (96, s_X5_forget)]) ⟨m_X9_isWidth, m_X0_count, m_X0_makeVariable, m_X9_keepMade, m_X0_variableCount, m_X5_forget, trivial⟩ o_X9_variable

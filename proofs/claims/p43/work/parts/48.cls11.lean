/-! ===== the class: what throws, what is remembered ===== -/
def s_X9_demandNode : CS := (xc 1 6 2, ap [(3, 0), (0, 0)] (fun n h Rt X =>
(0 ≤ n ∧ n < hI h 1 3 → Rt none h) ∧ (¬ (0 ≤ n ∧ n < hI h 1 3) → X 2 h)))
set_option maxRecDepth 100000 in
set_option maxHeartbeats 4000000 in
theorem o_X9_demandNode : Obl true 0 2 (sp [(3, s_X0_has)]) [] code_X9_demandNode s_X9_demandNode := by
  refine obl0x (by rfl) ?_
  intro n r_n h Rt X hh hf hs
  obtain ⟨h1, h2⟩ := hs
  repeat' (first | apply And.intro | (with_reducible assumption) | (intro h9; first | (exfalso; omega) | (simp only [rI_rI, rJ_rJ, hI_rI, hJ_rI, hI_rJ, hJ_rJ, hI_rR, hR_rI, hR_rJ, hN_rI, hN_rJ, svH_63, svH_66, rfH_63, wvH_63, wvH_62, wvH_67, wvH_68, wvH_69, sc_63, sc_n62, sc_n67, sc_n68, sc_n69, sc_n70, reduceIte, Nat.reduceEqDiff, eq_self, up_up, up_self, up_ne, ne_eq, not_false_eq_true, Int.reduceEq, Int.reduceNeg] at h9; first | (exfalso; omega) | skip) | skip) | exact h1 | exact h1 (by omega) | exact h2 | exact h2 (by omega) | omega | exact True.intro | (simp only [rI_rI, rJ_rJ, hI_rI, hJ_rI, hI_rJ, hJ_rJ, hI_rR, hR_rI, hR_rJ, hN_rI, hN_rJ, svH_63, svH_66, rfH_63, wvH_63, wvH_62, wvH_67, wvH_68, wvH_69, sc_63, sc_n62, sc_n67, sc_n68, sc_n69, sc_n70, reduceIte, Nat.reduceEqDiff, eq_self, up_up, up_self, up_ne, ne_eq, not_false_eq_true, Int.reduceEq, Int.reduceNeg]; omega))
theorem m_X9_demandNode : MM 181 s_X9_demandNode := mm_of (own := 8) (by rfl) k_X9_demandNode (cl := [(3, s_X0_has)]) ⟨m_X0_has, trivial⟩ o_X9_demandNode
def s_X9_demandVariable : CS := (xc 1 6 2, ap [(3, 0), (0, 0)] (fun n h Rt X =>
(0 ≤ n ∧ n < hI h 1 4 → Rt none h) ∧ (¬ (0 ≤ n ∧ n < hI h 1 4) → X 2 h)))
set_option maxRecDepth 100000 in
set_option maxHeartbeats 4000000 in
theorem o_X9_demandVariable : Obl true 0 2 (sp [(4, s_X0_hasVariable)]) [] code_X9_demandVariable s_X9_demandVariable := by
  refine obl0x (by rfl) ?_
  intro n r_n h Rt X hh hf hs
  obtain ⟨h1, h2⟩ := hs
  repeat' (first | apply And.intro | (with_reducible assumption) | (intro h9; first | (exfalso; omega) | (simp only [rI_rI, rJ_rJ, hI_rI, hJ_rI, hI_rJ, hJ_rJ, hI_rR, hR_rI, hR_rJ, hN_rI, hN_rJ, svH_63, svH_66, rfH_63, wvH_63, wvH_62, wvH_67, wvH_68, wvH_69, sc_63, sc_n62, sc_n67, sc_n68, sc_n69, sc_n70, reduceIte, Nat.reduceEqDiff, eq_self, up_up, up_self, up_ne, ne_eq, not_false_eq_true, Int.reduceEq, Int.reduceNeg] at h9; first | (exfalso; omega) | skip) | skip) | exact h1 | exact h1 (by omega) | exact h2 | exact h2 (by omega) | omega | exact True.intro | (simp only [rI_rI, rJ_rJ, hI_rI, hJ_rI, hI_rJ, hJ_rJ, hI_rR, hR_rI, hR_rJ, hN_rI, hN_rJ, svH_63, svH_66, rfH_63, wvH_63, wvH_62, wvH_67, wvH_68, wvH_69, sc_63, sc_n62, sc_n67, sc_n68, sc_n69, sc_n70, reduceIte, Nat.reduceEqDiff, eq_self, up_up, up_self, up_ne, ne_eq, not_false_eq_true, Int.reduceEq, Int.reduceNeg]; omega))
theorem m_X9_demandVariable : MM 182 s_X9_demandVariable := mm_of (own := 8) (by rfl) k_X9_demandVariable (cl := [(4, s_X0_hasVariable)]) ⟨m_X0_hasVariable, trivial⟩ o_X9_demandVariable
def s_X9_demandSameWidth : CS := (xc 1 6 2, ap [(3, 0), (0, 0), (0, 0)] (fun a b h Rt X =>
(0 ≤ hI h 1 3 ∧ hI h 1 3 ≤ 40 ∧ 0 ≤ a ∧ a < hI h 1 3 ∧ 0 ≤ b ∧ b < hI h 1 3) ∧ (hI h 2 (a * 8 + 1) = hI h 2 (b * 8 + 1) → Rt none h) ∧ (hI h 2 (a * 8 + 1) ≠ hI h 2 (b * 8 + 1) → X 0 h)))
set_option maxRecDepth 100000 in
set_option maxHeartbeats 4000000 in
theorem o_X9_demandSameWidth : Obl true 0 3 (sp [(5, s_X0_get)]) [] code_X9_demandSameWidth s_X9_demandSameWidth := by
  refine obl0x (by rfl) ?_
  intro a r_a b r_b h Rt X hh hf hs
  obtain ⟨⟨a1, a2⟩, h2, h3⟩ := hs
  repeat' (first | apply And.intro | (with_reducible assumption) | (intro h9; first | (exfalso; omega) | (simp only [rI_rI, rJ_rJ, hI_rI, hJ_rI, hI_rJ, hJ_rJ, hI_rR, hR_rI, hR_rJ, hN_rI, hN_rJ, svH_63, svH_66, rfH_63, wvH_63, wvH_62, wvH_67, wvH_68, wvH_69, sc_63, sc_n62, sc_n67, sc_n68, sc_n69, sc_n70, reduceIte, Nat.reduceEqDiff, eq_self, up_up, up_self, up_ne, ne_eq, not_false_eq_true, Int.reduceEq, Int.reduceNeg] at h9; first | (exfalso; omega) | skip) | skip) | exact h2 | exact h2 (by omega) | exact h3 | exact h3 (by omega) | omega | exact True.intro | (simp only [rI_rI, rJ_rJ, hI_rI, hJ_rI, hI_rJ, hJ_rJ, hI_rR, hR_rI, hR_rJ, hN_rI, hN_rJ, svH_63, svH_66, rfH_63, wvH_63, wvH_62, wvH_67, wvH_68, wvH_69, sc_63, sc_n62, sc_n67, sc_n68, sc_n69, sc_n70, reduceIte, Nat.reduceEqDiff, eq_self, up_up, up_self, up_ne, ne_eq, not_false_eq_true, Int.reduceEq, Int.reduceNeg]; omega))
theorem m_X9_demandSameWidth : MM 183 s_X9_demandSameWidth := mm_of (own := 8) (by rfl) k_X9_demandSameWidth (cl := [(5, s_X0_get)]) ⟨m_X0_get, trivial⟩ o_X9_demandSameWidth
def s_X9_demandLimit : CS := (xc 1 6 1, ap [(0, 0)] (fun n h Rt X =>
(1 ≤ n ∧ n ≤ 200 → Rt none h) ∧ (¬ (1 ≤ n ∧ n ≤ 200) → X 0 h)))
set_option maxRecDepth 100000 in
set_option maxHeartbeats 4000000 in
theorem o_X9_demandLimit : Obl true 0 1 (sp []) [] code_X9_demandLimit s_X9_demandLimit := by
  refine obl0x (by rfl) ?_
  intro n r_n h Rt X hh hf hs
  obtain ⟨h1, h2⟩ := hs
  repeat' (first | apply And.intro | (with_reducible assumption) | (intro h9; first | (exfalso; omega) | (simp only [rI_rI, rJ_rJ, hI_rI, hJ_rI, hI_rJ, hJ_rJ, hI_rR, hR_rI, hR_rJ, hN_rI, hN_rJ, svH_63, svH_66, rfH_63, wvH_63, wvH_62, wvH_67, wvH_68, wvH_69, sc_63, sc_n62, sc_n67, sc_n68, sc_n69, sc_n70, reduceIte, Nat.reduceEqDiff, eq_self, up_up, up_self, up_ne, ne_eq, not_false_eq_true, Int.reduceEq, Int.reduceNeg] at h9; first | (exfalso; omega) | skip) | skip) | exact h1 | exact h1 (by omega) | exact h2 | exact h2 (by omega) | omega | exact True.intro | (simp only [rI_rI, rJ_rJ, hI_rI, hJ_rI, hI_rJ, hJ_rJ, hI_rR, hR_rI, hR_rJ, hN_rI, hN_rJ, svH_63, svH_66, rfH_63, wvH_63, wvH_62, wvH_67, wvH_68, wvH_69, sc_63, sc_n62, sc_n67, sc_n68, sc_n69, sc_n70, reduceIte, Nat.reduceEqDiff, eq_self, up_up, up_self, up_ne, ne_eq, not_false_eq_true, Int.reduceEq, Int.reduceNeg]; omega))
theorem m_X9_demandLimit : MM 184 s_X9_demandLimit := mm_of (own := 8) (by rfl) k_X9_demandLimit (cl := []) trivial o_X9_demandLimit
def s_X9_keepMade : CS := (xc 1 6 3, ap [(3, 0), (0, 0), (0, 0)] (fun b n h Rt X =>
∃ w ps s, HR (hI h) (hR h 12) ps s ∧ St0 (hI h) 5 w ∧ Cts w ∧ b = w 0 ∧ (n = -1 → X 1 h) ∧ (n ≠ -1 → ∀ f r, HR f r (svPp ps s w) (svS s) → Rt (some (.inl n)) (hsH h f r))))
set_option maxRecDepth 100000 in
set_option maxHeartbeats 4000000 in
theorem o_X9_keepMade : Obl true 1 3 (sp [(35, s_X1_save)]) [] code_X9_keepMade s_X9_keepMade := by
  refine obl0x (by rfl) ?_
  intro b r_b n r_n h Rt X hh hf hs
  obtain ⟨w, ps, s, hH, hS, hC, hn, h2, h3⟩ := hs
  by_cases z : n = -1
  · repeat' (first | apply And.intro | (with_reducible assumption) | (intro h9; first | (exfalso; omega) | (simp only [rI_rI, rJ_rJ, hI_rI, hJ_rI, hI_rJ, hJ_rJ, hI_rR, hR_rI, hR_rJ, hN_rI, hN_rJ, svH_63, svH_66, rfH_63, wvH_63, wvH_62, wvH_67, wvH_68, wvH_69, sc_63, sc_n62, sc_n67, sc_n68, sc_n69, sc_n70, reduceIte, Nat.reduceEqDiff, eq_self, up_up, up_self, up_ne, ne_eq, not_false_eq_true, Int.reduceEq, Int.reduceNeg] at h9; first | (exfalso; omega) | skip) | skip) | exact h2 z | exact h2 | exact h2 (by omega) | exact h3 | exact h3 (by omega) | omega | exact True.intro | (simp only [rI_rI, rJ_rJ, hI_rI, hJ_rI, hI_rJ, hJ_rJ, hI_rR, hR_rI, hR_rJ, hN_rI, hN_rJ, svH_63, svH_66, rfH_63, wvH_63, wvH_62, wvH_67, wvH_68, wvH_69, sc_63, sc_n62, sc_n67, sc_n68, sc_n69, sc_n70, reduceIte, Nat.reduceEqDiff, eq_self, up_up, up_self, up_ne, ne_eq, not_false_eq_true, Int.reduceEq, Int.reduceNeg]; omega))
  · have k3 := h3 z
    have k : ∃ w ps s, HR (hI h) (hR h 12) ps s ∧ St0 (hI h) 5 w ∧ Cts w ∧ b = w 0 ∧ ∀ f r, HR f r (svPp ps s w) (svS s) → Rt (some (.inl n)) (hsH h f r) := ⟨w, ps, s, hH, hS, hC, hn, k3⟩
    repeat' (first | apply And.intro | (with_reducible assumption) | (intro h9; first | (exfalso; omega) | (simp only [rI_rI, rJ_rJ, hI_rI, hJ_rI, hI_rJ, hJ_rJ, hI_rR, hR_rI, hR_rJ, hN_rI, hN_rJ, svH_63, svH_66, rfH_63, wvH_63, wvH_62, wvH_67, wvH_68, wvH_69, sc_63, sc_n62, sc_n67, sc_n68, sc_n69, sc_n70, reduceIte, Nat.reduceEqDiff, eq_self, up_up, up_self, up_ne, ne_eq, not_false_eq_true, Int.reduceEq, Int.reduceNeg] at h9; first | (exfalso; omega) | skip) | skip) | exact k | exact h2 | exact h2 (by omega) | exact h3 | exact h3 (by omega) | omega | exact True.intro | (simp only [rI_rI, rJ_rJ, hI_rI, hJ_rI, hI_rJ, hJ_rJ, hI_rR, hR_rI, hR_rJ, hN_rI, hN_rJ, svH_63, svH_66, rfH_63, wvH_63, wvH_62, wvH_67, wvH_68, wvH_69, sc_63, sc_n62, sc_n67, sc_n68, sc_n69, sc_n70, reduceIte, Nat.reduceEqDiff, eq_self, up_up, up_self, up_ne, ne_eq, not_false_eq_true, Int.reduceEq, Int.reduceNeg]; omega))
theorem m_X9_keepMade : MM 179 s_X9_keepMade := mm_of (own := 8) (by rfl) k_X9_keepMade (cl := [(35, s_X1_save)]) ⟨m_X1_save, trivial⟩ o_X9_keepMade
def s_X9_remember : CS := (zc 3, ap [(3, 0)] (fun  h Rt X =>
∃ w ps s, HR (hI h) (hR h 12) ps s ∧ St0 (hI h) 5 w ∧ Cts w ∧ hI h 1 3 = w 0 ∧ ∀ f r, HR f r (svPp ps s w) (svS s) → Rt none (hsH h f r)))
set_option maxRecDepth 100000 in
set_option maxHeartbeats 4000000 in
theorem o_X9_remember : Obl true 0 1 (sp [(1, s_X0_count), (35, s_X1_save)]) [] code_X9_remember s_X9_remember := by
  refine obl0 (by rfl) ?_
  intro  h Rt X hh hf hs
  obtain ⟨w, ps, s, hH, hS, hC, hn, h2⟩ := hs
  have k : ∃ w ps s, HR (hI h) (hR h 12) ps s ∧ St0 (hI h) 5 w ∧ Cts w ∧ hI h 1 3 = w 0 ∧ ∀ f r, HR f r (svPp ps s w) (svS s) → Rt none (hsH h f r) := ⟨w, ps, s, hH, hS, hC, hn, h2⟩
  repeat' (first | apply And.intro | (with_reducible assumption) | (intro h9; first | (exfalso; omega) | (simp only [rI_rI, rJ_rJ, hI_rI, hJ_rI, hI_rJ, hJ_rJ, hI_rR, hR_rI, hR_rJ, hN_rI, hN_rJ, svH_63, svH_66, rfH_63, wvH_63, wvH_62, wvH_67, wvH_68, wvH_69, sc_63, sc_n62, sc_n67, sc_n68, sc_n69, sc_n70, reduceIte, Nat.reduceEqDiff, eq_self, up_up, up_self, up_ne, ne_eq, not_false_eq_true, Int.reduceEq, Int.reduceNeg] at h9; first | (exfalso; omega) | skip) | skip) | exact k | exact h2 | exact h2 (by omega) | omega | exact True.intro | (simp only [rI_rI, rJ_rJ, hI_rI, hJ_rI, hI_rJ, hJ_rJ, hI_rR, hR_rI, hR_rJ, hN_rI, hN_rJ, svH_63, svH_66, rfH_63, wvH_63, wvH_62, wvH_67, wvH_68, wvH_69, sc_63, sc_n62, sc_n67, sc_n68, sc_n69, sc_n70, reduceIte, Nat.reduceEqDiff, eq_self, up_up, up_self, up_ne, ne_eq, not_false_eq_true, Int.reduceEq, Int.reduceNeg]; omega))
theorem m_X9_remember : MM 180 s_X9_remember := mm_of (own := 8) (by rfl) k_X9_remember (cl := [(1, s_X0_count), (35, s_X1_save)]) ⟨m_X0_count, m_X1_save, trivial⟩ o_X9_remember

/-! ===== the class: one thing taken, the whole text ===== -/
/-- what holds of the reader while there is no error -/
def TnP (r : Rw) : Prop := Box (0 ≤ r 51 11 ∧ r 51 11 < 119 ∧ 0 ≤ r 51 6 ∧ r 51 6 < 119 ∧ (0 < r 51 11 → 0 ≤ r 56 (r 51 11 - 1) ∧ 0 ≤ r 58 (r 51 11 - 1) ∧ r 58 (r 51 11 - 1) ≤ 100 ∧ 0 ≤ r 57 (r 51 11 - 1) ∧ r 57 (r 51 11 - 1) ≤ 2) ∧ (1 < r 51 11 → 0 ≤ r 56 (r 51 11 - 1 - 1)))
theorem TnP.ad {r : Rw} (h : TnP r) : AdP r := Box.i ⟨h.o.2.2.1, by have := h.o; omega, by have := h.o; omega, fun q => (h.o.2.2.2.2.1 q).1⟩
theorem TnP.op {r : Rw} (h : TnP r) : OpP r := Box.i ⟨h.o.1, by have := h.o; omega⟩
def s_X4_takeWantedDigit : CS := (zc 3, ap [(3, 51)] (fun  h Rt X =>
PL (hI h) ∧ TnP (hI h) ∧ 0 < hI h 51 11 ∧ Rt none (wI h (wdS (hI h)))))
set_option maxRecDepth 100000 in
set_option maxHeartbeats 4000000 in
theorem o_X4_takeWantedDigit : Obl true 0 2 (sp [(88, s_X4_takeDigit)]) [] code_X4_takeWantedDigit s_X4_takeWantedDigit := by
  refine obl0 (by rfl) ?_
  intro  h Rt X hh hf hs
  obtain ⟨hP, hA, o1, h3⟩ := hs
  obtain ⟨l0, l1, l2, l3⟩ := hP.o
  obtain ⟨t1, t2, t3, t4, t5, t6⟩ := hA.o
  have t5 := t5 o1
  have d7 : dgS (hI h) 57 = hI h 57 := dgS_ne _ (by decide)
  have d9 : 0 ≤ dgS (hI h) 57 (hI h 51 11 - 1) ∧ dgS (hI h) 57 (hI h 51 11 - 1) ≤ 2 := by rw [d7]; omega
  have dv := dgV_rng (hI h)
  repeat' (first | apply And.intro | (with_reducible assumption) | (intro h9; first | (exfalso; omega) | (simp only [rI_rI, rJ_rJ, hI_rI, hJ_rI, hI_rJ, hJ_rJ, hI_rR, hR_rI, hR_rJ, hN_rI, hN_rJ, svH_63, svH_66, rfH_63, wvH_63, wvH_62, wvH_67, wvH_68, wvH_69, sc_63, sc_n62, sc_n67, sc_n68, sc_n69, sc_n70, reduceIte, Nat.reduceEqDiff, eq_self, up_up, up_self, up_ne, ne_eq, not_false_eq_true, Int.reduceEq, Int.reduceNeg, hI_wI, hI_wI] at h9; first | (exfalso; omega) | skip) | skip) | exact h3 | exact h3 | exact h3 (by omega) | omega | exact True.intro | (simp only [rI_rI, rJ_rJ, hI_rI, hJ_rI, hI_rJ, hJ_rJ, hI_rR, hR_rI, hR_rJ, hN_rI, hN_rJ, svH_63, svH_66, rfH_63, wvH_63, wvH_62, wvH_67, wvH_68, wvH_69, sc_63, sc_n62, sc_n67, sc_n68, sc_n69, sc_n70, reduceIte, Nat.reduceEqDiff, eq_self, up_up, up_self, up_ne, ne_eq, not_false_eq_true, Int.reduceEq, Int.reduceNeg, hI_wI, hI_wI]; omega))
theorem m_X4_takeWantedDigit : MM 86 s_X4_takeWantedDigit := mm_of (own := 3) (by rfl) k_X4_takeWantedDigit (cl := [(88, s_X4_takeDigit)]) ⟨m_X4_takeDigit, trivial⟩ o_X4_takeWantedDigit
def s_X4_takeClosing : CS := (zc 2, ap [(3, 51)] (fun  h Rt X =>
PL (hI h) ∧ TnP (hI h) ∧ 0 < hI h 51 11 ∧ Rt none (wI h (clS (hI h)))))
set_option maxRecDepth 100000 in
set_option maxHeartbeats 4000000 in
theorem o_X4_takeClosing : Obl true 0 1 (sp [(125, s_X7_at), (89, s_X4_addStep)]) [] code_X4_takeClosing s_X4_takeClosing := by
  refine obl0 (by rfl) ?_
  intro  h Rt X hh hf hs
  obtain ⟨hP, hA, o1, h3⟩ := hs
  obtain ⟨l0, l1, l2, l3⟩ := hP.o
  obtain ⟨t1, t2, t3, t4, t5, t6⟩ := hA.o
  unfold clS at h3
  by_cases x : tA (hI h) (hI h 51 1) = 41
  · rw [if_pos x] at h3
    have A : AdP (sF (avS (hI h)) 11 (hI h 51 11 - 1)) := Box.i ⟨t3, by show hI h 51 6 < 120; omega, by show hI h 51 11 - 1 ≤ 120; omega, fun q => t6 (by have q : 0 < hI h 51 11 - 1 := q; omega)⟩
    repeat' (first | apply And.intro | (with_reducible assumption) | (intro h9; first | (exfalso; omega) | (simp only [rI_rI, rJ_rJ, hI_rI, hJ_rI, hI_rJ, hJ_rJ, hI_rR, hR_rI, hR_rJ, hN_rI, hN_rJ, svH_63, svH_66, rfH_63, wvH_63, wvH_62, wvH_67, wvH_68, wvH_69, sc_63, sc_n62, sc_n67, sc_n68, sc_n69, sc_n70, reduceIte, Nat.reduceEqDiff, eq_self, up_up, up_self, up_ne, ne_eq, not_false_eq_true, Int.reduceEq, Int.reduceNeg, hI_wI, hI_wI] at h9; first | (exfalso; omega) | skip) | skip) | exact A.o.1 | exact A.o.2.1 | exact A.o.2.2.1 | exact A.o.2.2.2 (by assumption) | exact h3 | exact h3 | exact h3 (by omega) | omega | exact True.intro | (simp only [rI_rI, rJ_rJ, hI_rI, hJ_rI, hI_rJ, hJ_rJ, hI_rR, hR_rI, hR_rJ, hN_rI, hN_rJ, svH_63, svH_66, rfH_63, wvH_63, wvH_62, wvH_67, wvH_68, wvH_69, sc_63, sc_n62, sc_n67, sc_n68, sc_n69, sc_n70, reduceIte, Nat.reduceEqDiff, eq_self, up_up, up_self, up_ne, ne_eq, not_false_eq_true, Int.reduceEq, Int.reduceNeg, hI_wI, hI_wI]; omega))
  · rw [if_neg x] at h3
    repeat' (first | apply And.intro | (with_reducible assumption) | (intro h9; first | (exfalso; omega) | (simp only [rI_rI, rJ_rJ, hI_rI, hJ_rI, hI_rJ, hJ_rJ, hI_rR, hR_rI, hR_rJ, hN_rI, hN_rJ, svH_63, svH_66, rfH_63, wvH_63, wvH_62, wvH_67, wvH_68, wvH_69, sc_63, sc_n62, sc_n67, sc_n68, sc_n69, sc_n70, reduceIte, Nat.reduceEqDiff, eq_self, up_up, up_self, up_ne, ne_eq, not_false_eq_true, Int.reduceEq, Int.reduceNeg, hI_wI, hI_wI] at h9; first | (exfalso; omega) | skip) | skip) | exact h3 | exact h3 (by omega) | omega | exact True.intro | (simp only [rI_rI, rJ_rJ, hI_rI, hJ_rI, hI_rJ, hJ_rJ, hI_rR, hR_rI, hR_rJ, hN_rI, hN_rJ, svH_63, svH_66, rfH_63, wvH_63, wvH_62, wvH_67, wvH_68, wvH_69, sc_63, sc_n62, sc_n67, sc_n68, sc_n69, sc_n70, reduceIte, Nat.reduceEqDiff, eq_self, up_up, up_self, up_ne, ne_eq, not_false_eq_true, Int.reduceEq, Int.reduceNeg, hI_wI, hI_wI]; omega))
theorem m_X4_takeClosing : MM 87 s_X4_takeClosing := mm_of (own := 3) (by rfl) k_X4_takeClosing (cl := [(125, s_X7_at), (89, s_X4_addStep)]) ⟨m_X7_at, m_X4_addStep, trivial⟩ o_X4_takeClosing
def s_X4_takeLeaf : CS := (zc 4, ap [(3, 51)] (fun  h Rt X =>
PL (hI h) ∧ AdP (hI h) ∧ Rt none (wI h (lfS (hI h)))))
set_option maxRecDepth 100000 in
set_option maxHeartbeats 4000000 in
theorem o_X4_takeLeaf : Obl true 0 1 (sp [(125, s_X7_at), (91, s_X4_isDigit), (88, s_X4_takeDigit), (89, s_X4_addStep), (84, s_X4_takeConstant)]) [] code_X4_takeLeaf s_X4_takeLeaf := by
  refine obl0 (by rfl) ?_
  intro  h Rt X hh hf hs
  obtain ⟨hP, hA, h3⟩ := hs
  obtain ⟨l0, l1, l2, l3⟩ := hP.o
  unfold lfS at h3
  by_cases x : tA (hI h) (hI h 51 1) = 118
  · by_cases y : isD (tA (hI h) (hI h 51 1 + 1))
    · rw [if_pos ⟨x, y⟩] at h3
      have P1 := hP.av (tAn x (by decide))
      have y1 := tA_rng y
      have A : AdP (dgS (avS (hI h))) := hA.cg (dgS_S _) (dgS_O _) (dgS_ne _ (by decide))
      repeat' (first | apply And.intro | (with_reducible assumption) | (intro h9; first | (exfalso; omega) | (simp only [rI_rI, rJ_rJ, hI_rI, hJ_rI, hI_rJ, hJ_rJ, hI_rR, hR_rI, hR_rJ, hN_rI, hN_rJ, svH_63, svH_66, rfH_63, wvH_63, wvH_62, wvH_67, wvH_68, wvH_69, sc_63, sc_n62, sc_n67, sc_n68, sc_n69, sc_n70, reduceIte, Nat.reduceEqDiff, eq_self, up_up, up_self, up_ne, ne_eq, not_false_eq_true, Int.reduceEq, Int.reduceNeg, hI_wI, hI_wI] at h9; first | (exfalso; omega) | skip) | skip) | exact absurd y (by assumption) | exact P1.o.2.2.1 | exact Int.le_trans P1.o.2.2.2 P1.o.2.1 | exact A.o.1 | exact A.o.2.1 | exact A.o.2.2.1 | exact A.o.2.2.2 (by assumption) | exact h3 | exact h3 | exact h3 (by omega) | omega | exact True.intro | (simp only [rI_rI, rJ_rJ, hI_rI, hJ_rI, hI_rJ, hJ_rJ, hI_rR, hR_rI, hR_rJ, hN_rI, hN_rJ, svH_63, svH_66, rfH_63, wvH_63, wvH_62, wvH_67, wvH_68, wvH_69, sc_63, sc_n62, sc_n67, sc_n68, sc_n69, sc_n70, reduceIte, Nat.reduceEqDiff, eq_self, up_up, up_self, up_ne, ne_eq, not_false_eq_true, Int.reduceEq, Int.reduceNeg, hI_wI, hI_wI]; omega))
    · rw [if_neg (fun q => y q.2)] at h3
      have z : ¬ isD (tA (hI h) (hI h 51 1)) := by rw [x]; decide
      rw [if_neg z] at h3
      repeat' (first | apply And.intro | (with_reducible assumption) | (intro h9; first | (exfalso; omega) | (simp only [rI_rI, rJ_rJ, hI_rI, hJ_rI, hI_rJ, hJ_rJ, hI_rR, hR_rI, hR_rJ, hN_rI, hN_rJ, svH_63, svH_66, rfH_63, wvH_63, wvH_62, wvH_67, wvH_68, wvH_69, sc_63, sc_n62, sc_n67, sc_n68, sc_n69, sc_n70, reduceIte, Nat.reduceEqDiff, eq_self, up_up, up_self, up_ne, ne_eq, not_false_eq_true, Int.reduceEq, Int.reduceNeg, hI_wI, hI_wI] at h9; first | (exfalso; omega) | skip) | skip) | exact absurd (by assumption) y | exact absurd (by assumption) z | exact h3 | exact h3 (by omega) | omega | exact True.intro | (simp only [rI_rI, rJ_rJ, hI_rI, hJ_rI, hI_rJ, hJ_rJ, hI_rR, hR_rI, hR_rJ, hN_rI, hN_rJ, svH_63, svH_66, rfH_63, wvH_63, wvH_62, wvH_67, wvH_68, wvH_69, sc_63, sc_n62, sc_n67, sc_n68, sc_n69, sc_n70, reduceIte, Nat.reduceEqDiff, eq_self, up_up, up_self, up_ne, ne_eq, not_false_eq_true, Int.reduceEq, Int.reduceNeg, hI_wI, hI_wI]; omega))
  · rw [if_neg (fun q => x q.1)] at h3
    by_cases z : isD (tA (hI h) (hI h 51 1))
    · rw [if_pos z] at h3
      repeat' (first | apply And.intro | (with_reducible assumption) | (intro h9; first | (exfalso; omega) | (simp only [rI_rI, rJ_rJ, hI_rI, hJ_rI, hI_rJ, hJ_rJ, hI_rR, hR_rI, hR_rJ, hN_rI, hN_rJ, svH_63, svH_66, rfH_63, wvH_63, wvH_62, wvH_67, wvH_68, wvH_69, sc_63, sc_n62, sc_n67, sc_n68, sc_n69, sc_n70, reduceIte, Nat.reduceEqDiff, eq_self, up_up, up_self, up_ne, ne_eq, not_false_eq_true, Int.reduceEq, Int.reduceNeg, hI_wI, hI_wI] at h9; first | (exfalso; omega) | skip) | skip) | exact absurd z (by assumption) | exact hP | exact hA | exact h3 | exact h3 (by omega) | omega | exact True.intro | (simp only [rI_rI, rJ_rJ, hI_rI, hJ_rI, hI_rJ, hJ_rJ, hI_rR, hR_rI, hR_rJ, hN_rI, hN_rJ, svH_63, svH_66, rfH_63, wvH_63, wvH_62, wvH_67, wvH_68, wvH_69, sc_63, sc_n62, sc_n67, sc_n68, sc_n69, sc_n70, reduceIte, Nat.reduceEqDiff, eq_self, up_up, up_self, up_ne, ne_eq, not_false_eq_true, Int.reduceEq, Int.reduceNeg, hI_wI, hI_wI]; omega))
    · rw [if_neg z] at h3
      repeat' (first | apply And.intro | (with_reducible assumption) | (intro h9; first | (exfalso; omega) | (simp only [rI_rI, rJ_rJ, hI_rI, hJ_rI, hI_rJ, hJ_rJ, hI_rR, hR_rI, hR_rJ, hN_rI, hN_rJ, svH_63, svH_66, rfH_63, wvH_63, wvH_62, wvH_67, wvH_68, wvH_69, sc_63, sc_n62, sc_n67, sc_n68, sc_n69, sc_n70, reduceIte, Nat.reduceEqDiff, eq_self, up_up, up_self, up_ne, ne_eq, not_false_eq_true, Int.reduceEq, Int.reduceNeg, hI_wI, hI_wI] at h9; first | (exfalso; omega) | skip) | skip) | exact absurd (by assumption) z | exact h3 | exact h3 (by omega) | omega | exact True.intro | (simp only [rI_rI, rJ_rJ, hI_rI, hJ_rI, hI_rJ, hJ_rJ, hI_rR, hR_rI, hR_rJ, hN_rI, hN_rJ, svH_63, svH_66, rfH_63, wvH_63, wvH_62, wvH_67, wvH_68, wvH_69, sc_63, sc_n62, sc_n67, sc_n68, sc_n69, sc_n70, reduceIte, Nat.reduceEqDiff, eq_self, up_up, up_self, up_ne, ne_eq, not_false_eq_true, Int.reduceEq, Int.reduceNeg, hI_wI, hI_wI]; omega))
theorem m_X4_takeLeaf : MM 83 s_X4_takeLeaf := mm_of (own := 3) (by rfl) k_X4_takeLeaf (cl := [(125, s_X7_at), (91, s_X4_isDigit), (88, s_X4_takeDigit), (89, s_X4_addStep), (84, s_X4_takeConstant)]) ⟨m_X7_at, m_X4_isDigit, m_X4_takeDigit, m_X4_addStep, m_X4_takeConstant, trivial⟩ o_X4_takeLeaf
def s_X4_takeNext : CS := (zc 11, ap [(3, 51)] (fun  h Rt X =>
PL (hI h) ∧ TnP (hI h) ∧ hI h 51 1 < hI h 49 1 ∧ Rt none (wI h (tnS (hI h)))))
set_option maxRecDepth 100000 in
set_option maxHeartbeats 4000000 in
theorem o_X4_takeNext : Obl true 0 1 (sp [(125, s_X7_at), (80, s_X4_isWhole), (82, s_X4_wantsNode), (85, s_X4_takeOpening), (83, s_X4_takeLeaf), (86, s_X4_takeWantedDigit), (87, s_X4_takeClosing)]) [] code_X4_takeNext s_X4_takeNext := by
  refine obl0 (by rfl) ?_
  intro  h Rt X hh hf hs
  obtain ⟨hP, hA, x0, h3⟩ := hs
  obtain ⟨l0, l1, l2, l3⟩ := hP.o
  obtain ⟨t1, t2, t3, t4, t5, t6⟩ := hA.o
  unfold tnS at h3
  by_cases x : tA (hI h) (hI h 51 1) = 32
  · rw [if_pos x] at h3
    repeat' (first | apply And.intro | (with_reducible assumption) | (intro h9; first | (exfalso; omega) | (simp only [rI_rI, rJ_rJ, hI_rI, hJ_rI, hI_rJ, hJ_rJ, hI_rR, hR_rI, hR_rJ, hN_rI, hN_rJ, svH_63, svH_66, rfH_63, wvH_63, wvH_62, wvH_67, wvH_68, wvH_69, sc_63, sc_n62, sc_n67, sc_n68, sc_n69, sc_n70, reduceIte, Nat.reduceEqDiff, eq_self, up_up, up_self, up_ne, ne_eq, not_false_eq_true, Int.reduceEq, Int.reduceNeg, hI_wI, hI_wI] at h9; first | (exfalso; omega) | skip) | skip) | exact h3 | exact h3 (by omega) | omega | exact True.intro | (simp only [rI_rI, rJ_rJ, hI_rI, hJ_rI, hI_rJ, hJ_rJ, hI_rR, hR_rI, hR_rJ, hN_rI, hN_rJ, svH_63, svH_66, rfH_63, wvH_63, wvH_62, wvH_67, wvH_68, wvH_69, sc_63, sc_n62, sc_n67, sc_n68, sc_n69, sc_n70, reduceIte, Nat.reduceEqDiff, eq_self, up_up, up_self, up_ne, ne_eq, not_false_eq_true, Int.reduceEq, Int.reduceNeg, hI_wI, hI_wI]; omega))
  · rw [if_neg x] at h3
    by_cases y : whS (hI h)
    · rw [if_pos y] at h3
      repeat' (first | apply And.intro | (with_reducible assumption) | (intro h9; first | (exfalso; omega) | (simp only [rI_rI, rJ_rJ, hI_rI, hJ_rI, hI_rJ, hJ_rJ, hI_rR, hR_rI, hR_rJ, hN_rI, hN_rJ, svH_63, svH_66, rfH_63, wvH_63, wvH_62, wvH_67, wvH_68, wvH_69, sc_63, sc_n62, sc_n67, sc_n68, sc_n69, sc_n70, reduceIte, Nat.reduceEqDiff, eq_self, up_up, up_self, up_ne, ne_eq, not_false_eq_true, Int.reduceEq, Int.reduceNeg, hI_wI, hI_wI] at h9; first | (exfalso; omega) | skip) | skip) | exact absurd y (by assumption) | exact h3 | exact h3 (by omega) | omega | exact True.intro | (simp only [rI_rI, rJ_rJ, hI_rI, hJ_rI, hI_rJ, hJ_rJ, hI_rR, hR_rI, hR_rJ, hN_rI, hN_rJ, svH_63, svH_66, rfH_63, wvH_63, wvH_62, wvH_67, wvH_68, wvH_69, sc_63, sc_n62, sc_n67, sc_n68, sc_n69, sc_n70, reduceIte, Nat.reduceEqDiff, eq_self, up_up, up_self, up_ne, ne_eq, not_false_eq_true, Int.reduceEq, Int.reduceNeg, hI_wI, hI_wI]; omega))
    · rw [if_neg y] at h3
      by_cases z : wtS (hI h)
      · by_cases u : tA (hI h) (hI h 51 1) = 40
        · rw [if_pos ⟨u, z⟩] at h3
          repeat' (first | apply And.intro | (with_reducible assumption) | (intro h9; first | (exfalso; omega) | (simp only [rI_rI, rJ_rJ, hI_rI, hJ_rI, hI_rJ, hJ_rJ, hI_rR, hR_rI, hR_rJ, hN_rI, hN_rJ, svH_63, svH_66, rfH_63, wvH_63, wvH_62, wvH_67, wvH_68, wvH_69, sc_63, sc_n62, sc_n67, sc_n68, sc_n69, sc_n70, reduceIte, Nat.reduceEqDiff, eq_self, up_up, up_self, up_ne, ne_eq, not_false_eq_true, Int.reduceEq, Int.reduceNeg, hI_wI, hI_wI] at h9; first | (exfalso; omega) | skip) | skip) | exact absurd (by assumption) y | exact absurd z (by assumption) | exact hP | exact hA.op | exact h3 | exact h3 (by omega) | omega | exact True.intro | (simp only [rI_rI, rJ_rJ, hI_rI, hJ_rI, hI_rJ, hJ_rJ, hI_rR, hR_rI, hR_rJ, hN_rI, hN_rJ, svH_63, svH_66, rfH_63, wvH_63, wvH_62, wvH_67, wvH_68, wvH_69, sc_63, sc_n62, sc_n67, sc_n68, sc_n69, sc_n70, reduceIte, Nat.reduceEqDiff, eq_self, up_up, up_self, up_ne, ne_eq, not_false_eq_true, Int.reduceEq, Int.reduceNeg, hI_wI, hI_wI]; omega))
        · rw [if_neg (fun q => u q.1), if_pos z] at h3
          repeat' (first | apply And.intro | (with_reducible assumption) | (intro h9; first | (exfalso; omega) | (simp only [rI_rI, rJ_rJ, hI_rI, hJ_rI, hI_rJ, hJ_rJ, hI_rR, hR_rI, hR_rJ, hN_rI, hN_rJ, svH_63, svH_66, rfH_63, wvH_63, wvH_62, wvH_67, wvH_68, wvH_69, sc_63, sc_n62, sc_n67, sc_n68, sc_n69, sc_n70, reduceIte, Nat.reduceEqDiff, eq_self, up_up, up_self, up_ne, ne_eq, not_false_eq_true, Int.reduceEq, Int.reduceNeg, hI_wI, hI_wI] at h9; first | (exfalso; omega) | skip) | skip) | exact absurd (by assumption) y | exact absurd z (by assumption) | exact hP | exact hA.ad | exact h3 | exact h3 (by omega) | omega | exact True.intro | (simp only [rI_rI, rJ_rJ, hI_rI, hJ_rI, hI_rJ, hJ_rJ, hI_rR, hR_rI, hR_rJ, hN_rI, hN_rJ, svH_63, svH_66, rfH_63, wvH_63, wvH_62, wvH_67, wvH_68, wvH_69, sc_63, sc_n62, sc_n67, sc_n68, sc_n69, sc_n70, reduceIte, Nat.reduceEqDiff, eq_self, up_up, up_self, up_ne, ne_eq, not_false_eq_true, Int.reduceEq, Int.reduceNeg, hI_wI, hI_wI]; omega))
      · rw [if_neg (fun q => z q.2), if_neg z] at h3
        have o1 : 0 < hI h 51 11 := by
          have q : ¬ hI h 51 11 = 0 := fun q => z (Or.inl q)
          omega
        by_cases u : 0 < hI h 57 (hI h 51 11 - 1)
        · rw [if_pos u] at h3
          repeat' (first | apply And.intro | (with_reducible assumption) | (intro h9; first | (exfalso; omega) | (simp only [rI_rI, rJ_rJ, hI_rI, hJ_rI, hI_rJ, hJ_rJ, hI_rR, hR_rI, hR_rJ, hN_rI, hN_rJ, svH_63, svH_66, rfH_63, wvH_63, wvH_62, wvH_67, wvH_68, wvH_69, sc_63, sc_n62, sc_n67, sc_n68, sc_n69, sc_n70, reduceIte, Nat.reduceEqDiff, eq_self, up_up, up_self, up_ne, ne_eq, not_false_eq_true, Int.reduceEq, Int.reduceNeg, hI_wI, hI_wI] at h9; first | (exfalso; omega) | skip) | skip) | exact absurd (by assumption) y | exact absurd (by assumption) z | exact hP | exact hA | exact h3 | exact h3 (by omega) | omega | exact True.intro | (simp only [rI_rI, rJ_rJ, hI_rI, hJ_rI, hI_rJ, hJ_rJ, hI_rR, hR_rI, hR_rJ, hN_rI, hN_rJ, svH_63, svH_66, rfH_63, wvH_63, wvH_62, wvH_67, wvH_68, wvH_69, sc_63, sc_n62, sc_n67, sc_n68, sc_n69, sc_n70, reduceIte, Nat.reduceEqDiff, eq_self, up_up, up_self, up_ne, ne_eq, not_false_eq_true, Int.reduceEq, Int.reduceNeg, hI_wI, hI_wI]; omega))
        · rw [if_neg u] at h3
          repeat' (first | apply And.intro | (with_reducible assumption) | (intro h9; first | (exfalso; omega) | (simp only [rI_rI, rJ_rJ, hI_rI, hJ_rI, hI_rJ, hJ_rJ, hI_rR, hR_rI, hR_rJ, hN_rI, hN_rJ, svH_63, svH_66, rfH_63, wvH_63, wvH_62, wvH_67, wvH_68, wvH_69, sc_63, sc_n62, sc_n67, sc_n68, sc_n69, sc_n70, reduceIte, Nat.reduceEqDiff, eq_self, up_up, up_self, up_ne, ne_eq, not_false_eq_true, Int.reduceEq, Int.reduceNeg, hI_wI, hI_wI] at h9; first | (exfalso; omega) | skip) | skip) | exact absurd (by assumption) y | exact absurd (by assumption) z | exact hP | exact hA | exact h3 | exact h3 (by omega) | omega | exact True.intro | (simp only [rI_rI, rJ_rJ, hI_rI, hJ_rI, hI_rJ, hJ_rJ, hI_rR, hR_rI, hR_rJ, hN_rI, hN_rJ, svH_63, svH_66, rfH_63, wvH_63, wvH_62, wvH_67, wvH_68, wvH_69, sc_63, sc_n62, sc_n67, sc_n68, sc_n69, sc_n70, reduceIte, Nat.reduceEqDiff, eq_self, up_up, up_self, up_ne, ne_eq, not_false_eq_true, Int.reduceEq, Int.reduceNeg, hI_wI, hI_wI]; omega))
theorem m_X4_takeNext : MM 81 s_X4_takeNext := mm_of (own := 3) (by rfl) k_X4_takeNext (cl := [(125, s_X7_at), (80, s_X4_isWhole), (82, s_X4_wantsNode), (85, s_X4_takeOpening), (83, s_X4_takeLeaf), (86, s_X4_takeWantedDigit), (87, s_X4_takeClosing)]) ⟨m_X7_at, m_X4_isWhole, m_X4_wantsNode, m_X4_takeOpening, m_X4_takeLeaf, m_X4_takeWantedDigit, m_X4_takeClosing, trivial⟩ o_X4_takeNext

/-! ===== the class: words looked up, constants, parentheses ===== -/
theorem isW_iff {r : Rw} {a n k : Int} : isW r a n k ↔ n ≤ 5 ∧ ∀ j, 0 ≤ j → j < 5 → wl k j = chW r a n j := by
  constructor
  · rintro ⟨h, h0, h1, h2, h3, h4⟩
    refine ⟨h, fun j j0 j1 => ?_⟩
    have : j = 0 ∨ j = 1 ∨ j = 2 ∨ j = 3 ∨ j = 4 := by omega
    rcases this with rfl | rfl | rfl | rfl | rfl <;> assumption
  · rintro ⟨h, g⟩
    exact ⟨h, g 0 (by decide) (by decide), g 1 (by decide) (by decide), g 2 (by decide) (by decide), g 3 (by decide) (by decide), g 4 (by decide) (by decide)⟩
def s_X2_isWordOf : CS := (zc 8, ap [(0, 0), (3, 49), (0, 0), (0, 0)] (fun k a n h Rt X =>
(0 ≤ k ∧ k ≤ 30 ∧ 0 ≤ a ∧ a ≤ 200 ∧ 0 ≤ n ∧ n ≤ 200) ∧ TL h ∧ (isW (hI h) a n k → Rt (some (.inl 1)) h) ∧ (¬ isW (hI h) a n k → Rt (some (.inl 0)) h)))
set_option maxRecDepth 100000 in
set_option maxHeartbeats 4000000 in
theorem o_X2_isWordOf : Obl true 2 6 (sp [(125, s_X7_at), (41, s_X2_letter)]) [] code_X2_isWordOf s_X2_isWordOf := by
  refine oblL (by rfl) [(10, [0, 1, 2, 3, 4])] ?_
  intro k r_k a r_a n r_n h Rt X hh hf hs
  obtain ⟨⟨k0, k1, a0, a1, n0, n1⟩, hT, h3, h4⟩ := hs
  refine ⟨fun m pc vs g => ∃ (i : Int), g = h ∧ vs = [.inl k, .inr (.inr (some 49)), .inl a, .inl n, .inl i] ∧ 0 ≤ i ∧ i ≤ 5 ∧ n ≤ 5 ∧ Box (∀ j, 0 ≤ j → j < i → wl k j = chW (hI h) a n j) ∧ m = (5 - i).toNat, ?_, ?_⟩
  · repeat' (first | apply And.intro | (with_reducible assumption) | (intro h9; first | (exfalso; omega) | (simp only [rI_rI, rJ_rJ, hI_rI, hJ_rI, hI_rJ, hJ_rJ, hI_rR, hR_rI, hR_rJ, hN_rI, hN_rJ, svH_63, svH_66, rfH_63, wvH_63, wvH_62, wvH_67, wvH_68, wvH_69, sc_63, sc_n62, sc_n67, sc_n68, sc_n69, sc_n70, reduceIte, Nat.reduceEqDiff, eq_self, up_up, up_self, up_ne, ne_eq, not_false_eq_true, Int.reduceEq, Int.reduceNeg, hI_wI] at h9; first | (exfalso; omega) | skip) | skip) | exact h4 (fun q => absurd q.1 (by omega)) | exact Exists.intro _ ⟨0, rfl, rfl, by omega, by omega, by omega, Box.i (fun j j0 j1 => by omega), rfl⟩ | exact h3 | exact h3 (by omega) | exact h4 | exact h4 (by omega) | omega | exact True.intro | (simp only [rI_rI, rJ_rJ, hI_rI, hJ_rI, hI_rJ, hJ_rJ, hI_rR, hR_rI, hR_rJ, hN_rI, hN_rJ, svH_63, svH_66, rfH_63, wvH_63, wvH_62, wvH_67, wvH_68, wvH_69, sc_63, sc_n62, sc_n67, sc_n68, sc_n69, sc_n70, reduceIte, Nat.reduceEqDiff, eq_self, up_up, up_self, up_ne, ne_eq, not_false_eq_true, Int.reduceEq, Int.reduceNeg, hI_wI]; omega))
  · rintro m pc vs' vs g hl ⟨i, rfl, rfl, i1, i2, i3, i4, rfl⟩ hv hh1 hf1
    obtain ⟨rfl, rfl⟩ := look1 hl
    by_cases y : i < 5
    · have c1 : i < n → chW (hI g) a n i = tA (hI g) (a + i) := fun e => if_pos e
      have c2 : n ≤ i → chW (hI g) a n i = 32 := fun e => if_neg (by omega)
      have nx : wl k i = chW (hI g) a n i → Box (∀ j, 0 ≤ j → j < i + 1 → wl k j = chW (hI g) a n j) := fun e => Box.i fun j j0 j1 => by
        by_cases z : j = i
        · rw [z]; exact e
        · exact i4.o j j0 (by omega)
      have no : ¬ wl k i = chW (hI g) a n i → ¬ isW (hI g) a n k := fun e q => e ((isW_iff.mp q).2 i i1 y)
      by_cases z : i < n
      · have c := c1 z
        repeat' (first | apply And.intro | (with_reducible assumption) | (intro h9; first | (exfalso; omega) | (simp only [rI_rI, rJ_rJ, hI_rI, hJ_rI, hI_rJ, hJ_rJ, hI_rR, hR_rI, hR_rJ, hN_rI, hN_rJ, svH_63, svH_66, rfH_63, wvH_63, wvH_62, wvH_67, wvH_68, wvH_69, sc_63, sc_n62, sc_n67, sc_n68, sc_n69, sc_n70, reduceIte, Nat.reduceEqDiff, eq_self, up_up, up_self, up_ne, ne_eq, not_false_eq_true, Int.reduceEq, Int.reduceNeg, hI_wI] at h9; first | (exfalso; omega) | skip) | skip) | exact h4 (no (by rw [c]; assumption)) | exact Exists.intro _ ⟨by omega, i + 1, rfl, rfl, by omega, by omega, by omega, nx (by rw [c]; assumption), rfl⟩ | exact h3 | exact h3 (by omega) | exact h4 | exact h4 (by omega) | omega | exact True.intro | (simp only [rI_rI, rJ_rJ, hI_rI, hJ_rI, hI_rJ, hJ_rJ, hI_rR, hR_rI, hR_rJ, hN_rI, hN_rJ, svH_63, svH_66, rfH_63, wvH_63, wvH_62, wvH_67, wvH_68, wvH_69, sc_63, sc_n62, sc_n67, sc_n68, sc_n69, sc_n70, reduceIte, Nat.reduceEqDiff, eq_self, up_up, up_self, up_ne, ne_eq, not_false_eq_true, Int.reduceEq, Int.reduceNeg, hI_wI]; omega))
      · have c := c2 (by omega)
        repeat' (first | apply And.intro | (with_reducible assumption) | (intro h9; first | (exfalso; omega) | (simp only [rI_rI, rJ_rJ, hI_rI, hJ_rI, hI_rJ, hJ_rJ, hI_rR, hR_rI, hR_rJ, hN_rI, hN_rJ, svH_63, svH_66, rfH_63, wvH_63, wvH_62, wvH_67, wvH_68, wvH_69, sc_63, sc_n62, sc_n67, sc_n68, sc_n69, sc_n70, reduceIte, Nat.reduceEqDiff, eq_self, up_up, up_self, up_ne, ne_eq, not_false_eq_true, Int.reduceEq, Int.reduceNeg, hI_wI] at h9; first | (exfalso; omega) | skip) | skip) | exact h4 (no (by rw [c]; assumption)) | exact Exists.intro _ ⟨by omega, i + 1, rfl, rfl, by omega, by omega, by omega, nx (by rw [c]; assumption), rfl⟩ | exact h3 | exact h3 (by omega) | exact h4 | exact h4 (by omega) | omega | exact True.intro | (simp only [rI_rI, rJ_rJ, hI_rI, hJ_rI, hI_rJ, hJ_rJ, hI_rR, hR_rI, hR_rJ, hN_rI, hN_rJ, svH_63, svH_66, rfH_63, wvH_63, wvH_62, wvH_67, wvH_68, wvH_69, sc_63, sc_n62, sc_n67, sc_n68, sc_n69, sc_n70, reduceIte, Nat.reduceEqDiff, eq_self, up_up, up_self, up_ne, ne_eq, not_false_eq_true, Int.reduceEq, Int.reduceNeg, hI_wI]; omega))
    · have q := h3 (isW_iff.mpr ⟨i3, fun j j0 j1 => i4.o j j0 (by omega)⟩)
      repeat' (first | apply And.intro | (with_reducible assumption) | (intro h9; first | (exfalso; omega) | (simp only [rI_rI, rJ_rJ, hI_rI, hJ_rI, hI_rJ, hJ_rJ, hI_rR, hR_rI, hR_rJ, hN_rI, hN_rJ, svH_63, svH_66, rfH_63, wvH_63, wvH_62, wvH_67, wvH_68, wvH_69, sc_63, sc_n62, sc_n67, sc_n68, sc_n69, sc_n70, reduceIte, Nat.reduceEqDiff, eq_self, up_up, up_self, up_ne, ne_eq, not_false_eq_true, Int.reduceEq, Int.reduceNeg, hI_wI] at h9; first | (exfalso; omega) | skip) | skip) | exact q | exact h3 | exact h3 (by omega) | exact h4 | exact h4 (by omega) | omega | exact True.intro | (simp only [rI_rI, rJ_rJ, hI_rI, hJ_rI, hI_rJ, hJ_rJ, hI_rR, hR_rI, hR_rJ, hN_rI, hN_rJ, svH_63, svH_66, rfH_63, wvH_63, wvH_62, wvH_67, wvH_68, wvH_69, sc_63, sc_n62, sc_n67, sc_n68, sc_n69, sc_n70, reduceIte, Nat.reduceEqDiff, eq_self, up_up, up_self, up_ne, ne_eq, not_false_eq_true, Int.reduceEq, Int.reduceNeg, hI_wI]; omega))
theorem m_X2_isWordOf : MM 43 s_X2_isWordOf := mm_of (own := 10) (by rfl) k_X2_isWordOf (cl := [(125, s_X7_at), (41, s_X2_letter)]) ⟨m_X7_at, m_X2_letter, trivial⟩ o_X2_isWordOf
def s_X2_kindOf : CS := (zc 9, ap [(3, 49), (0, 0), (0, 0)] (fun a n h Rt X =>
(0 ≤ a ∧ a ≤ 200 ∧ 0 ≤ n ∧ n ≤ 200) ∧ TL h ∧ Rt (some (.inl (kdF (hI h) a n))) h))
set_option maxRecDepth 100000 in
set_option maxHeartbeats 4000000 in
theorem o_X2_kindOf : Obl true 1 4 (sp [(43, s_X2_isWordOf)]) [] code_X2_kindOf s_X2_kindOf := by
  refine oblL (by rfl) [(2, [0, 1, 2, 3])] ?_
  intro a r_a n r_n h Rt X hh hf hs
  obtain ⟨⟨a0, a1, n0, n1⟩, hT, h3⟩ := hs
  refine ⟨fun m pc vs g => ∃ (i : Int), g = h ∧ vs = [.inr (.inr (some 49)), .inl a, .inl n, .inl (i + 2)] ∧ 0 ≤ i ∧ i ≤ 23 ∧ fst (kdP (hI h) a n) i.toNat = -1 ∧ m = (23 - i).toNat, ?_, ?_⟩
  · repeat' (first | apply And.intro | (with_reducible assumption) | (intro h9; first | (exfalso; omega) | (simp only [rI_rI, rJ_rJ, hI_rI, hJ_rI, hI_rJ, hJ_rJ, hI_rR, hR_rI, hR_rJ, hN_rI, hN_rJ, svH_63, svH_66, rfH_63, wvH_63, wvH_62, wvH_67, wvH_68, wvH_69, sc_63, sc_n62, sc_n67, sc_n68, sc_n69, sc_n70, reduceIte, Nat.reduceEqDiff, eq_self, up_up, up_self, up_ne, ne_eq, not_false_eq_true, Int.reduceEq, Int.reduceNeg, hI_wI] at h9; first | (exfalso; omega) | skip) | skip) | exact Exists.intro _ ⟨0, rfl, rfl, by omega, by omega, rfl, rfl⟩ | exact h3 | exact h3 (by omega) | omega | exact True.intro | (simp only [rI_rI, rJ_rJ, hI_rI, hJ_rI, hI_rJ, hJ_rJ, hI_rR, hR_rI, hR_rJ, hN_rI, hN_rJ, svH_63, svH_66, rfH_63, wvH_63, wvH_62, wvH_67, wvH_68, wvH_69, sc_63, sc_n62, sc_n67, sc_n68, sc_n69, sc_n70, reduceIte, Nat.reduceEqDiff, eq_self, up_up, up_self, up_ne, ne_eq, not_false_eq_true, Int.reduceEq, Int.reduceNeg, hI_wI]; omega))
  · rintro m pc vs' vs g hl ⟨i, rfl, rfl, i1, i2, i3, rfl⟩ hv hh1 hf1
    obtain ⟨rfl, rfl⟩ := look1 hl
    by_cases y : i < 23
    · have nx : ¬ isW (hI g) a n (i + 2) → fst (kdP (hI g) a n) (i + 1).toNat = -1 := fun e => fst_miss i1 i3 (decide_eq_false e)
      have hit : isW (hI g) a n (i + 2) → Rt (some (.inl (i + 2))) g := fun e => by
        have q : fst (kdP (hI g) a n) 23 = i := fst_hit (N := 23) i1 y i3 (decide_eq_true e)
        have q2 : kdF (hI g) a n = i + 2 := by unfold kdF; rw [q, if_neg (by omega)]
        rw [← q2]; exact h3
      by_cases z : isW (hI g) a n (i + 2)
      · have k := hit z
        repeat' (first | apply And.intro | (with_reducible assumption) | (intro h9; first | (exfalso; omega) | (simp only [rI_rI, rJ_rJ, hI_rI, hJ_rI, hI_rJ, hJ_rJ, hI_rR, hR_rI, hR_rJ, hN_rI, hN_rJ, svH_63, svH_66, rfH_63, wvH_63, wvH_62, wvH_67, wvH_68, wvH_69, sc_63, sc_n62, sc_n67, sc_n68, sc_n69, sc_n70, reduceIte, Nat.reduceEqDiff, eq_self, up_up, up_self, up_ne, ne_eq, not_false_eq_true, Int.reduceEq, Int.reduceNeg, hI_wI] at h9; first | (exfalso; omega) | skip) | skip) | exact absurd z (by assumption) | exact k | exact h3 | exact h3 (by omega) | omega | exact True.intro | (simp only [rI_rI, rJ_rJ, hI_rI, hJ_rI, hI_rJ, hJ_rJ, hI_rR, hR_rI, hR_rJ, hN_rI, hN_rJ, svH_63, svH_66, rfH_63, wvH_63, wvH_62, wvH_67, wvH_68, wvH_69, sc_63, sc_n62, sc_n67, sc_n68, sc_n69, sc_n70, reduceIte, Nat.reduceEqDiff, eq_self, up_up, up_self, up_ne, ne_eq, not_false_eq_true, Int.reduceEq, Int.reduceNeg, hI_wI]; omega))
      · have k := nx z
        repeat' (first | apply And.intro | (with_reducible assumption) | (intro h9; first | (exfalso; omega) | (simp only [rI_rI, rJ_rJ, hI_rI, hJ_rI, hI_rJ, hJ_rJ, hI_rR, hR_rI, hR_rJ, hN_rI, hN_rJ, svH_63, svH_66, rfH_63, wvH_63, wvH_62, wvH_67, wvH_68, wvH_69, sc_63, sc_n62, sc_n67, sc_n68, sc_n69, sc_n70, reduceIte, Nat.reduceEqDiff, eq_self, up_up, up_self, up_ne, ne_eq, not_false_eq_true, Int.reduceEq, Int.reduceNeg, hI_wI] at h9; first | (exfalso; omega) | skip) | skip) | exact absurd (by assumption) z | exact Exists.intro _ ⟨by omega, i + 1, rfl, (by rw [show i + 2 + 1 = i + 1 + 2 by omega]), by omega, by omega, k, rfl⟩ | exact h3 | exact h3 (by omega) | omega | exact True.intro | (simp only [rI_rI, rJ_rJ, hI_rI, hJ_rI, hI_rJ, hJ_rJ, hI_rR, hR_rI, hR_rJ, hN_rI, hN_rJ, svH_63, svH_66, rfH_63, wvH_63, wvH_62, wvH_67, wvH_68, wvH_69, sc_63, sc_n62, sc_n67, sc_n68, sc_n69, sc_n70, reduceIte, Nat.reduceEqDiff, eq_self, up_up, up_self, up_ne, ne_eq, not_false_eq_true, Int.reduceEq, Int.reduceNeg, hI_wI]; omega))
    · obtain rfl : i = 23 := by omega
      have q2 : kdF (hI g) a n = -1 := by unfold kdF; rw [show fst (kdP (hI g) a n) 23 = -1 from i3, if_pos rfl]
      rw [q2] at h3
      repeat' (first | apply And.intro | (with_reducible assumption) | (intro h9; first | (exfalso; omega) | (simp only [rI_rI, rJ_rJ, hI_rI, hJ_rI, hI_rJ, hJ_rJ, hI_rR, hR_rI, hR_rJ, hN_rI, hN_rJ, svH_63, svH_66, rfH_63, wvH_63, wvH_62, wvH_67, wvH_68, wvH_69, sc_63, sc_n62, sc_n67, sc_n68, sc_n69, sc_n70, reduceIte, Nat.reduceEqDiff, eq_self, up_up, up_self, up_ne, ne_eq, not_false_eq_true, Int.reduceEq, Int.reduceNeg, hI_wI] at h9; first | (exfalso; omega) | skip) | skip) | exact h3 | exact h3 | exact h3 (by omega) | omega | exact True.intro | (simp only [rI_rI, rJ_rJ, hI_rI, hJ_rI, hI_rJ, hJ_rJ, hI_rR, hR_rI, hR_rJ, hN_rI, hN_rJ, svH_63, svH_66, rfH_63, wvH_63, wvH_62, wvH_67, wvH_68, wvH_69, sc_63, sc_n62, sc_n67, sc_n68, sc_n69, sc_n70, reduceIte, Nat.reduceEqDiff, eq_self, up_up, up_self, up_ne, ne_eq, not_false_eq_true, Int.reduceEq, Int.reduceNeg, hI_wI]; omega))
theorem m_X2_kindOf : MM 42 s_X2_kindOf := mm_of (own := 10) (by rfl) k_X2_kindOf (cl := [(43, s_X2_isWordOf)]) ⟨m_X2_isWordOf, trivial⟩ o_X2_kindOf
def s_X2_wordLength : CS := (zc 8, ap [(0, 0)] (fun k h Rt X =>
(2 ≤ k ∧ k ≤ 24) ∧ Rt (some (.inl (whl (fun i => decide (wl k i ≠ 32)) 5 0))) h))
set_option maxRecDepth 100000 in
set_option maxHeartbeats 4000000 in
theorem o_X2_wordLength : Obl true 1 2 (sp [(41, s_X2_letter)]) [] code_X2_wordLength s_X2_wordLength := by
  refine oblL (by rfl) [(2, [0, 1])] ?_
  intro k r_k h Rt X hh hf hs
  obtain ⟨⟨k0, k1⟩, h2⟩ := hs
  refine ⟨fun m pc vs g => ∃ (i : Int), g = h ∧ vs = [.inl k, .inl i] ∧ 0 ≤ i ∧ i ≤ 5 ∧ whl (fun i => decide (wl k i ≠ 32)) 5 i = whl (fun i => decide (wl k i ≠ 32)) 5 0 ∧ m = (5 - i).toNat, ?_, ?_⟩
  · repeat' (first | apply And.intro | (with_reducible assumption) | (intro h9; first | (exfalso; omega) | (simp only [rI_rI, rJ_rJ, hI_rI, hJ_rI, hI_rJ, hJ_rJ, hI_rR, hR_rI, hR_rJ, hN_rI, hN_rJ, svH_63, svH_66, rfH_63, wvH_63, wvH_62, wvH_67, wvH_68, wvH_69, sc_63, sc_n62, sc_n67, sc_n68, sc_n69, sc_n70, reduceIte, Nat.reduceEqDiff, eq_self, up_up, up_self, up_ne, ne_eq, not_false_eq_true, Int.reduceEq, Int.reduceNeg, hI_wI] at h9; first | (exfalso; omega) | skip) | skip) | exact Exists.intro _ ⟨0, rfl, rfl, by omega, by omega, rfl, rfl⟩ | exact h2 | exact h2 (by omega) | omega | exact True.intro | (simp only [rI_rI, rJ_rJ, hI_rI, hJ_rI, hI_rJ, hJ_rJ, hI_rR, hR_rI, hR_rJ, hN_rI, hN_rJ, svH_63, svH_66, rfH_63, wvH_63, wvH_62, wvH_67, wvH_68, wvH_69, sc_63, sc_n62, sc_n67, sc_n68, sc_n69, sc_n70, reduceIte, Nat.reduceEqDiff, eq_self, up_up, up_self, up_ne, ne_eq, not_false_eq_true, Int.reduceEq, Int.reduceNeg, hI_wI]; omega))
  · rintro m pc vs' vs g hl ⟨i, rfl, rfl, i1, i2, i3, rfl⟩ hv hh1 hf1
    obtain ⟨rfl, rfl⟩ := look1 hl
    by_cases y : i < 5 ∧ wl k i ≠ 32
    · have e := whl_t (P := fun i => decide (wl k i ≠ 32)) y.1 (decide_eq_true y.2)
      have y1 := y.1
      have y2 := y.2
      repeat' (first | apply And.intro | (with_reducible assumption) | (intro h9; first | (exfalso; omega) | (simp only [rI_rI, rJ_rJ, hI_rI, hJ_rI, hI_rJ, hJ_rJ, hI_rR, hR_rI, hR_rJ, hN_rI, hN_rJ, svH_63, svH_66, rfH_63, wvH_63, wvH_62, wvH_67, wvH_68, wvH_69, sc_63, sc_n62, sc_n67, sc_n68, sc_n69, sc_n70, reduceIte, Nat.reduceEqDiff, eq_self, up_up, up_self, up_ne, ne_eq, not_false_eq_true, Int.reduceEq, Int.reduceNeg, hI_wI] at h9; first | (exfalso; omega) | skip) | skip) | exact absurd (by assumption) y2 | exact Exists.intro _ ⟨by omega, i + 1, rfl, rfl, by omega, by omega, e.symm.trans i3, rfl⟩ | exact h2 | exact h2 (by omega) | omega | exact True.intro | (simp only [rI_rI, rJ_rJ, hI_rI, hJ_rI, hI_rJ, hJ_rJ, hI_rR, hR_rI, hR_rJ, hN_rI, hN_rJ, svH_63, svH_66, rfH_63, wvH_63, wvH_62, wvH_67, wvH_68, wvH_69, sc_63, sc_n62, sc_n67, sc_n68, sc_n69, sc_n70, reduceIte, Nat.reduceEqDiff, eq_self, up_up, up_self, up_ne, ne_eq, not_false_eq_true, Int.reduceEq, Int.reduceNeg, hI_wI]; omega))
    · have e := whl_f (P := fun i => decide (wl k i ≠ 32)) (L := 5) (p := i) (by
        by_cases z : i < 5
        · exact Or.inr (decide_eq_false fun q => y ⟨z, q⟩)
        · exact Or.inl z)
      rw [← i3, e] at h2
      repeat' (first | apply And.intro | (with_reducible assumption) | (intro h9; first | (exfalso; omega) | (simp only [rI_rI, rJ_rJ, hI_rI, hJ_rI, hI_rJ, hJ_rJ, hI_rR, hR_rI, hR_rJ, hN_rI, hN_rJ, svH_63, svH_66, rfH_63, wvH_63, wvH_62, wvH_67, wvH_68, wvH_69, sc_63, sc_n62, sc_n67, sc_n68, sc_n69, sc_n70, reduceIte, Nat.reduceEqDiff, eq_self, up_up, up_self, up_ne, ne_eq, not_false_eq_true, Int.reduceEq, Int.reduceNeg, hI_wI] at h9; first | (exfalso; omega) | skip) | skip) | exact absurd ⟨by omega, by assumption⟩ y | exact h2 | exact h2 | exact h2 (by omega) | omega | exact True.intro | (simp only [rI_rI, rJ_rJ, hI_rI, hJ_rI, hI_rJ, hJ_rJ, hI_rR, hR_rI, hR_rJ, hN_rI, hN_rJ, svH_63, svH_66, rfH_63, wvH_63, wvH_62, wvH_67, wvH_68, wvH_69, sc_63, sc_n62, sc_n67, sc_n68, sc_n69, sc_n70, reduceIte, Nat.reduceEqDiff, eq_self, up_up, up_self, up_ne, ne_eq, not_false_eq_true, Int.reduceEq, Int.reduceNeg, hI_wI]; omega))
theorem m_X2_wordLength : MM 40 s_X2_wordLength := mm_of (own := 10) (by rfl) k_X2_wordLength (cl := [(41, s_X2_letter)]) ⟨m_X2_letter, trivial⟩ o_X2_wordLength
/-- a step may be added -/
def AdP (r : Rw) : Prop := Box (0 ≤ r 51 6 ∧ r 51 6 < 120 ∧ r 51 11 ≤ 120 ∧ (0 < r 51 11 → 0 ≤ r 56 (r 51 11 - 1)))
theorem AdP.cg {r s : Rw} (h : AdP r) (e1 : s 51 6 = r 51 6) (e2 : s 51 11 = r 51 11) (e3 : s 56 = r 56) : AdP s := by
  unfold AdP
  rw [e1, e2, e3]
  exact h
theorem PL.r {r : Rw} (h : PL r) : -2147483648 ≤ r 51 1 + 1 ∧ r 51 1 + 1 < 2147483648 := by
  have := h.o
  omega
theorem dgV_rng (r : Rw) : 0 ≤ dgV r ∧ dgV r ≤ 9 := by unfold dgV; split <;> omega
theorem cnS_z {r : Rw} {j : Nat} {p n : Int} (h : ¬ isD (tA r p)) : cnS r j p n = (p, n) := by
  cases j with
  | zero => rfl
  | succ j => exact if_neg h
theorem cnS_s {r : Rw} {j : Nat} {p n : Int} (h : isD (tA r p)) : cnS r (j + 1) p n = cnS r j (p + 1) (10 * n + tA r p - 48) := if_pos h
def s_X4_takeConstant : CS := (zc 3, ap [(3, 51)] (fun  h Rt X =>
PL (hI h) ∧ AdP (hI h) ∧ Rt none (wI h (ctS (hI h)))))
set_option maxRecDepth 100000 in
set_option maxHeartbeats 4000000 in
theorem o_X4_takeConstant : Obl true 0 3 (sp [(124, s_X7_length), (125, s_X7_at), (91, s_X4_isDigit), (90, s_X4_skipSpaces), (88, s_X4_takeDigit), (89, s_X4_addStep)]) [] code_X4_takeConstant s_X4_takeConstant := by
  refine oblL (by rfl) [(7, [0, 1, 2])] ?_
  intro  h Rt X hh hf hs
  obtain ⟨hP, hA, h3⟩ := hs
  refine ⟨fun m pc vs g => ∃ (j n : Int), g = wI h (sF (hI h) 1 (hI h 51 1 + j)) ∧ vs = [.inr (.inr (some 51)), .inl n, .inl (hI h 51 1)] ∧ 0 ≤ j ∧ j ≤ 3 ∧ hI h 51 1 + j ≤ hI h 49 1 ∧ 0 ≤ n ∧ ((j = 0 → n = 0) ∧ (j ≤ 1 → n ≤ 9) ∧ (j ≤ 2 → n ≤ 99) ∧ n ≤ 999) ∧ cnS (hI h) (3 - j).toNat (hI h 51 1 + j) n = cnS (hI h) 3 (hI h 51 1) 0 ∧ m = (4 - j).toNat, ?_, ?_⟩
  · obtain ⟨l0, l1, l2, l3⟩ := hP.o
    repeat' (first | apply And.intro | (with_reducible assumption) | (intro h9; first | (exfalso; omega) | (simp only [rI_rI, rJ_rJ, hI_rI, hJ_rI, hI_rJ, hJ_rJ, hI_rR, hR_rI, hR_rJ, hN_rI, hN_rJ, svH_63, svH_66, rfH_63, wvH_63, wvH_62, wvH_67, wvH_68, wvH_69, sc_63, sc_n62, sc_n67, sc_n68, sc_n69, sc_n70, reduceIte, Nat.reduceEqDiff, eq_self, up_up, up_self, up_ne, ne_eq, not_false_eq_true, Int.reduceEq, Int.reduceNeg, hI_wI] at h9; first | (exfalso; omega) | skip) | skip) | exact Exists.intro _ ⟨0, 0, (by rw [Int.add_zero, sF_P]; rfl), rfl, by omega, by omega, by omega, by omega, by omega, (by rw [Int.add_zero]; rfl), rfl⟩ | exact h3 | exact h3 (by omega) | omega | exact True.intro | (simp only [rI_rI, rJ_rJ, hI_rI, hJ_rI, hI_rJ, hJ_rJ, hI_rR, hR_rI, hR_rJ, hN_rI, hN_rJ, svH_63, svH_66, rfH_63, wvH_63, wvH_62, wvH_67, wvH_68, wvH_69, sc_63, sc_n62, sc_n67, sc_n68, sc_n69, sc_n70, reduceIte, Nat.reduceEqDiff, eq_self, up_up, up_self, up_ne, ne_eq, not_false_eq_true, Int.reduceEq, Int.reduceNeg, hI_wI]; omega))
  · rintro m pc vs' vs g hl ⟨j, n, rfl, rfl, i1, i2, i3, i4, i5, i6, rfl⟩ hv hh1 hf1
    obtain ⟨rfl, rfl⟩ := look1 hl
    obtain ⟨l0, l1, l2, l3⟩ := hP.o
    have a1 : sF (hI h) 1 (hI h 51 1 + j) 49 1 = hI h 49 1 := rfl
    have a2 : sF (hI h) 1 (hI h 51 1 + j) 51 1 = hI h 51 1 + j := up_self (hI h 51) 1 _
    have a3 : tA (sF (hI h) 1 (hI h 51 1 + j)) (sF (hI h) 1 (hI h 51 1 + j) 51 1) = tA (hI h) (hI h 51 1 + j) := by rw [a2]; rfl
    by_cases y : isD (tA (hI h) (hI h 51 1 + j))
    · have y1 := tA_rng y
      have y2 := y
      rw [← a3] at y2
      by_cases z : j = 3
      · subst z
        have e : ctS (hI h) = bdS (sF (hI h) 1 (hI h 51 1 + 3)) := by
          unfold ctS ctB
          rw [← i6]
          exact if_pos y
        rw [e] at h3
        repeat' (first | apply And.intro | (with_reducible assumption) | (intro h9; first | (exfalso; omega) | (simp only [rI_rI, rJ_rJ, hI_rI, hJ_rI, hI_rJ, hJ_rJ, hI_rR, hR_rI, hR_rJ, hN_rI, hN_rJ, svH_63, svH_66, rfH_63, wvH_63, wvH_62, wvH_67, wvH_68, wvH_69, sc_63, sc_n62, sc_n67, sc_n68, sc_n69, sc_n70, reduceIte, Nat.reduceEqDiff, eq_self, up_up, up_self, up_ne, ne_eq, not_false_eq_true, Int.reduceEq, Int.reduceNeg, hI_wI] at h9; first | (exfalso; omega) | skip) | skip) | exact absurd y2 (by assumption) | exact h3 | exact h3 | exact h3 (by omega) | omega | exact True.intro | (simp only [rI_rI, rJ_rJ, hI_rI, hJ_rI, hI_rJ, hJ_rJ, hI_rR, hR_rI, hR_rJ, hN_rI, hN_rJ, svH_63, svH_66, rfH_63, wvH_63, wvH_62, wvH_67, wvH_68, wvH_69, sc_63, sc_n62, sc_n67, sc_n68, sc_n69, sc_n70, reduceIte, Nat.reduceEqDiff, eq_self, up_up, up_self, up_ne, ne_eq, not_false_eq_true, Int.reduceEq, Int.reduceNeg, hI_wI]; omega))
      · have e := i6
        rw [show (3 - j).toNat = (3 - (j + 1)).toNat + 1 by omega, cnS_s y] at e
        have y3 : 48 ≤ tA (sF (hI h) 1 (hI h 51 1 + j)) (sF (hI h) 1 (hI h 51 1 + j) 51 1) ∧ tA (sF (hI h) 1 (hI h 51 1 + j)) (sF (hI h) 1 (hI h 51 1 + j) 51 1) ≤ 57 := y2
        repeat' (first | apply And.intro | (with_reducible assumption) | (intro h9; first | (exfalso; omega) | (simp only [rI_rI, rJ_rJ, hI_rI, hJ_rI, hI_rJ, hJ_rJ, hI_rR, hR_rI, hR_rJ, hN_rI, hN_rJ, svH_63, svH_66, rfH_63, wvH_63, wvH_62, wvH_67, wvH_68, wvH_69, sc_63, sc_n62, sc_n67, sc_n68, sc_n69, sc_n70, reduceIte, Nat.reduceEqDiff, eq_self, up_up, up_self, up_ne, ne_eq, not_false_eq_true, Int.reduceEq, Int.reduceNeg, hI_wI] at h9; first | (exfalso; omega) | skip) | skip) | exact absurd y2 (by assumption) | exact Exists.intro _ ⟨by omega, j + 1, 10 * n + tA (sF (hI h) 1 (hI h 51 1 + j)) (sF (hI h) 1 (hI h 51 1 + j) 51 1) - 48, (by rw [← Int.add_assoc]; exact congrArg (wI h) (sF_nx (hI h) _)), rfl, by omega, by omega, by omega, by omega, by omega, (by rw [a3, ← Int.add_assoc]; exact e), rfl⟩ | exact h3 | exact h3 (by omega) | omega | exact True.intro | (simp only [rI_rI, rJ_rJ, hI_rI, hJ_rI, hI_rJ, hJ_rJ, hI_rR, hR_rI, hR_rJ, hN_rI, hN_rJ, svH_63, svH_66, rfH_63, wvH_63, wvH_62, wvH_67, wvH_68, wvH_69, sc_63, sc_n62, sc_n67, sc_n68, sc_n69, sc_n70, reduceIte, Nat.reduceEqDiff, eq_self, up_up, up_self, up_ne, ne_eq, not_false_eq_true, Int.reduceEq, Int.reduceNeg, hI_wI]; omega))
    · have y2 := y
      rw [← a3] at y2
      have e : ctS (hI h) = ctC (skS (sF (hI h) 1 (hI h 51 1 + j))) n := by
        unfold ctS ctB
        rw [← i6, cnS_z y]
        exact if_neg y
      rw [e] at h3
      have P1 : PL (sF (hI h) 1 (hI h 51 1 + j)) := hP.s (by omega) i3
      have P2 := P1.sk
      unfold ctC at h3
      by_cases x : tA (skS (sF (hI h) 1 (hI h 51 1 + j))) (pP (skS (sF (hI h) 1 (hI h 51 1 + j)))) = 58
      · rw [if_pos x] at h3
        have P3 := P2.av (tAn x (by decide))
        have P4 := P3.sk
        have Q2 := P2.r
        have B : AdP (dgS (skS (avS (skS (sF (hI h) 1 (hI h 51 1 + j)))))) := hA.cg (dgS_S _) (dgS_O _) (dgS_ne _ (by decide))
        repeat' (first | apply And.intro | (with_reducible assumption) | (intro h9; first | (exfalso; omega) | (simp only [rI_rI, rJ_rJ, hI_rI, hJ_rI, hI_rJ, hJ_rJ, hI_rR, hR_rI, hR_rJ, hN_rI, hN_rJ, svH_63, svH_66, rfH_63, wvH_63, wvH_62, wvH_67, wvH_68, wvH_69, sc_63, sc_n62, sc_n67, sc_n68, sc_n69, sc_n70, reduceIte, Nat.reduceEqDiff, eq_self, up_up, up_self, up_ne, ne_eq, not_false_eq_true, Int.reduceEq, Int.reduceNeg, hI_wI] at h9; first | (exfalso; omega) | skip) | skip) | exact l0 | exact l1 | exact absurd (by assumption) y2 | exact P1 | exact P3 | exact P4.o.2.2.1 | exact Q2.1 | exact Q2.2 | exact Int.le_trans P4.o.2.2.2 P4.o.2.1 | exact absurd x (by assumption) | exact B.o.1 | exact B.o.2.1 | exact B.o.2.2.1 | exact B.o.2.2.2 (by assumption) | exact h3 | exact h3 | exact h3 (by omega) | omega | exact True.intro | (simp only [rI_rI, rJ_rJ, hI_rI, hJ_rI, hI_rJ, hJ_rJ, hI_rR, hR_rI, hR_rJ, hN_rI, hN_rJ, svH_63, svH_66, rfH_63, wvH_63, wvH_62, wvH_67, wvH_68, wvH_69, sc_63, sc_n62, sc_n67, sc_n68, sc_n69, sc_n70, reduceIte, Nat.reduceEqDiff, eq_self, up_up, up_self, up_ne, ne_eq, not_false_eq_true, Int.reduceEq, Int.reduceNeg, hI_wI]; omega))
      · rw [if_neg x] at h3
        repeat' (first | apply And.intro | (with_reducible assumption) | (intro h9; first | (exfalso; omega) | (simp only [rI_rI, rJ_rJ, hI_rI, hJ_rI, hI_rJ, hJ_rJ, hI_rR, hR_rI, hR_rJ, hN_rI, hN_rJ, svH_63, svH_66, rfH_63, wvH_63, wvH_62, wvH_67, wvH_68, wvH_69, sc_63, sc_n62, sc_n67, sc_n68, sc_n69, sc_n70, reduceIte, Nat.reduceEqDiff, eq_self, up_up, up_self, up_ne, ne_eq, not_false_eq_true, Int.reduceEq, Int.reduceNeg, hI_wI] at h9; first | (exfalso; omega) | skip) | skip) | exact l0 | exact l1 | exact absurd (by assumption) y2 | exact P1 | exact absurd (by assumption) x | exact h3 | exact h3 | exact h3 (by omega) | omega | exact True.intro | (simp only [rI_rI, rJ_rJ, hI_rI, hJ_rI, hI_rJ, hJ_rJ, hI_rR, hR_rI, hR_rJ, hN_rI, hN_rJ, svH_63, svH_66, rfH_63, wvH_63, wvH_62, wvH_67, wvH_68, wvH_69, sc_63, sc_n62, sc_n67, sc_n68, sc_n69, sc_n70, reduceIte, Nat.reduceEqDiff, eq_self, up_up, up_self, up_ne, ne_eq, not_false_eq_true, Int.reduceEq, Int.reduceNeg, hI_wI]; omega))
theorem m_X4_takeConstant : MM 84 s_X4_takeConstant := mm_of (own := 3) (by rfl) k_X4_takeConstant (cl := [(124, s_X7_length), (125, s_X7_at), (91, s_X4_isDigit), (90, s_X4_skipSpaces), (88, s_X4_takeDigit), (89, s_X4_addStep)]) ⟨m_X7_length, m_X7_at, m_X4_isDigit, m_X4_skipSpaces, m_X4_takeDigit, m_X4_addStep, trivial⟩ o_X4_takeConstant

/-! ===== the class: nodes made ===== -/
/-- a row of the graph -/
def Row8 (f : Int → Int) (c a0 a1 a2 a3 a4 a5 a6 a7 : Int) : Prop := Box (f (c * 8 + 0) = a0 ∧ f (c * 8 + 1) = a1 ∧ f (c * 8 + 2) = a2 ∧ f (c * 8 + 3) = a3 ∧ f (c * 8 + 4) = a4 ∧ f (c * 8 + 5) = a5 ∧ f (c * 8 + 6) = a6 ∧ f (c * 8 + 7) = a7)
def Off8 (f g : Int → Int) (c : Int) : Prop := Box (∀ q, ¬ (c * 8 ≤ q ∧ q < c * 8 + 8) → g q = f q)
def s_X0_put : CS := (zc 1, ap [(3, 1), (0, 0), (0, 0)] (fun j x h Rt X =>
(0 ≤ hI h 1 3 ∧ hI h 1 3 ≤ 40 ∧ 0 ≤ j ∧ j < 8) ∧ Rt none (rI h 2 (up (hI h 2) (hI h 1 3 * 8 + j) x))))
set_option maxRecDepth 100000 in
set_option maxHeartbeats 4000000 in
theorem o_X0_put : Obl true 0 3 (sp []) [] code_X0_put s_X0_put := by
  refine obl0 (by rfl) ?_
  intro j r_j x r_x h Rt X hh hf hs
  obtain ⟨⟨a1, a2, a3, a4⟩, h2⟩ := hs
  repeat' (first | apply And.intro | (with_reducible assumption) | (intro h9; first | (exfalso; omega) | (simp only [rI_rI, rJ_rJ, hI_rI, hJ_rI, hI_rJ, hJ_rJ, hR_rI, hR_rJ, hN_rI, hN_rJ, svH_63, svH_66, rfH_63, wvH_63, wvH_62, wvH_67, wvH_68, wvH_69, sc_63, sc_n62, sc_n67, sc_n68, sc_n69, sc_n70, reduceIte, Nat.reduceEqDiff, eq_self, up_up, up_self, up_ne, ne_eq, not_false_eq_true, Int.reduceEq, Int.reduceNeg] at h9; first | (exfalso; omega) | skip) | skip) | exact h2 | exact h2 (by omega) | omega | exact True.intro | (simp only [rI_rI, rJ_rJ, hI_rI, hJ_rI, hI_rJ, hJ_rJ, hR_rI, hR_rJ, hN_rI, hN_rJ, svH_63, svH_66, rfH_63, wvH_63, wvH_62, wvH_67, wvH_68, wvH_69, sc_63, sc_n62, sc_n67, sc_n68, sc_n69, sc_n70, reduceIte, Nat.reduceEqDiff, eq_self, up_up, up_self, up_ne, ne_eq, not_false_eq_true, Int.reduceEq, Int.reduceNeg]; omega))
theorem m_X0_put : MM 21 s_X0_put := mm_of (own := 0) (by rfl) k_X0_put (cl := []) trivial o_X0_put
def s_X0_draft : CS := (zc 2, ap [(3, 1), (0, 0), (0, 0)] (fun k wd h Rt X =>
(0 ≤ hI h 1 3 ∧ hI h 1 3 ≤ 40) ∧ (∀ f, Off8 (hI h 2) f (hI h 1 3) → Row8 f (hI h 1 3) k wd (-1) (-1) (-1) (-1) (-1) (-1) → Rt none (rI h 2 f))))
set_option maxRecDepth 100000 in
set_option maxHeartbeats 4000000 in
theorem o_X0_draft : Obl true 0 4 (sp [(21, s_X0_put)]) [] code_X0_draft s_X0_draft := by
  refine oblL (by rfl) [(2, [0, 1, 2, 3])] ?_
  intro k r_k wd r_wd h Rt X hh hf hs
  obtain ⟨⟨a1, a2⟩, h2⟩ := hs
  refine ⟨fun m pc vs g => ∃ (i : Int) (f : Int → Int), g = rI h 2 f ∧ vs = [.inr (.inr (some 1)), .inl k, .inl wd, .inl i] ∧ 0 ≤ i ∧ i ≤ 8 ∧ Off8 (hI h 2) f (hI h 1 3) ∧ Box (∀ j, 0 ≤ j → j < i → f (hI h 1 3 * 8 + j) = -1) ∧ m = (8 - i).toNat, ?_, ?_⟩
  · repeat' (first | apply And.intro | (with_reducible assumption) | (intro h9; first | (exfalso; omega) | (simp only [rI_rI, rJ_rJ, hI_rI, hJ_rI, hI_rJ, hJ_rJ, hR_rI, hR_rJ, hN_rI, hN_rJ, svH_63, svH_66, rfH_63, wvH_63, wvH_62, wvH_67, wvH_68, wvH_69, sc_63, sc_n62, sc_n67, sc_n68, sc_n69, sc_n70, reduceIte, Nat.reduceEqDiff, eq_self, up_up, up_self, up_ne, ne_eq, not_false_eq_true, Int.reduceEq, Int.reduceNeg] at h9; first | (exfalso; omega) | skip) | skip) | exact Exists.intro _ ⟨0, hI h 2, (rI_id h 2).symm, rfl, by omega, by omega, Box.i (fun _ _ => rfl), Box.i (fun j a b => by omega), rfl⟩ | exact h2 | exact h2 (by omega) | omega | exact True.intro | (simp only [rI_rI, rJ_rJ, hI_rI, hJ_rI, hI_rJ, hJ_rJ, hR_rI, hR_rJ, hN_rI, hN_rJ, svH_63, svH_66, rfH_63, wvH_63, wvH_62, wvH_67, wvH_68, wvH_69, sc_63, sc_n62, sc_n67, sc_n68, sc_n69, sc_n70, reduceIte, Nat.reduceEqDiff, eq_self, up_up, up_self, up_ne, ne_eq, not_false_eq_true, Int.reduceEq, Int.reduceNeg]; omega))
  · rintro m pc live vs g hl ⟨i, f, rfl, rfl, i1, i2, i3, i4, rfl⟩ hv hh1 hf1
    obtain ⟨rfl, rfl⟩ := look1 hl
    have e0 : hI (rI h 2 f) 1 3 = hI h 1 3 := rfl
    by_cases z : i < 8
    · have o : Off8 (hI h 2) (up f (hI h 1 3 * 8 + i) (-1)) (hI h 1 3) := Box.i fun q hq => by rw [up_ne (by omega)]; exact i3.o q hq
      have r : Box (∀ j, 0 ≤ j → j < i + 1 → up f (hI h 1 3 * 8 + i) (-1) (hI h 1 3 * 8 + j) = -1) := Box.i fun j a b => by
        by_cases e : j = i
        · subst e; rw [up_self]
        · rw [up_ne (by omega)]; exact i4.o j a (by omega)
      repeat' (first | apply And.intro | (with_reducible assumption) | (intro h9; first | (exfalso; omega) | (simp only [rI_rI, rJ_rJ, hI_rI, hJ_rI, hI_rJ, hJ_rJ, hR_rI, hR_rJ, hN_rI, hN_rJ, svH_63, svH_66, rfH_63, wvH_63, wvH_62, wvH_67, wvH_68, wvH_69, sc_63, sc_n62, sc_n67, sc_n68, sc_n69, sc_n70, reduceIte, Nat.reduceEqDiff, eq_self, up_up, up_self, up_ne, ne_eq, not_false_eq_true, Int.reduceEq, Int.reduceNeg] at h9; first | (exfalso; omega) | skip) | skip) | exact Exists.intro _ ⟨by omega, i + 1, _, rI_rI _ _ _ _, rfl, by omega, by omega, o, r, rfl⟩ | exact h2 | exact h2 (by omega) | omega | exact True.intro | (simp only [rI_rI, rJ_rJ, hI_rI, hJ_rI, hI_rJ, hJ_rJ, hR_rI, hR_rJ, hN_rI, hN_rJ, svH_63, svH_66, rfH_63, wvH_63, wvH_62, wvH_67, wvH_68, wvH_69, sc_63, sc_n62, sc_n67, sc_n68, sc_n69, sc_n70, reduceIte, Nat.reduceEqDiff, eq_self, up_up, up_self, up_ne, ne_eq, not_false_eq_true, Int.reduceEq, Int.reduceNeg]; omega))
    · obtain rfl : i = 8 := by omega
      have o : Off8 (hI h 2) (up (up f (hI h 1 3 * 8 + 0) k) (hI h 1 3 * 8 + 1) wd) (hI h 1 3) := Box.i fun q hq => by rw [up_ne (by omega), up_ne (by omega)]; exact i3.o q hq
      have r : Row8 (up (up f (hI h 1 3 * 8 + 0) k) (hI h 1 3 * 8 + 1) wd) (hI h 1 3) k wd (-1) (-1) (-1) (-1) (-1) (-1) := Box.i (by
        refine ⟨by rw [up_ne (by omega), up_self], by rw [up_self], ?_, ?_, ?_, ?_, ?_, ?_⟩ <;> rw [up_ne (by omega), up_ne (by omega)] <;> exact i4.o _ (by omega) (by omega))
      have k2 := h2 _ o r
      repeat' (first | apply And.intro | (with_reducible assumption) | (intro h9; first | (exfalso; omega) | (simp only [rI_rI, rJ_rJ, hI_rI, hJ_rI, hI_rJ, hJ_rJ, hR_rI, hR_rJ, hN_rI, hN_rJ, svH_63, svH_66, rfH_63, wvH_63, wvH_62, wvH_67, wvH_68, wvH_69, sc_63, sc_n62, sc_n67, sc_n68, sc_n69, sc_n70, reduceIte, Nat.reduceEqDiff, eq_self, up_up, up_self, up_ne, ne_eq, not_false_eq_true, Int.reduceEq, Int.reduceNeg] at h9; first | (exfalso; omega) | skip) | skip) | (refine rt_eq (Rt := Rt) k2 rfl ?_; simp only [rI_rI, rJ_rJ, hI_rI, hJ_rI, hI_rJ, hJ_rJ, hR_rI, hR_rJ, hN_rI, hN_rJ, svH_63, svH_66, rfH_63, wvH_63, wvH_62, wvH_67, wvH_68, wvH_69, sc_63, sc_n62, sc_n67, sc_n68, sc_n69, sc_n70, reduceIte, Nat.reduceEqDiff, eq_self, up_up, up_self, up_ne, ne_eq, not_false_eq_true, Int.reduceEq, Int.reduceNeg]) | exact h2 | exact h2 (by omega) | omega | exact True.intro | (simp only [rI_rI, rJ_rJ, hI_rI, hJ_rI, hI_rJ, hJ_rJ, hR_rI, hR_rJ, hN_rI, hN_rJ, svH_63, svH_66, rfH_63, wvH_63, wvH_62, wvH_67, wvH_68, wvH_69, sc_63, sc_n62, sc_n67, sc_n68, sc_n69, sc_n70, reduceIte, Nat.reduceEqDiff, eq_self, up_up, up_self, up_ne, ne_eq, not_false_eq_true, Int.reduceEq, Int.reduceNeg]; omega))
/-- two rows of the graph are the same -/
def rowE (f : Int → Int) (m n : Int) : Bool := decide (f (n * 8 + 0) = f (m * 8 + 0) ∧ f (n * 8 + 1) = f (m * 8 + 1) ∧ f (n * 8 + 2) = f (m * 8 + 2) ∧ f (n * 8 + 3) = f (m * 8 + 3) ∧ f (n * 8 + 4) = f (m * 8 + 4) ∧ f (n * 8 + 5) = f (m * 8 + 5) ∧ f (n * 8 + 6) = f (m * 8 + 6) ∧ f (n * 8 + 7) = f (m * 8 + 7))
theorem rowE_no {f : Int → Int} {m n j : Int} (h0 : 0 ≤ j) (h1 : j < 8) (e : f (n * 8 + j) ≠ f (m * 8 + j)) : rowE f m n = false := by
  refine decide_eq_false fun q => ?_
  have k : j = 0 ∨ j = 1 ∨ j = 2 ∨ j = 3 ∨ j = 4 ∨ j = 5 ∨ j = 6 ∨ j = 7 := by omega
  rcases k with rfl | rfl | rfl | rfl | rfl | rfl | rfl | rfl
  · exact e q.1
  · exact e q.2.1
  · exact e q.2.2.1
  · exact e q.2.2.2.1
  · exact e q.2.2.2.2.1
  · exact e q.2.2.2.2.2.1
  · exact e q.2.2.2.2.2.2.1
  · exact e q.2.2.2.2.2.2.2
theorem rowE_yes {f : Int → Int} {m n : Int} (e : ∀ j, 0 ≤ j → j < 8 → f (n * 8 + j) = f (m * 8 + j)) : rowE f m n = true :=
  decide_eq_true ⟨e 0 (by omega) (by omega), e 1 (by omega) (by omega), e 2 (by omega) (by omega), e 3 (by omega) (by omega), e 4 (by omega) (by omega), e 5 (by omega) (by omega), e 6 (by omega) (by omega), e 7 (by omega) (by omega)⟩
theorem m_X0_draft : MM 20 s_X0_draft := mm_of (own := 0) (by rfl) k_X0_draft (cl := [(21, s_X0_put)]) ⟨m_X0_put, trivial⟩ o_X0_draft
def s_X0_isDrafted : CS := (zc 1, ap [(3, 1), (0, 0)] (fun n h Rt X =>
(0 ≤ hI h 1 3 ∧ hI h 1 3 ≤ 40 ∧ 0 ≤ n ∧ n < 40) ∧ (rowE (hI h 2) (hI h 1 3) n = true → Rt (some (.inl 1)) h) ∧ (rowE (hI h 2) (hI h 1 3) n = false → Rt (some (.inl 0)) h)))
set_option maxRecDepth 100000 in
set_option maxHeartbeats 4000000 in
theorem o_X0_isDrafted : Obl true 2 3 (sp []) [] code_X0_isDrafted s_X0_isDrafted := by
  refine oblL (by rfl) [(2, [0, 1, 2])] ?_
  intro n r_n h Rt X hh hf hs
  obtain ⟨⟨a1, a2, a3, a4⟩, h2, h3⟩ := hs
  refine ⟨fun m pc vs g => ∃ (i : Int), g = h ∧ vs = [.inr (.inr (some 1)), .inl n, .inl i] ∧ 0 ≤ i ∧ i ≤ 8 ∧ Box (∀ j, 0 ≤ j → j < i → hI h 2 (n * 8 + j) = hI h 2 (hI h 1 3 * 8 + j)) ∧ m = (8 - i).toNat, ?_, ?_⟩
  · repeat' (first | apply And.intro | (with_reducible assumption) | (intro h9; first | (exfalso; omega) | (simp only [rI_rI, rJ_rJ, hI_rI, hJ_rI, hI_rJ, hJ_rJ, hR_rI, hR_rJ, hN_rI, hN_rJ, svH_63, svH_66, rfH_63, wvH_63, wvH_62, wvH_67, wvH_68, wvH_69, sc_63, sc_n62, sc_n67, sc_n68, sc_n69, sc_n70, reduceIte, Nat.reduceEqDiff, eq_self, up_up, up_self, up_ne, ne_eq, not_false_eq_true, Int.reduceEq, Int.reduceNeg] at h9; first | (exfalso; omega) | skip) | skip) | exact Exists.intro _ ⟨0, rfl, rfl, by omega, by omega, Box.i (fun j a b => by omega), rfl⟩ | exact h2 | exact h2 (by omega) | exact h3 | exact h3 (by omega) | omega | exact True.intro | (simp only [rI_rI, rJ_rJ, hI_rI, hJ_rI, hI_rJ, hJ_rJ, hR_rI, hR_rJ, hN_rI, hN_rJ, svH_63, svH_66, rfH_63, wvH_63, wvH_62, wvH_67, wvH_68, wvH_69, sc_63, sc_n62, sc_n67, sc_n68, sc_n69, sc_n70, reduceIte, Nat.reduceEqDiff, eq_self, up_up, up_self, up_ne, ne_eq, not_false_eq_true, Int.reduceEq, Int.reduceNeg]; omega))
  · rintro m pc live vs g hl ⟨i, rfl, rfl, i1, i2, i3, rfl⟩ hv hh1 hf1
    obtain ⟨rfl, rfl⟩ := look1 hl
    by_cases z : i < 8
    · by_cases y : hI g 2 (n * 8 + i) = hI g 2 (hI g 1 3 * 8 + i)
      · have r : Box (∀ j, 0 ≤ j → j < i + 1 → hI g 2 (n * 8 + j) = hI g 2 (hI g 1 3 * 8 + j)) := Box.i fun j a b => by
          by_cases e : j = i
          · subst e; exact y
          · exact i3.o j a (by omega)
        repeat' (first | apply And.intro | (with_reducible assumption) | (intro h9; first | (exfalso; omega) | (simp only [rI_rI, rJ_rJ, hI_rI, hJ_rI, hI_rJ, hJ_rJ, hR_rI, hR_rJ, hN_rI, hN_rJ, svH_63, svH_66, rfH_63, wvH_63, wvH_62, wvH_67, wvH_68, wvH_69, sc_63, sc_n62, sc_n67, sc_n68, sc_n69, sc_n70, reduceIte, Nat.reduceEqDiff, eq_self, up_up, up_self, up_ne, ne_eq, not_false_eq_true, Int.reduceEq, Int.reduceNeg] at h9; first | (exfalso; omega) | skip) | skip) | exact Exists.intro _ ⟨by omega, i + 1, rfl, rfl, by omega, by omega, r, rfl⟩ | exact h2 | exact h2 (by omega) | exact h3 | exact h3 (by omega) | omega | exact True.intro | (simp only [rI_rI, rJ_rJ, hI_rI, hJ_rI, hI_rJ, hJ_rJ, hR_rI, hR_rJ, hN_rI, hN_rJ, svH_63, svH_66, rfH_63, wvH_63, wvH_62, wvH_67, wvH_68, wvH_69, sc_63, sc_n62, sc_n67, sc_n68, sc_n69, sc_n70, reduceIte, Nat.reduceEqDiff, eq_self, up_up, up_self, up_ne, ne_eq, not_false_eq_true, Int.reduceEq, Int.reduceNeg]; omega))
      · have k3 := h3 (rowE_no i1 z y)
        repeat' (first | apply And.intro | (with_reducible assumption) | (intro h9; first | (exfalso; omega) | (simp only [rI_rI, rJ_rJ, hI_rI, hJ_rI, hI_rJ, hJ_rJ, hR_rI, hR_rJ, hN_rI, hN_rJ, svH_63, svH_66, rfH_63, wvH_63, wvH_62, wvH_67, wvH_68, wvH_69, sc_63, sc_n62, sc_n67, sc_n68, sc_n69, sc_n70, reduceIte, Nat.reduceEqDiff, eq_self, up_up, up_self, up_ne, ne_eq, not_false_eq_true, Int.reduceEq, Int.reduceNeg] at h9; first | (exfalso; omega) | skip) | skip) | exact k3 | exact h2 | exact h2 (by omega) | exact h3 | exact h3 (by omega) | omega | exact True.intro | (simp only [rI_rI, rJ_rJ, hI_rI, hJ_rI, hI_rJ, hJ_rJ, hR_rI, hR_rJ, hN_rI, hN_rJ, svH_63, svH_66, rfH_63, wvH_63, wvH_62, wvH_67, wvH_68, wvH_69, sc_63, sc_n62, sc_n67, sc_n68, sc_n69, sc_n70, reduceIte, Nat.reduceEqDiff, eq_self, up_up, up_self, up_ne, ne_eq, not_false_eq_true, Int.reduceEq, Int.reduceNeg]; omega))
    · obtain rfl : i = 8 := by omega
      have k2 := h2 (rowE_yes fun j a b => i3.o j a b)
      repeat' (first | apply And.intro | (with_reducible assumption) | (intro h9; first | (exfalso; omega) | (simp only [rI_rI, rJ_rJ, hI_rI, hJ_rI, hI_rJ, hJ_rJ, hR_rI, hR_rJ, hN_rI, hN_rJ, svH_63, svH_66, rfH_63, wvH_63, wvH_62, wvH_67, wvH_68, wvH_69, sc_63, sc_n62, sc_n67, sc_n68, sc_n69, sc_n70, reduceIte, Nat.reduceEqDiff, eq_self, up_up, up_self, up_ne, ne_eq, not_false_eq_true, Int.reduceEq, Int.reduceNeg] at h9; first | (exfalso; omega) | skip) | skip) | exact k2 | exact h2 | exact h2 (by omega) | exact h3 | exact h3 (by omega) | omega | exact True.intro | (simp only [rI_rI, rJ_rJ, hI_rI, hJ_rI, hI_rJ, hJ_rJ, hR_rI, hR_rJ, hN_rI, hN_rJ, svH_63, svH_66, rfH_63, wvH_63, wvH_62, wvH_67, wvH_68, wvH_69, sc_63, sc_n62, sc_n67, sc_n68, sc_n69, sc_n70, reduceIte, Nat.reduceEqDiff, eq_self, up_up, up_self, up_ne, ne_eq, not_false_eq_true, Int.reduceEq, Int.reduceNeg]; omega))
/-- where the draft is found -/
def dfnd (h : Hp) : Int := fst (rowE (hI h 2) (hI h 1 3)) (hI h 1 3).toNat
theorem m_X0_isDrafted : MM 23 s_X0_isDrafted := mm_of (own := 0) (by rfl) k_X0_isDrafted (cl := []) trivial o_X0_isDrafted
def s_X0_keepDraft : CS := (zc 2, ap [(3, 1)] (fun  h Rt X =>
(0 ≤ hI h 1 3 ∧ hI h 1 3 ≤ 40) ∧ (dfnd h ≠ -1 → Rt (some (.inl (dfnd h))) h) ∧ (dfnd h = -1 → hI h 1 3 = 40 → Rt (some (.inl (-1))) h) ∧ (dfnd h = -1 → hI h 1 3 < 40 → Rt (some (.inl (hI h 1 3))) (rI h 1 (up (hI h 1) 3 (hI h 1 3 + 1))))))
set_option maxRecDepth 100000 in
set_option maxHeartbeats 4000000 in
theorem o_X0_keepDraft : Obl true 1 2 (sp [(23, s_X0_isDrafted)]) [] code_X0_keepDraft s_X0_keepDraft := by
  refine oblL (by rfl) [(2, [0, 1])] ?_
  intro  h Rt X hh hf hs
  obtain ⟨⟨a1, a2⟩, h2, h3, h4⟩ := hs
  refine ⟨fun m pc vs g => ∃ (i : Int), g = h ∧ vs = [.inr (.inr (some 1)), .inl i] ∧ 0 ≤ i ∧ i ≤ hI h 1 3 ∧ fst (rowE (hI h 2) (hI h 1 3)) i.toNat = -1 ∧ m = (hI h 1 3 - i).toNat, ?_, ?_⟩
  · repeat' (first | apply And.intro | (with_reducible assumption) | (intro h9; first | (exfalso; omega) | (simp only [rI_rI, rJ_rJ, hI_rI, hJ_rI, hI_rJ, hJ_rJ, hR_rI, hR_rJ, hN_rI, hN_rJ, svH_63, svH_66, rfH_63, wvH_63, wvH_62, wvH_67, wvH_68, wvH_69, sc_63, sc_n62, sc_n67, sc_n68, sc_n69, sc_n70, reduceIte, Nat.reduceEqDiff, eq_self, up_up, up_self, up_ne, ne_eq, not_false_eq_true, Int.reduceEq, Int.reduceNeg] at h9; first | (exfalso; omega) | skip) | skip) | exact Exists.intro _ ⟨0, rfl, rfl, by omega, by omega, rfl, rfl⟩ | exact h2 | exact h2 (by omega) | exact h3 | exact h3 (by omega) | exact h4 | exact h4 (by omega) | omega | exact True.intro | (simp only [rI_rI, rJ_rJ, hI_rI, hJ_rI, hI_rJ, hJ_rJ, hR_rI, hR_rJ, hN_rI, hN_rJ, svH_63, svH_66, rfH_63, wvH_63, wvH_62, wvH_67, wvH_68, wvH_69, sc_63, sc_n62, sc_n67, sc_n68, sc_n69, sc_n70, reduceIte, Nat.reduceEqDiff, eq_self, up_up, up_self, up_ne, ne_eq, not_false_eq_true, Int.reduceEq, Int.reduceNeg]; omega))
  · rintro m pc live vs g hl ⟨i, rfl, rfl, i1, i2, i3, rfl⟩ hv hh1 hf1
    obtain ⟨rfl, rfl⟩ := look1 hl
    by_cases z : i < hI g 1 3
    · cases y : rowE (hI g 2) (hI g 1 3) i with
      | false =>
        have r := fst_miss i1 i3 y
        have y2 : ¬ rowE (hI g 2) (hI g 1 3) i = true := by rw [y]; decide
        repeat' (first | apply And.intro | (with_reducible assumption) | (intro h9; first | (exfalso; omega) | (simp only [rI_rI, rJ_rJ, hI_rI, hJ_rI, hI_rJ, hJ_rJ, hR_rI, hR_rJ, hN_rI, hN_rJ, svH_63, svH_66, rfH_63, wvH_63, wvH_62, wvH_67, wvH_68, wvH_69, sc_63, sc_n62, sc_n67, sc_n68, sc_n69, sc_n70, reduceIte, Nat.reduceEqDiff, eq_self, up_up, up_self, up_ne, ne_eq, not_false_eq_true, Int.reduceEq, Int.reduceNeg] at h9; first | (exfalso; omega) | skip) | skip) | exact absurd (by assumption) y2 | exact Exists.intro _ ⟨by omega, i + 1, rfl, rfl, by omega, by omega, r, rfl⟩ | exact h2 | exact h2 (by omega) | exact h3 | exact h3 (by omega) | exact h4 | exact h4 (by omega) | omega | exact True.intro | (simp only [rI_rI, rJ_rJ, hI_rI, hJ_rI, hI_rJ, hJ_rJ, hR_rI, hR_rJ, hN_rI, hN_rJ, svH_63, svH_66, rfH_63, wvH_63, wvH_62, wvH_67, wvH_68, wvH_69, sc_63, sc_n62, sc_n67, sc_n68, sc_n69, sc_n70, reduceIte, Nat.reduceEqDiff, eq_self, up_up, up_self, up_ne, ne_eq, not_false_eq_true, Int.reduceEq, Int.reduceNeg]; omega))
      | true =>
        have e : dfnd g = i := fst_hit i1 z i3 y
        have k2 := h2 (by omega)
        rw [e] at k2
        have y2 : ¬ rowE (hI g 2) (hI g 1 3) i = false := by rw [y]; decide
        repeat' (first | apply And.intro | (with_reducible assumption) | (intro h9; first | (exfalso; omega) | (simp only [rI_rI, rJ_rJ, hI_rI, hJ_rI, hI_rJ, hJ_rJ, hR_rI, hR_rJ, hN_rI, hN_rJ, svH_63, svH_66, rfH_63, wvH_63, wvH_62, wvH_67, wvH_68, wvH_69, sc_63, sc_n62, sc_n67, sc_n68, sc_n69, sc_n70, reduceIte, Nat.reduceEqDiff, eq_self, up_up, up_self, up_ne, ne_eq, not_false_eq_true, Int.reduceEq, Int.reduceNeg] at h9; first | (exfalso; omega) | skip) | skip) | exact absurd (by assumption) y2 | exact k2 | exact h2 | exact h2 (by omega) | exact h3 | exact h3 (by omega) | exact h4 | exact h4 (by omega) | omega | exact True.intro | (simp only [rI_rI, rJ_rJ, hI_rI, hJ_rI, hI_rJ, hJ_rJ, hR_rI, hR_rJ, hN_rI, hN_rJ, svH_63, svH_66, rfH_63, wvH_63, wvH_62, wvH_67, wvH_68, wvH_69, sc_63, sc_n62, sc_n67, sc_n68, sc_n69, sc_n70, reduceIte, Nat.reduceEqDiff, eq_self, up_up, up_self, up_ne, ne_eq, not_false_eq_true, Int.reduceEq, Int.reduceNeg]; omega))
    · obtain rfl : i = hI g 1 3 := by omega
      have e : dfnd g = -1 := i3
      have k3 := h3 e
      have e9 : up (hI g 1) 3 (hI g 1 3 + 1) 3 - 1 = hI g 1 3 := by rw [up_self]; omega
      repeat' (first | apply And.intro | (with_reducible assumption) | (intro h9; first | (exfalso; omega) | (simp only [rI_rI, rJ_rJ, hI_rI, hJ_rI, hI_rJ, hJ_rJ, hR_rI, hR_rJ, hN_rI, hN_rJ, svH_63, svH_66, rfH_63, wvH_63, wvH_62, wvH_67, wvH_68, wvH_69, sc_63, sc_n62, sc_n67, sc_n68, sc_n69, sc_n70, reduceIte, Nat.reduceEqDiff, eq_self, up_up, up_self, up_ne, ne_eq, not_false_eq_true, Int.reduceEq, Int.reduceNeg] at h9; first | (exfalso; omega) | skip) | skip) | exact k3 (by omega) | exact rt_v (Rt := Rt) (h4 e (by omega)) e9.symm rfl | (simp only [rI_rI, rJ_rJ, hI_rI, hJ_rI, hI_rJ, hJ_rJ, hR_rI, hR_rJ, hN_rI, hN_rJ, svH_63, svH_66, rfH_63, wvH_63, wvH_62, wvH_67, wvH_68, wvH_69, sc_63, sc_n62, sc_n67, sc_n68, sc_n69, sc_n70, reduceIte, Nat.reduceEqDiff, eq_self, up_up, up_self, up_ne, ne_eq, not_false_eq_true, Int.reduceEq, Int.reduceNeg]; omega) | exact h2 | exact h2 (by omega) | exact h3 | exact h3 (by omega) | exact h4 | exact h4 (by omega) | omega | exact True.intro | (simp only [rI_rI, rJ_rJ, hI_rI, hJ_rI, hI_rJ, hJ_rJ, hR_rI, hR_rJ, hN_rI, hN_rJ, svH_63, svH_66, rfH_63, wvH_63, wvH_62, wvH_67, wvH_68, wvH_69, sc_63, sc_n62, sc_n67, sc_n68, sc_n69, sc_n70, reduceIte, Nat.reduceEqDiff, eq_self, up_up, up_self, up_ne, ne_eq, not_false_eq_true, Int.reduceEq, Int.reduceNeg]; omega))
theorem m_X0_keepDraft : MM 22 s_X0_keepDraft := mm_of (own := 0) (by rfl) k_X0_keepDraft (cl := [(23, s_X0_isDrafted)]) ⟨m_X0_isDrafted, trivial⟩ o_X0_keepDraft

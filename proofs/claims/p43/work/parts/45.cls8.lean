/-! ===== the class: states copied, what is saved ===== -/
theorem hI_rI' (h : Hp) (a b : Nat) (f : Int → Int) : hI (rI h a f) b = if b = a then f else hI h b := rfl
theorem hI_cpn {h : Hp} {b : Nat} {q : Int} {a : Nat} {d n : Int} {c : Nat} (e : c ≠ a) : hI (cpyI h b q a d n) c = hI h c := by
  show (if c = a then _ else hI h c) = _
  rw [if_neg e]
theorem hI_cpa (h : Hp) (b : Nat) (a : Nat) (n : Int) : hI (cpyI h b 0 a 0 n) a = cpy n (hI h b) (hI h a) := by
  show (if a = a then _ else hI h a) = _
  rw [if_pos rfl]
  rfl
def cp1 (h : Hp) (a b : Nat) (k : Int) : Hp := rI h a (up (hI h a) k (hI h b k))
def cpAll (h : Hp) (a b : Nat) : Hp := cpyI (cpyI (cpyI (cpyI (cpyI (cp1 (cp1 (cp1 (cp1 h a b 0) a b 1) a b 2) a b 5) (b + 1) 0 (a + 1) 0 20) (b + 2) 0 (a + 2) 0 20) (b + 3) 0 (a + 3) 0 8) (b + 4) 0 (a + 4) 0 8) (b + 5) 0 (a + 5) 0 4
theorem cp1_a (h : Hp) (a b : Nat) (k : Int) : hI (cp1 h a b k) a = up (hI h a) k (hI h b k) := by
  unfold cp1
  rw [hI_rI', if_pos rfl]
theorem cp1_n (h : Hp) (a b : Nat) (k : Int) {c : Nat} (e : c ≠ a) : hI (cp1 h a b k) c = hI h c := by
  unfold cp1
  rw [hI_rI', if_neg e]
theorem cpAll_eq (h : Hp) {a b : Nat} (s : a + 6 ≤ b ∨ b + 6 ≤ a) : cpAll h a b = stH h a (cpS (hI h) a b) := by
  have e : hI (cpAll h a b) = fun q => if a ≤ q ∧ q < a + 6 then cpS (hI h) a b q else hI h q := by
    funext q
    unfold cpAll
    by_cases z : a ≤ q ∧ q < a + 6
    · rw [if_pos z]
      have k : q = a ∨ q = a + 1 ∨ q = a + 2 ∨ q = a + 3 ∨ q = a + 4 ∨ q = a + 5 := by omega
      unfold cpS
      rcases k with rfl | rfl | rfl | rfl | rfl | rfl
      · rw [if_pos rfl]
        repeat rw [hI_cpn (by omega)]
        rw [cp1_a, cp1_a, cp1_a, cp1_a]
        repeat rw [cp1_n _ _ _ _ (by omega)]
      · rw [if_neg (by omega)]
        rw [if_pos rfl]
        repeat rw [hI_cpn (by omega)]
        rw [hI_cpa]
        repeat rw [hI_cpn (by omega)]
        repeat rw [cp1_n _ _ _ _ (by omega)]
      · rw [if_neg (by omega)]
        rw [if_neg (by omega)]
        rw [if_pos rfl]
        repeat rw [hI_cpn (by omega)]
        rw [hI_cpa]
        repeat rw [hI_cpn (by omega)]
        repeat rw [cp1_n _ _ _ _ (by omega)]
      · rw [if_neg (by omega)]
        rw [if_neg (by omega)]
        rw [if_neg (by omega)]
        rw [if_pos rfl]
        repeat rw [hI_cpn (by omega)]
        rw [hI_cpa]
        repeat rw [hI_cpn (by omega)]
        repeat rw [cp1_n _ _ _ _ (by omega)]
      · rw [if_neg (by omega)]
        rw [if_neg (by omega)]
        rw [if_neg (by omega)]
        rw [if_neg (by omega)]
        rw [if_pos rfl]
        repeat rw [hI_cpn (by omega)]
        rw [hI_cpa]
        repeat rw [hI_cpn (by omega)]
        repeat rw [cp1_n _ _ _ _ (by omega)]
      · rw [if_neg (by omega)]
        rw [if_neg (by omega)]
        rw [if_neg (by omega)]
        rw [if_neg (by omega)]
        rw [if_neg (by omega)]
        repeat rw [hI_cpn (by omega)]
        rw [hI_cpa]
        repeat rw [hI_cpn (by omega)]
        repeat rw [cp1_n _ _ _ _ (by omega)]
    · rw [if_neg z]
      repeat rw [hI_cpn (by omega)]
      repeat rw [cp1_n _ _ _ _ (by omega)]
  show (_, hI (cpAll h a b), _) = _
  rw [e]
  rfl
/-- the states that are saved -/
def SL (a : Nat) : Prop := Box (a = 13 ∨ a = 19 ∨ a = 25 ∨ a = 31 ∨ a = 37)
theorem SL.kd {a : Nat} (h : SL a) : Nat.beq (tGK a).1 5 = true := by
  rcases h.o with rfl | rfl | rfl | rfl | rfl <;> rfl
/-- h with rows of the saved states anew -/
def bkH (h : Hp) (f : Nat → Int → Int) : Hp := (h.1, (fun q => if 13 ≤ q ∧ q < 43 then f q else h.2.1 q), h.2.2)
theorem bk_st (h : Hp) {a : Nat} (s : SL a) (f : Nat → Int → Int) : bkH h (hI (stH h a f)) = stH h a f := by
  have l := s.o
  refine Prod.ext rfl (Prod.ext ?_ rfl)
  funext q
  show (if 13 ≤ q ∧ q < 43 then (if a ≤ q ∧ q < a + 6 then f q else h.2.1 q) else h.2.1 q) = (if a ≤ q ∧ q < a + 6 then f q else h.2.1 q)
  by_cases z : 13 ≤ q ∧ q < 43
  · rw [if_pos z]
  · rw [if_neg z, if_neg (by omega)]
def s_X6_copyFrom : CS := (zc 1, ap [(2, 0), (2, 0)] (fun a b h Rt X =>
(a = 5 ∧ SL b ∧ Rt none (stH h a (cpS (hI h) a b))) ∨ (b = 5 ∧ SL a ∧ Rt none (bkH h (hI (stH h a (cpS (hI h) a b)))))))
set_option maxRecDepth 100000 in
set_option maxHeartbeats 4000000 in
theorem o_X6_copyFrom : Obl true 0 2 (sp []) [] code_X6_copyFrom s_X6_copyFrom := by
  refine obl0 (by rfl) ?_
  intro a b h Rt X hh hf hs
  rcases hs with ⟨rfl, q, h2⟩ | ⟨rfl, q, h2⟩
  · rcases q.o with rfl | rfl | rfl | rfl | rfl
    · have e1 : Rt none (cpAll h 5 13) := by rw [cpAll_eq h (by decide)]; exact h2
      repeat' (first | apply And.intro | (with_reducible assumption) | (intro h9; first | (exfalso; omega) | (simp only [rI_rI, rJ_rJ, hI_rI, hJ_rI, hI_rJ, hJ_rJ, hI_rR, hR_rI, hR_rJ, hN_rI, hN_rJ, svH_63, svH_66, rfH_63, wvH_63, wvH_62, wvH_67, wvH_68, wvH_69, sc_63, sc_n62, sc_n67, sc_n68, sc_n69, sc_n70, reduceIte, Nat.reduceEqDiff, eq_self, up_up, up_self, up_ne, ne_eq, not_false_eq_true, Int.reduceEq, Int.reduceNeg] at h9; first | (exfalso; omega) | skip) | skip) | exact e1 | exact hs | omega | exact True.intro | (simp only [rI_rI, rJ_rJ, hI_rI, hJ_rI, hI_rJ, hJ_rJ, hI_rR, hR_rI, hR_rJ, hN_rI, hN_rJ, svH_63, svH_66, rfH_63, wvH_63, wvH_62, wvH_67, wvH_68, wvH_69, sc_63, sc_n62, sc_n67, sc_n68, sc_n69, sc_n70, reduceIte, Nat.reduceEqDiff, eq_self, up_up, up_self, up_ne, ne_eq, not_false_eq_true, Int.reduceEq, Int.reduceNeg]; omega))
    · have e1 : Rt none (cpAll h 5 19) := by rw [cpAll_eq h (by decide)]; exact h2
      repeat' (first | apply And.intro | (with_reducible assumption) | (intro h9; first | (exfalso; omega) | (simp only [rI_rI, rJ_rJ, hI_rI, hJ_rI, hI_rJ, hJ_rJ, hI_rR, hR_rI, hR_rJ, hN_rI, hN_rJ, svH_63, svH_66, rfH_63, wvH_63, wvH_62, wvH_67, wvH_68, wvH_69, sc_63, sc_n62, sc_n67, sc_n68, sc_n69, sc_n70, reduceIte, Nat.reduceEqDiff, eq_self, up_up, up_self, up_ne, ne_eq, not_false_eq_true, Int.reduceEq, Int.reduceNeg] at h9; first | (exfalso; omega) | skip) | skip) | exact e1 | exact hs | omega | exact True.intro | (simp only [rI_rI, rJ_rJ, hI_rI, hJ_rI, hI_rJ, hJ_rJ, hI_rR, hR_rI, hR_rJ, hN_rI, hN_rJ, svH_63, svH_66, rfH_63, wvH_63, wvH_62, wvH_67, wvH_68, wvH_69, sc_63, sc_n62, sc_n67, sc_n68, sc_n69, sc_n70, reduceIte, Nat.reduceEqDiff, eq_self, up_up, up_self, up_ne, ne_eq, not_false_eq_true, Int.reduceEq, Int.reduceNeg]; omega))
    · have e1 : Rt none (cpAll h 5 25) := by rw [cpAll_eq h (by decide)]; exact h2
      repeat' (first | apply And.intro | (with_reducible assumption) | (intro h9; first | (exfalso; omega) | (simp only [rI_rI, rJ_rJ, hI_rI, hJ_rI, hI_rJ, hJ_rJ, hI_rR, hR_rI, hR_rJ, hN_rI, hN_rJ, svH_63, svH_66, rfH_63, wvH_63, wvH_62, wvH_67, wvH_68, wvH_69, sc_63, sc_n62, sc_n67, sc_n68, sc_n69, sc_n70, reduceIte, Nat.reduceEqDiff, eq_self, up_up, up_self, up_ne, ne_eq, not_false_eq_true, Int.reduceEq, Int.reduceNeg] at h9; first | (exfalso; omega) | skip) | skip) | exact e1 | exact hs | omega | exact True.intro | (simp only [rI_rI, rJ_rJ, hI_rI, hJ_rI, hI_rJ, hJ_rJ, hI_rR, hR_rI, hR_rJ, hN_rI, hN_rJ, svH_63, svH_66, rfH_63, wvH_63, wvH_62, wvH_67, wvH_68, wvH_69, sc_63, sc_n62, sc_n67, sc_n68, sc_n69, sc_n70, reduceIte, Nat.reduceEqDiff, eq_self, up_up, up_self, up_ne, ne_eq, not_false_eq_true, Int.reduceEq, Int.reduceNeg]; omega))
    · have e1 : Rt none (cpAll h 5 31) := by rw [cpAll_eq h (by decide)]; exact h2
      repeat' (first | apply And.intro | (with_reducible assumption) | (intro h9; first | (exfalso; omega) | (simp only [rI_rI, rJ_rJ, hI_rI, hJ_rI, hI_rJ, hJ_rJ, hI_rR, hR_rI, hR_rJ, hN_rI, hN_rJ, svH_63, svH_66, rfH_63, wvH_63, wvH_62, wvH_67, wvH_68, wvH_69, sc_63, sc_n62, sc_n67, sc_n68, sc_n69, sc_n70, reduceIte, Nat.reduceEqDiff, eq_self, up_up, up_self, up_ne, ne_eq, not_false_eq_true, Int.reduceEq, Int.reduceNeg] at h9; first | (exfalso; omega) | skip) | skip) | exact e1 | exact hs | omega | exact True.intro | (simp only [rI_rI, rJ_rJ, hI_rI, hJ_rI, hI_rJ, hJ_rJ, hI_rR, hR_rI, hR_rJ, hN_rI, hN_rJ, svH_63, svH_66, rfH_63, wvH_63, wvH_62, wvH_67, wvH_68, wvH_69, sc_63, sc_n62, sc_n67, sc_n68, sc_n69, sc_n70, reduceIte, Nat.reduceEqDiff, eq_self, up_up, up_self, up_ne, ne_eq, not_false_eq_true, Int.reduceEq, Int.reduceNeg]; omega))
    · have e1 : Rt none (cpAll h 5 37) := by rw [cpAll_eq h (by decide)]; exact h2
      repeat' (first | apply And.intro | (with_reducible assumption) | (intro h9; first | (exfalso; omega) | (simp only [rI_rI, rJ_rJ, hI_rI, hJ_rI, hI_rJ, hJ_rJ, hI_rR, hR_rI, hR_rJ, hN_rI, hN_rJ, svH_63, svH_66, rfH_63, wvH_63, wvH_62, wvH_67, wvH_68, wvH_69, sc_63, sc_n62, sc_n67, sc_n68, sc_n69, sc_n70, reduceIte, Nat.reduceEqDiff, eq_self, up_up, up_self, up_ne, ne_eq, not_false_eq_true, Int.reduceEq, Int.reduceNeg] at h9; first | (exfalso; omega) | skip) | skip) | exact e1 | exact hs | omega | exact True.intro | (simp only [rI_rI, rJ_rJ, hI_rI, hJ_rI, hI_rJ, hJ_rJ, hI_rR, hR_rI, hR_rJ, hN_rI, hN_rJ, svH_63, svH_66, rfH_63, wvH_63, wvH_62, wvH_67, wvH_68, wvH_69, sc_63, sc_n62, sc_n67, sc_n68, sc_n69, sc_n70, reduceIte, Nat.reduceEqDiff, eq_self, up_up, up_self, up_ne, ne_eq, not_false_eq_true, Int.reduceEq, Int.reduceNeg]; omega))
  · rcases q.o with rfl | rfl | rfl | rfl | rfl
    · have e1 : Rt none (cpAll h 13 5) := by rw [cpAll_eq h (by decide)]; rw [← bk_st h q]; exact h2
      repeat' (first | apply And.intro | (with_reducible assumption) | (intro h9; first | (exfalso; omega) | (simp only [rI_rI, rJ_rJ, hI_rI, hJ_rI, hI_rJ, hJ_rJ, hI_rR, hR_rI, hR_rJ, hN_rI, hN_rJ, svH_63, svH_66, rfH_63, wvH_63, wvH_62, wvH_67, wvH_68, wvH_69, sc_63, sc_n62, sc_n67, sc_n68, sc_n69, sc_n70, reduceIte, Nat.reduceEqDiff, eq_self, up_up, up_self, up_ne, ne_eq, not_false_eq_true, Int.reduceEq, Int.reduceNeg] at h9; first | (exfalso; omega) | skip) | skip) | exact e1 | exact hs | omega | exact True.intro | (simp only [rI_rI, rJ_rJ, hI_rI, hJ_rI, hI_rJ, hJ_rJ, hI_rR, hR_rI, hR_rJ, hN_rI, hN_rJ, svH_63, svH_66, rfH_63, wvH_63, wvH_62, wvH_67, wvH_68, wvH_69, sc_63, sc_n62, sc_n67, sc_n68, sc_n69, sc_n70, reduceIte, Nat.reduceEqDiff, eq_self, up_up, up_self, up_ne, ne_eq, not_false_eq_true, Int.reduceEq, Int.reduceNeg]; omega))
    · have e1 : Rt none (cpAll h 19 5) := by rw [cpAll_eq h (by decide)]; rw [← bk_st h q]; exact h2
      repeat' (first | apply And.intro | (with_reducible assumption) | (intro h9; first | (exfalso; omega) | (simp only [rI_rI, rJ_rJ, hI_rI, hJ_rI, hI_rJ, hJ_rJ, hI_rR, hR_rI, hR_rJ, hN_rI, hN_rJ, svH_63, svH_66, rfH_63, wvH_63, wvH_62, wvH_67, wvH_68, wvH_69, sc_63, sc_n62, sc_n67, sc_n68, sc_n69, sc_n70, reduceIte, Nat.reduceEqDiff, eq_self, up_up, up_self, up_ne, ne_eq, not_false_eq_true, Int.reduceEq, Int.reduceNeg] at h9; first | (exfalso; omega) | skip) | skip) | exact e1 | exact hs | omega | exact True.intro | (simp only [rI_rI, rJ_rJ, hI_rI, hJ_rI, hI_rJ, hJ_rJ, hI_rR, hR_rI, hR_rJ, hN_rI, hN_rJ, svH_63, svH_66, rfH_63, wvH_63, wvH_62, wvH_67, wvH_68, wvH_69, sc_63, sc_n62, sc_n67, sc_n68, sc_n69, sc_n70, reduceIte, Nat.reduceEqDiff, eq_self, up_up, up_self, up_ne, ne_eq, not_false_eq_true, Int.reduceEq, Int.reduceNeg]; omega))
    · have e1 : Rt none (cpAll h 25 5) := by rw [cpAll_eq h (by decide)]; rw [← bk_st h q]; exact h2
      repeat' (first | apply And.intro | (with_reducible assumption) | (intro h9; first | (exfalso; omega) | (simp only [rI_rI, rJ_rJ, hI_rI, hJ_rI, hI_rJ, hJ_rJ, hI_rR, hR_rI, hR_rJ, hN_rI, hN_rJ, svH_63, svH_66, rfH_63, wvH_63, wvH_62, wvH_67, wvH_68, wvH_69, sc_63, sc_n62, sc_n67, sc_n68, sc_n69, sc_n70, reduceIte, Nat.reduceEqDiff, eq_self, up_up, up_self, up_ne, ne_eq, not_false_eq_true, Int.reduceEq, Int.reduceNeg] at h9; first | (exfalso; omega) | skip) | skip) | exact e1 | exact hs | omega | exact True.intro | (simp only [rI_rI, rJ_rJ, hI_rI, hJ_rI, hI_rJ, hJ_rJ, hI_rR, hR_rI, hR_rJ, hN_rI, hN_rJ, svH_63, svH_66, rfH_63, wvH_63, wvH_62, wvH_67, wvH_68, wvH_69, sc_63, sc_n62, sc_n67, sc_n68, sc_n69, sc_n70, reduceIte, Nat.reduceEqDiff, eq_self, up_up, up_self, up_ne, ne_eq, not_false_eq_true, Int.reduceEq, Int.reduceNeg]; omega))
    · have e1 : Rt none (cpAll h 31 5) := by rw [cpAll_eq h (by decide)]; rw [← bk_st h q]; exact h2
      repeat' (first | apply And.intro | (with_reducible assumption) | (intro h9; first | (exfalso; omega) | (simp only [rI_rI, rJ_rJ, hI_rI, hJ_rI, hI_rJ, hJ_rJ, hI_rR, hR_rI, hR_rJ, hN_rI, hN_rJ, svH_63, svH_66, rfH_63, wvH_63, wvH_62, wvH_67, wvH_68, wvH_69, sc_63, sc_n62, sc_n67, sc_n68, sc_n69, sc_n70, reduceIte, Nat.reduceEqDiff, eq_self, up_up, up_self, up_ne, ne_eq, not_false_eq_true, Int.reduceEq, Int.reduceNeg] at h9; first | (exfalso; omega) | skip) | skip) | exact e1 | exact hs | omega | exact True.intro | (simp only [rI_rI, rJ_rJ, hI_rI, hJ_rI, hI_rJ, hJ_rJ, hI_rR, hR_rI, hR_rJ, hN_rI, hN_rJ, svH_63, svH_66, rfH_63, wvH_63, wvH_62, wvH_67, wvH_68, wvH_69, sc_63, sc_n62, sc_n67, sc_n68, sc_n69, sc_n70, reduceIte, Nat.reduceEqDiff, eq_self, up_up, up_self, up_ne, ne_eq, not_false_eq_true, Int.reduceEq, Int.reduceNeg]; omega))
    · have e1 : Rt none (cpAll h 37 5) := by rw [cpAll_eq h (by decide)]; rw [← bk_st h q]; exact h2
      repeat' (first | apply And.intro | (with_reducible assumption) | (intro h9; first | (exfalso; omega) | (simp only [rI_rI, rJ_rJ, hI_rI, hJ_rI, hI_rJ, hJ_rJ, hI_rR, hR_rI, hR_rJ, hN_rI, hN_rJ, svH_63, svH_66, rfH_63, wvH_63, wvH_62, wvH_67, wvH_68, wvH_69, sc_63, sc_n62, sc_n67, sc_n68, sc_n69, sc_n70, reduceIte, Nat.reduceEqDiff, eq_self, up_up, up_self, up_ne, ne_eq, not_false_eq_true, Int.reduceEq, Int.reduceNeg] at h9; first | (exfalso; omega) | skip) | skip) | exact e1 | exact hs | omega | exact True.intro | (simp only [rI_rI, rJ_rJ, hI_rI, hJ_rI, hI_rJ, hJ_rJ, hI_rR, hR_rI, hR_rJ, hN_rI, hN_rJ, svH_63, svH_66, rfH_63, wvH_63, wvH_62, wvH_67, wvH_68, wvH_69, sc_63, sc_n62, sc_n67, sc_n68, sc_n69, sc_n70, reduceIte, Nat.reduceEqDiff, eq_self, up_up, up_self, up_ne, ne_eq, not_false_eq_true, Int.reduceEq, Int.reduceNeg]; omega))
theorem m_X6_copyFrom : MM 119 s_X6_copyFrom := mm_of (own := 5) (by rfl) k_X6_copyFrom (cl := []) trivial o_X6_copyFrom

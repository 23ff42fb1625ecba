/-! ===== the class: its state changed ===== -/
def acS (F : Nat → Int → Int) (n : Int) : Nat → Int → Int := fun q => if q = 5 then up (F 5) 2 (F 5 2 + 1) else if q = 6 then up (F 6) (F 5 2) n else if q = 7 then up (F 7) (F 5 2) (F 5 1) else F q
def awS (F : Nat → Int → Int) (n x : Int) : Nat → Int → Int := fun q => if q = 5 then up (F 5) 5 (F 5 5 + 1) else if q = 8 then up (F 8) (F 5 5) n else if q = 9 then up (F 9) (F 5 5) x else F q
theorem ac_H (h : Hp) (n : Int) : rI (rI (rI h 6 (up (hI h 6) (hI h 5 2) n)) 7 (up (hI (rI h 6 (up (hI h 6) (hI h 5 2) n)) 7) (hI (rI h 6 (up (hI h 6) (hI h 5 2) n)) 5 2) (hI (rI h 6 (up (hI h 6) (hI h 5 2) n)) 5 1))) 5 (up (hI h 5) 2 (hI h 5 2 + 1)) = stH h 5 (acS (hI h) n) := by
  unfold stH acS rI
  refine congrArg (fun x => (h.1, x)) (congrArg (fun x => (x, h.2.2)) ?_)
  funext q
  by_cases e5 : q = 5
  · subst e5; rfl
  · by_cases e7 : q = 7
    · subst e7; rfl
    · by_cases e6 : q = 6
      · subst e6; rfl
      · show (if q = 5 then _ else if q = 7 then _ else if q = 6 then _ else _) = _
        rw [if_neg e5, if_neg e7, if_neg e6]
        show _ = if 5 ≤ q ∧ q < 5 + 6 then (if q = 5 then _ else if q = 6 then _ else if q = 7 then _ else _) else _
        rw [if_neg e5, if_neg e7, if_neg e6]
        split <;> rfl
theorem aw_H (h : Hp) (n x : Int) : rI (rI (rI h 8 (up (hI h 8) (hI h 5 5) n)) 9 (up (hI (rI h 8 (up (hI h 8) (hI h 5 5) n)) 9) (hI (rI h 8 (up (hI h 8) (hI h 5 5) n)) 5 5) x)) 5 (up (hI h 5) 5 (hI h 5 5 + 1)) = stH h 5 (awS (hI h) n x) := by
  unfold stH awS rI
  refine congrArg (fun x => (h.1, x)) (congrArg (fun x => (x, h.2.2)) ?_)
  funext q
  by_cases e5 : q = 5
  · subst e5; rfl
  · by_cases e7 : q = 9
    · subst e7; rfl
    · by_cases e6 : q = 8
      · subst e6; rfl
      · show (if q = 5 then _ else if q = 9 then _ else if q = 8 then _ else _) = _
        rw [if_neg e5, if_neg e7, if_neg e6]
        show _ = if 5 ≤ q ∧ q < 5 + 6 then (if q = 5 then _ else if q = 8 then _ else if q = 9 then _ else _) else _
        rw [if_neg e5, if_neg e7, if_neg e6]
        split <;> rfl
theorem ac_st {F : Nat → Int → Int} {w : Int → Int} {n : Int} (h : St0 F 5 w) (hW : WF w) (hc : w 290 < 20) : St0 (acS F n) 5 (reqW w n) := by
  have cn := hW.cn
  have wn := hW.wn
  have vn := hW.vn
  obtain ⟨h1, h2, h3, h4, h5, h6⟩ := h.o
  have r290 : reqW w n 290 = w 290 + 1 := up_self _ _ _
  refine Box.i ⟨?_, ?_, ?_, fun k k0 k1 => ?_, fun k k0 k1 => ?_, fun v v0 v1 => ?_⟩
  · show up (F 5) 2 (F 5 2 + 1) 1 = up (up (up w _ _) _ _) 290 _ 331
    rw [up_ne (by decide), up_ne (by decide), up_ne (by omega), up_ne (by omega)]
    exact h1
  · show up (F 5) 2 (F 5 2 + 1) 2 = _
    rw [up_self, r290, h2]
  · show up (F 5) 2 (F 5 2 + 1) 5 = up (up (up w _ _) _ _) 290 _ 332
    rw [up_ne (by decide), up_ne (by decide), up_ne (by omega), up_ne (by omega)]
    exact h3
  · rw [r290] at k1
    show up (F 6) (F 5 2) n k = up (up (up w _ _) _ _) 290 _ (291 + k) ∧ up (F 7) (F 5 2) (F 5 1) k = up (up (up w _ _) _ _) 290 _ (311 + k)
    rw [h2, h1, up_ne (show (291 : Int) + k ≠ 290 by omega), up_ne (show (311 : Int) + k ≠ 290 by omega), up_ne (show (291 : Int) + k ≠ 311 + w 290 by omega)]
    by_cases e : k = w 290
    · subst e
      rw [up_self, up_self, up_self, up_self]
      exact ⟨rfl, rfl⟩
    · rw [up_ne e, up_ne e, up_ne (show (291 : Int) + k ≠ 291 + w 290 by omega), up_ne (show (311 : Int) + k ≠ 311 + w 290 by omega), up_ne (show (311 : Int) + k ≠ 291 + w 290 by omega)]
      exact h4 k k0 (by omega)
  · have e : reqW w n 332 = w 332 := by
      show up (up (up w _ _) _ _) 290 _ 332 = _
      rw [up_ne (by decide), up_ne (by omega), up_ne (by omega)]
    rw [e] at k1
    show F 8 k = up (up (up w _ _) _ _) 290 _ (333 + k) ∧ F 9 k = up (up (up w _ _) _ _) 290 _ (341 + k)
    rw [up_ne (by omega), up_ne (by omega), up_ne (by omega), up_ne (by omega), up_ne (by omega), up_ne (by omega)]
    exact h5 k k0 k1
  · have e : reqW w n 281 = w 281 := by
      show up (up (up w _ _) _ _) 290 _ 281 = _
      rw [up_ne (by decide), up_ne (by omega), up_ne (by omega)]
    rw [e] at v1
    show F 10 v = up (up (up w _ _) _ _) 290 _ (286 + v)
    rw [up_ne (by omega), up_ne (by omega), up_ne (by omega)]
    exact h6 v v0 v1
theorem aw_st {F : Nat → Int → Int} {w : Int → Int} {n x : Int} (h : St0 F 5 w) (hW : WF w) (hc : w 332 < 8) : St0 (awS F n x) 5 (wishW w n x) := by
  have cn := hW.cn
  have wn := hW.wn
  have vn := hW.vn
  obtain ⟨h1, h2, h3, h4, h5, h6⟩ := h.o
  have r332 : wishW w n x 332 = w 332 + 1 := up_self _ _ _
  have q : ∀ j, j < 332 → wishW w n x j = w j := fun j hj => by
    show up (up (up w _ _) _ _) 332 _ j = _
    rw [up_ne (by omega), up_ne (by omega), up_ne (by omega)]
  refine Box.i ⟨?_, ?_, ?_, fun k k0 k1 => ?_, fun k k0 k1 => ?_, fun v v0 v1 => ?_⟩
  · rw [q 331 (by decide)]
    show up (F 5) 5 (F 5 5 + 1) 1 = _
    rw [up_ne (by decide)]
    exact h1
  · rw [q 290 (by decide)]
    show up (F 5) 5 (F 5 5 + 1) 2 = _
    rw [up_ne (by decide)]
    exact h2
  · show up (F 5) 5 (F 5 5 + 1) 5 = _
    rw [up_self, r332, h3]
  · rw [q 290 (by decide)] at k1
    rw [q (291 + k) (by omega), q (311 + k) (by omega)]
    exact h4 k k0 k1
  · rw [r332] at k1
    show up (F 8) (F 5 5) n k = up (up (up w _ _) _ _) 332 _ (333 + k) ∧ up (F 9) (F 5 5) x k = up (up (up w _ _) _ _) 332 _ (341 + k)
    rw [h3, up_ne (show (333 : Int) + k ≠ 332 by omega), up_ne (show (341 : Int) + k ≠ 332 by omega), up_ne (show (333 : Int) + k ≠ 341 + w 332 by omega)]
    by_cases e : k = w 332
    · subst e
      rw [up_self, up_self, up_self, up_self]
      exact ⟨rfl, rfl⟩
    · rw [up_ne e, up_ne e, up_ne (show (333 : Int) + k ≠ 333 + w 332 by omega), up_ne (show (341 : Int) + k ≠ 341 + w 332 by omega), up_ne (show (341 : Int) + k ≠ 333 + w 332 by omega)]
      exact h5 k k0 (by omega)
  · rw [q 281 (by decide)] at v1
    rw [q (286 + v) (by omega)]
    exact h6 v v0 v1
def s_X6_addConstraint : CS := (zc 1, ap [(3, 5), (0, 0)] (fun n h Rt X =>
(0 ≤ hI h 5 2 ∧ hI h 5 2 < 20) ∧ Rt (some (.inl (hI h 5 2))) (stH h 5 (acS (hI h) n))))
set_option maxRecDepth 100000 in
set_option maxHeartbeats 4000000 in
theorem o_X6_addConstraint : Obl true 1 2 (sp []) [] code_X6_addConstraint s_X6_addConstraint := by
  refine obl0 (by rfl) ?_
  intro n r_n h Rt X hh hf hs
  obtain ⟨⟨a1, a2⟩, h2⟩ := hs
  rw [← ac_H] at h2
  have k : hI h 5 2 + 1 - 1 = hI h 5 2 := by omega
  repeat' (first | apply And.intro | (with_reducible assumption) | (intro h9; first | (exfalso; omega) | (simp only [rI_rI, rJ_rJ, hI_rI, hJ_rI, hI_rJ, hJ_rJ, hI_rR, hR_rI, hR_rJ, hN_rI, hN_rJ, svH_63, svH_66, rfH_63, wvH_63, wvH_62, wvH_67, wvH_68, wvH_69, sc_63, sc_n62, sc_n67, sc_n68, sc_n69, sc_n70, reduceIte, Nat.reduceEqDiff, eq_self, up_up, up_self, up_ne, ne_eq, not_false_eq_true, Int.reduceEq, Int.reduceNeg] at h9; first | (exfalso; omega) | skip) | skip) | exact h2 | (simp only [rI_rI, rJ_rJ, hI_rI, hJ_rI, hI_rJ, hJ_rJ, hI_rR, hR_rI, hR_rJ, hN_rI, hN_rJ, svH_63, svH_66, rfH_63, wvH_63, wvH_62, wvH_67, wvH_68, wvH_69, sc_63, sc_n62, sc_n67, sc_n68, sc_n69, sc_n70, reduceIte, Nat.reduceEqDiff, eq_self, up_up, up_self, up_ne, ne_eq, not_false_eq_true, Int.reduceEq, Int.reduceNeg]; simp only [rI_rI, rJ_rJ, hI_rI, hJ_rI, hI_rJ, hJ_rJ, hI_rR, hR_rI, hR_rJ, hN_rI, hN_rJ, svH_63, svH_66, rfH_63, wvH_63, wvH_62, wvH_67, wvH_68, wvH_69, sc_63, sc_n62, sc_n67, sc_n68, sc_n69, sc_n70, reduceIte, Nat.reduceEqDiff, eq_self, up_up, up_self, up_ne, ne_eq, not_false_eq_true, Int.reduceEq, Int.reduceNeg] at h2; exact h2) | (simp only [rI_rI, rJ_rJ, hI_rI, hJ_rI, hI_rJ, hJ_rJ, hI_rR, hR_rI, hR_rJ, hN_rI, hN_rJ, svH_63, svH_66, rfH_63, wvH_63, wvH_62, wvH_67, wvH_68, wvH_69, sc_63, sc_n62, sc_n67, sc_n68, sc_n69, sc_n70, reduceIte, Nat.reduceEqDiff, eq_self, up_up, up_self, up_ne, ne_eq, not_false_eq_true, Int.reduceEq, Int.reduceNeg]; rw [k]; simp only [rI_rI, rJ_rJ, hI_rI, hJ_rI, hI_rJ, hJ_rJ, hI_rR, hR_rI, hR_rJ, hN_rI, hN_rJ, svH_63, svH_66, rfH_63, wvH_63, wvH_62, wvH_67, wvH_68, wvH_69, sc_63, sc_n62, sc_n67, sc_n68, sc_n69, sc_n70, reduceIte, Nat.reduceEqDiff, eq_self, up_up, up_self, up_ne, ne_eq, not_false_eq_true, Int.reduceEq, Int.reduceNeg] at h2; exact h2) | exact h2 | exact h2 (by omega) | omega | exact True.intro | (simp only [rI_rI, rJ_rJ, hI_rI, hJ_rI, hI_rJ, hJ_rJ, hI_rR, hR_rI, hR_rJ, hN_rI, hN_rJ, svH_63, svH_66, rfH_63, wvH_63, wvH_62, wvH_67, wvH_68, wvH_69, sc_63, sc_n62, sc_n67, sc_n68, sc_n69, sc_n70, reduceIte, Nat.reduceEqDiff, eq_self, up_up, up_self, up_ne, ne_eq, not_false_eq_true, Int.reduceEq, Int.reduceNeg]; omega))
theorem m_X6_addConstraint : MM 120 s_X6_addConstraint := mm_of (own := 5) (by rfl) k_X6_addConstraint (cl := []) trivial o_X6_addConstraint
def s_X6_addWish : CS := (zc 1, ap [(3, 5), (0, 0), (0, 0)] (fun n x h Rt X =>
(0 ≤ hI h 5 5 ∧ hI h 5 5 < 8) ∧ Rt (some (.inl (hI h 5 5 + 1))) (stH h 5 (awS (hI h) n x))))
set_option maxRecDepth 100000 in
set_option maxHeartbeats 4000000 in
theorem o_X6_addWish : Obl true 1 3 (sp []) [] code_X6_addWish s_X6_addWish := by
  refine obl0 (by rfl) ?_
  intro n r_n x r_x h Rt X hh hf hs
  obtain ⟨⟨a1, a2⟩, h2⟩ := hs
  rw [← aw_H] at h2
  repeat' (first | apply And.intro | (with_reducible assumption) | (intro h9; first | (exfalso; omega) | (simp only [rI_rI, rJ_rJ, hI_rI, hJ_rI, hI_rJ, hJ_rJ, hI_rR, hR_rI, hR_rJ, hN_rI, hN_rJ, svH_63, svH_66, rfH_63, wvH_63, wvH_62, wvH_67, wvH_68, wvH_69, sc_63, sc_n62, sc_n67, sc_n68, sc_n69, sc_n70, reduceIte, Nat.reduceEqDiff, eq_self, up_up, up_self, up_ne, ne_eq, not_false_eq_true, Int.reduceEq, Int.reduceNeg] at h9; first | (exfalso; omega) | skip) | skip) | exact h2 | (simp only [rI_rI, rJ_rJ, hI_rI, hJ_rI, hI_rJ, hJ_rJ, hI_rR, hR_rI, hR_rJ, hN_rI, hN_rJ, svH_63, svH_66, rfH_63, wvH_63, wvH_62, wvH_67, wvH_68, wvH_69, sc_63, sc_n62, sc_n67, sc_n68, sc_n69, sc_n70, reduceIte, Nat.reduceEqDiff, eq_self, up_up, up_self, up_ne, ne_eq, not_false_eq_true, Int.reduceEq, Int.reduceNeg]; simp only [rI_rI, rJ_rJ, hI_rI, hJ_rI, hI_rJ, hJ_rJ, hI_rR, hR_rI, hR_rJ, hN_rI, hN_rJ, svH_63, svH_66, rfH_63, wvH_63, wvH_62, wvH_67, wvH_68, wvH_69, sc_63, sc_n62, sc_n67, sc_n68, sc_n69, sc_n70, reduceIte, Nat.reduceEqDiff, eq_self, up_up, up_self, up_ne, ne_eq, not_false_eq_true, Int.reduceEq, Int.reduceNeg] at h2; exact h2) | exact h2 | exact h2 (by omega) | omega | exact True.intro | (simp only [rI_rI, rJ_rJ, hI_rI, hJ_rI, hI_rJ, hJ_rJ, hI_rR, hR_rI, hR_rJ, hN_rI, hN_rJ, svH_63, svH_66, rfH_63, wvH_63, wvH_62, wvH_67, wvH_68, wvH_69, sc_63, sc_n62, sc_n67, sc_n68, sc_n69, sc_n70, reduceIte, Nat.reduceEqDiff, eq_self, up_up, up_self, up_ne, ne_eq, not_false_eq_true, Int.reduceEq, Int.reduceNeg]; omega))
theorem m_X6_addWish : MM 122 s_X6_addWish := mm_of (own := 5) (by rfl) k_X6_addWish (cl := []) trivial o_X6_addWish
def s_X1_count : CS := (zc 1, ap [(3, 11)] (fun  h Rt X =>
Rt (some (.inl (hI h 11 1))) h))
set_option maxRecDepth 100000 in
set_option maxHeartbeats 4000000 in
theorem o_X1_count : Obl true 1 1 (sp []) [] code_X1_count s_X1_count := by
  refine obl0 (by rfl) ?_
  intro  h Rt X hh hf hs
  repeat' (first | apply And.intro | (with_reducible assumption) | (intro h9; first | (exfalso; omega) | (simp only [rI_rI, rJ_rJ, hI_rI, hJ_rI, hI_rJ, hJ_rJ, hI_rR, hR_rI, hR_rJ, hN_rI, hN_rJ, svH_63, svH_66, rfH_63, wvH_63, wvH_62, wvH_67, wvH_68, wvH_69, sc_63, sc_n62, sc_n67, sc_n68, sc_n69, sc_n70, reduceIte, Nat.reduceEqDiff, eq_self, up_up, up_self, up_ne, ne_eq, not_false_eq_true, Int.reduceEq, Int.reduceNeg] at h9; first | (exfalso; omega) | skip) | skip) | exact hs | exact hs | omega | exact True.intro | (simp only [rI_rI, rJ_rJ, hI_rI, hJ_rI, hI_rJ, hJ_rJ, hI_rR, hR_rI, hR_rJ, hN_rI, hN_rJ, svH_63, svH_66, rfH_63, wvH_63, wvH_62, wvH_67, wvH_68, wvH_69, sc_63, sc_n62, sc_n67, sc_n68, sc_n69, sc_n70, reduceIte, Nat.reduceEqDiff, eq_self, up_up, up_self, up_ne, ne_eq, not_false_eq_true, Int.reduceEq, Int.reduceNeg]; omega))
theorem m_X1_count : MM 34 s_X1_count := mm_of (own := 1) (by rfl) k_X1_count (cl := []) trivial o_X1_count
def s_X9_mix : CS := (zc 1, ap [(1, 0), (1, 0)] (fun a b h Rt X =>
Rt (some (.inr (.inl (Int64.ofNat 31 * a + b)))) h))
set_option maxRecDepth 100000 in
set_option maxHeartbeats 4000000 in
theorem o_X9_mix : Obl true 3 4 (sp []) [] code_X9_mix s_X9_mix := by
  refine obl0 (by rfl) ?_
  intro a b h Rt X hh hf hs
  repeat' (first | apply And.intro | (with_reducible assumption) | (intro h9; first | (exfalso; omega) | (simp only [rI_rI, rJ_rJ, hI_rI, hJ_rI, hI_rJ, hJ_rJ, hI_rR, hR_rI, hR_rJ, hN_rI, hN_rJ, svH_63, svH_66, rfH_63, wvH_63, wvH_62, wvH_67, wvH_68, wvH_69, sc_63, sc_n62, sc_n67, sc_n68, sc_n69, sc_n70, reduceIte, Nat.reduceEqDiff, eq_self, up_up, up_self, up_ne, ne_eq, not_false_eq_true, Int.reduceEq, Int.reduceNeg] at h9; first | (exfalso; omega) | skip) | skip) | exact hs | exact hs | omega | exact True.intro | (simp only [rI_rI, rJ_rJ, hI_rI, hJ_rI, hI_rJ, hJ_rJ, hI_rR, hR_rI, hR_rJ, hN_rI, hN_rJ, svH_63, svH_66, rfH_63, wvH_63, wvH_62, wvH_67, wvH_68, wvH_69, sc_63, sc_n62, sc_n67, sc_n68, sc_n69, sc_n70, reduceIte, Nat.reduceEqDiff, eq_self, up_up, up_self, up_ne, ne_eq, not_false_eq_true, Int.reduceEq, Int.reduceNeg]; omega))
theorem m_X9_mix : MM 178 s_X9_mix := mm_of (own := 8) (by rfl) k_X9_mix (cl := []) trivial o_X9_mix
/-- a level dropped -/
def DrQ (h : Hp) (w : Int → Int) (m : Nat) (vs : List AV) (g : Hp) : Prop := ∃ F k, g = rI h 5 F ∧ vs = [.inr (.inr (some 5)), .inl (w 290)] ∧ F 2 = (k : Nat) ∧ (k : Int) ≤ w 290 ∧ lft w k = lft w (w 290).toNat ∧ (∀ j, j ≠ 2 → F j = hI h 5 j) ∧ k = m
def s_X6_dropLevel : CS := (zc 1, ap [(3, 5)] (fun  h Rt X =>
∃ w, St0 (hI h) 5 w ∧ WF w ∧ ∀ F, F 2 = lft w (w 290).toNat → F 1 = w 331 - 1 → (∀ j, j ≠ 1 → j ≠ 2 → F j = hI h 5 j) → Rt (some (.inl (w 290 - lft w (w 290).toNat))) (rI h 5 F)))
set_option maxRecDepth 100000 in
set_option maxHeartbeats 4000000 in
theorem o_X6_dropLevel : Obl true 1 2 (sp []) [] code_X6_dropLevel s_X6_dropLevel := by
  refine oblL (by rfl) [(5, [0, 1])] ?_
  intro  h Rt X hh hf hs
  obtain ⟨w, hS, hW, h2⟩ := hs
  have cn := hW.cn
  have ln := hW.o.2.2.2.2.2.2.2.2.1
  obtain ⟨s1, s2, s3, s4, s5, s6⟩ := hS.o
  refine ⟨fun m _ vs g => DrQ h w m vs g, ?_, ?_⟩
  · have C : ∃ k, DrQ h w k [.inr (.inr (some 5)), .inl (hI h 5 2)] h := ⟨_, hI h 5, (w 290).toNat, (rI_id h 5).symm, by rw [s2], by rw [s2]; omega, by omega, rfl, fun _ _ => rfl, rfl⟩
    repeat' (first | apply And.intro | (with_reducible assumption) | (intro h9; first | (exfalso; omega) | (simp only [rI_rI, rJ_rJ, hI_rI, hJ_rI, hI_rJ, hJ_rJ, hI_rR, hR_rI, hR_rJ, hN_rI, hN_rJ, svH_63, svH_66, rfH_63, wvH_63, wvH_62, wvH_67, wvH_68, wvH_69, sc_63, sc_n62, sc_n67, sc_n68, sc_n69, sc_n70, reduceIte, Nat.reduceEqDiff, eq_self, up_up, up_self, up_ne, ne_eq, not_false_eq_true, Int.reduceEq, Int.reduceNeg] at h9; first | (exfalso; omega) | skip) | skip) | exact C | exact h2 | exact h2 (by omega) | omega | exact True.intro | (simp only [rI_rI, rJ_rJ, hI_rI, hJ_rI, hI_rJ, hJ_rJ, hI_rR, hR_rI, hR_rJ, hN_rI, hN_rJ, svH_63, svH_66, rfH_63, wvH_63, wvH_62, wvH_67, wvH_68, wvH_69, sc_63, sc_n62, sc_n67, sc_n68, sc_n69, sc_n70, reduceIte, Nat.reduceEqDiff, eq_self, up_up, up_self, up_ne, ne_eq, not_false_eq_true, Int.reduceEq, Int.reduceNeg]; omega))
  · rintro m pc vs' vs g hl ⟨F, k, rfl, rfl, e2, k1, kl, hF, rfl⟩ hv hh1 hf1
    obtain ⟨rfl, rfl⟩ := look1 hl
    have e1 : F 1 = hI h 5 1 := hF 1 (by decide)
    have a7 : hI (rI h 5 F) 7 = hI h 7 := rfl
    by_cases y : 0 < F 2
    · obtain ⟨k', rfl⟩ : ∃ k', k = k' + 1 := ⟨k - 1, by omega⟩
      have e2' : F 2 - 1 = (k' : Int) := by omega
      have e7 : hI h 7 (F 2 - 1) = w (311 + (k' : Int)) := by rw [e2']; exact (s4 k' (by omega) (by omega)).2
      by_cases z : hI h 7 (F 2 - 1) = F 1
      · have C : ∃ k'', k'' < k' + 1 ∧ DrQ h w k'' [.inr (.inr (some 5)), .inl (w 290)] (rI (rI h 5 F) 5 (up F 2 (F 2 - 1))) := by
          refine ⟨k', by omega, up F 2 (F 2 - 1), k', rI_rI _ _ _ _, rfl, by rw [up_self, e2'], by omega, ?_, fun j hj => by rw [up_ne hj]; exact hF j hj, rfl⟩
          rw [← kl, lft_s, if_pos (by rw [← e7, z, e1, s1])]
        repeat' (first | apply And.intro | (with_reducible assumption) | (intro h9; first | (exfalso; omega) | (simp only [rI_rI, rJ_rJ, hI_rI, hJ_rI, hI_rJ, hJ_rJ, hI_rR, hR_rI, hR_rJ, hN_rI, hN_rJ, svH_63, svH_66, rfH_63, wvH_63, wvH_62, wvH_67, wvH_68, wvH_69, sc_63, sc_n62, sc_n67, sc_n68, sc_n69, sc_n70, reduceIte, Nat.reduceEqDiff, eq_self, up_up, up_self, up_ne, ne_eq, not_false_eq_true, Int.reduceEq, Int.reduceNeg] at h9; first | (exfalso; omega) | skip) | skip) | exact C | exact h2 | exact h2 (by omega) | omega | exact True.intro | (simp only [rI_rI, rJ_rJ, hI_rI, hJ_rI, hI_rJ, hJ_rJ, hI_rR, hR_rI, hR_rJ, hN_rI, hN_rJ, svH_63, svH_66, rfH_63, wvH_63, wvH_62, wvH_67, wvH_68, wvH_69, sc_63, sc_n62, sc_n67, sc_n68, sc_n69, sc_n70, reduceIte, Nat.reduceEqDiff, eq_self, up_up, up_self, up_ne, ne_eq, not_false_eq_true, Int.reduceEq, Int.reduceNeg]; omega))
      · have kl' : F 2 = lft w (w 290).toNat := by
          rw [← kl, lft_s, if_neg (by rw [← e7, ← s1, ← e1]; exact z), e2]
          rfl
        have C := h2 (up F 1 (F 1 - 1)) (by rw [up_ne (by decide)]; exact kl') (by rw [up_self, e1, s1]) (fun j h1 h3 => by rw [up_ne h1]; exact hF j h3)
        rw [← kl'] at C
        rw [← rI_rI h 5 F] at C
        repeat' (first | apply And.intro | (with_reducible assumption) | (intro h9; first | (exfalso; omega) | (simp only [rI_rI, rJ_rJ, hI_rI, hJ_rI, hI_rJ, hJ_rJ, hI_rR, hR_rI, hR_rJ, hN_rI, hN_rJ, svH_63, svH_66, rfH_63, wvH_63, wvH_62, wvH_67, wvH_68, wvH_69, sc_63, sc_n62, sc_n67, sc_n68, sc_n69, sc_n70, reduceIte, Nat.reduceEqDiff, eq_self, up_up, up_self, up_ne, ne_eq, not_false_eq_true, Int.reduceEq, Int.reduceNeg] at h9; first | (exfalso; omega) | skip) | skip) | exact C | exact h2 | exact h2 (by omega) | omega | exact True.intro | (simp only [rI_rI, rJ_rJ, hI_rI, hJ_rI, hI_rJ, hJ_rJ, hI_rR, hR_rI, hR_rJ, hN_rI, hN_rJ, svH_63, svH_66, rfH_63, wvH_63, wvH_62, wvH_67, wvH_68, wvH_69, sc_63, sc_n62, sc_n67, sc_n68, sc_n69, sc_n70, reduceIte, Nat.reduceEqDiff, eq_self, up_up, up_self, up_ne, ne_eq, not_false_eq_true, Int.reduceEq, Int.reduceNeg]; omega))
    · have k0 : k = 0 := by omega
      subst k0
      have kl' : F 2 = lft w (w 290).toNat := by
        rw [← kl, e2]
        rfl
      have C := h2 (up F 1 (F 1 - 1)) (by rw [up_ne (by decide)]; exact kl') (by rw [up_self, e1, s1]) (fun j h1 h3 => by rw [up_ne h1]; exact hF j h3)
      rw [← kl'] at C
      rw [← rI_rI h 5 F] at C
      repeat' (first | apply And.intro | (with_reducible assumption) | (intro h9; first | (exfalso; omega) | (simp only [rI_rI, rJ_rJ, hI_rI, hJ_rI, hI_rJ, hJ_rJ, hI_rR, hR_rI, hR_rJ, hN_rI, hN_rJ, svH_63, svH_66, rfH_63, wvH_63, wvH_62, wvH_67, wvH_68, wvH_69, sc_63, sc_n62, sc_n67, sc_n68, sc_n69, sc_n70, reduceIte, Nat.reduceEqDiff, eq_self, up_up, up_self, up_ne, ne_eq, not_false_eq_true, Int.reduceEq, Int.reduceNeg] at h9; first | (exfalso; omega) | skip) | skip) | exact C | exact h2 | exact h2 (by omega) | omega | exact True.intro | (simp only [rI_rI, rJ_rJ, hI_rI, hJ_rI, hI_rJ, hJ_rJ, hI_rR, hR_rI, hR_rJ, hN_rI, hN_rJ, svH_63, svH_66, rfH_63, wvH_63, wvH_62, wvH_67, wvH_68, wvH_69, sc_63, sc_n62, sc_n67, sc_n68, sc_n69, sc_n70, reduceIte, Nat.reduceEqDiff, eq_self, up_up, up_self, up_ne, ne_eq, not_false_eq_true, Int.reduceEq, Int.reduceNeg]; omega))
theorem m_X6_dropLevel : MM 121 s_X6_dropLevel := mm_of (own := 5) (by rfl) k_X6_dropLevel (cl := []) trivial o_X6_dropLevel

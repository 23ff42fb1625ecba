/-! ===== the reference and the class: a step made ===== -/
theorem mk1_k {h : Hp} {k wd a b c x y : Int} {Rt : Option AV → Hp → Prop} (K : Rt (some (.inl (mk1 (hI h 63) k wd a b c x y).1)) (rI h 63 (mk1 (hI h 63) k wd a b c x y).2)) :
    (found (hI h 63) k wd a b c x y ≠ -1 → Rt (some (.inl (found (hI h 63) k wd a b c x y))) h) ∧ (found (hI h 63) k wd a b c x y = -1 → hI h 63 0 = 40 → Rt (some (.inl (-1))) h) ∧ (found (hI h 63) k wd a b c x y = -1 → hI h 63 0 < 40 → Rt (some (.inl (hI h 63 0))) (rI h 63 (newN (hI h 63) k wd a b c x y))) := by
  unfold mk1 at K
  refine ⟨fun e => ?_, fun e z => ?_, fun e z => ?_⟩
  · rw [if_pos e, rI_id] at K; exact K
  · rw [if_neg (fun q => q e), if_neg (by omega), rI_id] at K; exact K
  · rw [if_neg (fun q => q e), if_pos z] at K; exact K
theorem gk_k {h : Hp} {w : Int → Int} {k wd a b c x y : Int} {Rt : Option AV → Hp → Prop} (K : ∀ f1 f2, GR f1 f2 (hI h 3) (hI h 4) (mk1 w k wd a b c x y).2 → Rt (some (.inl (mk1 w k wd a b c x y).1)) (rI (rI h 2 f2) 1 f1)) : gkR h w k wd a b c x y Rt := by
  unfold mk1 at K
  refine ⟨fun e f g => ?_, fun e z f g => ?_, fun e z f g => ?_⟩
  · rw [if_pos e] at K
    have := K (hI h 1) f g
    rw [show hI h 1 = hI (rI h 2 f) 1 from rfl, rI_id] at this
    exact this
  · rw [if_neg (fun q => q e), if_neg (by omega)] at K
    have := K (hI h 1) f g
    rw [show hI h 1 = hI (rI h 2 f) 1 from rfl, rI_id] at this
    exact this
  · rw [if_neg (fun q => q e), if_pos z] at K
    exact K _ _ g
def s_X10_makesKind : CS := (zc 4, ap [(3, 62), (0, 0), (0, 0), (0, 0), (0, 0)] (fun k p x y h Rt X =>
∃ n v, WF (hI h 63) ∧ (2 ≤ k ∧ k ≤ 24 ∧ 0 ≤ p ∧ p + opc k ≤ 60) ∧ OpsO (hI h 63) k (hI h 74 p) (hI h 74 (p + 1)) (hI h 74 (p + 2)) ∧ ((dgc k = 1 → x = n) ∧ (dgc k = 2 → n = 10 * x + y ∧ 0 ≤ x ∧ x ≤ 9 ∧ 0 ≤ y ∧ y ≤ 9)) ∧
Rt (some (.inl (mk2 (hI h 63) k n v (hI h 74 p) (hI h 74 (p + 1)) (hI h 74 (p + 2))).1)) (rI h 63 (mk2 (hI h 63) k n v (hI h 74 p) (hI h 74 (p + 1)) (hI h 74 (p + 2))).2)))
set_option maxRecDepth 100000 in
set_option maxHeartbeats 4000000 in
theorem o_X10_makesKind : Obl true 1 8 (sp [(264, s_X10_operands), (208, s_X10_fits), (209, s_X10_widthBy), (202, s_X10_makes), (198, s_X10_width), (212, s_X10_isSlice), (214, s_X10_isExtended), (216, s_X10_isChoice)]) [] code_X10_makesKind s_X10_makesKind := by
  refine obl0 (by rfl) ?_
  intro k r_k p r_p x r_x y r_y h Rt X hh hf hs
  obtain ⟨n, v, hW, ⟨k0, k1, p0, p1⟩, ho, ⟨x1, x2⟩, h4⟩ := hs
  have oc : opc k = if k < 2 then 0 else if k ≤ 18 then 2 else if k = 24 then 3 else 1 := rfl
  have dc : dgc k = if k = 21 then 2 else if k = 22 ∨ k = 23 then 1 else 0 := rfl
  have nn := hW.nn
  obtain ⟨o1, o2, o3⟩ := ho.o
  unfold mk2 at h4
  rw [if_neg (by omega), if_neg (by omega)] at h4
  rw [if_neg (by omega)] at oc
  by_cases c2 : k ≤ 18
  · rw [if_pos c2] at oc h4
    have q1 := o1 (by omega)
    have q2 := o2 (by omega)
    have wa := hW.wd q1.1 q1.2
    have wb := hW.wd q2.1 q2.2
    by_cases z : (k = 18 ∧ nd (hI h 63) (hI h 74 p) 1 + nd (hI h 63) (hI h 74 (p + 1)) 1 ≤ 8) ∨ (k ≠ 18 ∧ nd (hI h 63) (hI h 74 p) 1 = nd (hI h 63) (hI h 74 (p + 1)) 1)
    · rw [if_pos z] at h4
      have bw : bW (hI h 63) k (hI h 74 p) (hI h 74 (p + 1)) = if k = 18 then nd (hI h 63) (hI h 74 p) 1 + nd (hI h 63) (hI h 74 (p + 1)) 1 else if 13 ≤ k then 1 else nd (hI h 63) (hI h 74 p) 1 := rfl
      rw [bw] at h4
      by_cases e1 : k = 18
      · rw [if_pos e1] at h4
        obtain ⟨r1, r2, r3⟩ := mk1_k h4
        repeat' (first | apply And.intro | (with_reducible assumption) | (intro h9; first | (exfalso; omega) | (simp only [rI_rI, rJ_rJ, hI_rI, hJ_rI, hI_rJ, hJ_rJ, hI_rR, hR_rI, hR_rJ, hN_rI, hN_rJ, svH_63, svH_66, rfH_63, wvH_63, wvH_62, wvH_67, wvH_68, wvH_69, sc_63, sc_n62, sc_n67, sc_n68, sc_n69, sc_n70, reduceIte, Nat.reduceEqDiff, eq_self, up_up, up_self, up_ne, ne_eq, not_false_eq_true, Int.reduceEq, Int.reduceNeg] at h9; first | (exfalso; omega) | skip) | skip) | exact r1 (by assumption) | exact r2 (by assumption) (by assumption) | exact r3 (by assumption) (by assumption) | exact h4 | exact h4 (by omega) | omega | exact True.intro | (simp only [rI_rI, rJ_rJ, hI_rI, hJ_rI, hI_rJ, hJ_rJ, hI_rR, hR_rI, hR_rJ, hN_rI, hN_rJ, svH_63, svH_66, rfH_63, wvH_63, wvH_62, wvH_67, wvH_68, wvH_69, sc_63, sc_n62, sc_n67, sc_n68, sc_n69, sc_n70, reduceIte, Nat.reduceEqDiff, eq_self, up_up, up_self, up_ne, ne_eq, not_false_eq_true, Int.reduceEq, Int.reduceNeg]; omega))
      · rw [if_neg e1] at h4
        by_cases e2 : 13 ≤ k
        · rw [if_pos e2] at h4
          obtain ⟨r1, r2, r3⟩ := mk1_k h4
          repeat' (first | apply And.intro | (with_reducible assumption) | (intro h9; first | (exfalso; omega) | (simp only [rI_rI, rJ_rJ, hI_rI, hJ_rI, hI_rJ, hJ_rJ, hI_rR, hR_rI, hR_rJ, hN_rI, hN_rJ, svH_63, svH_66, rfH_63, wvH_63, wvH_62, wvH_67, wvH_68, wvH_69, sc_63, sc_n62, sc_n67, sc_n68, sc_n69, sc_n70, reduceIte, Nat.reduceEqDiff, eq_self, up_up, up_self, up_ne, ne_eq, not_false_eq_true, Int.reduceEq, Int.reduceNeg] at h9; first | (exfalso; omega) | skip) | skip) | exact r1 (by assumption) | exact r2 (by assumption) (by assumption) | exact r3 (by assumption) (by assumption) | exact h4 | exact h4 (by omega) | omega | exact True.intro | (simp only [rI_rI, rJ_rJ, hI_rI, hJ_rI, hI_rJ, hJ_rJ, hI_rR, hR_rI, hR_rJ, hN_rI, hN_rJ, svH_63, svH_66, rfH_63, wvH_63, wvH_62, wvH_67, wvH_68, wvH_69, sc_63, sc_n62, sc_n67, sc_n68, sc_n69, sc_n70, reduceIte, Nat.reduceEqDiff, eq_self, up_up, up_self, up_ne, ne_eq, not_false_eq_true, Int.reduceEq, Int.reduceNeg]; omega))
        · rw [if_neg e2] at h4
          obtain ⟨r1, r2, r3⟩ := mk1_k h4
          repeat' (first | apply And.intro | (with_reducible assumption) | (intro h9; first | (exfalso; omega) | (simp only [rI_rI, rJ_rJ, hI_rI, hJ_rI, hI_rJ, hJ_rJ, hI_rR, hR_rI, hR_rJ, hN_rI, hN_rJ, svH_63, svH_66, rfH_63, wvH_63, wvH_62, wvH_67, wvH_68, wvH_69, sc_63, sc_n62, sc_n67, sc_n68, sc_n69, sc_n70, reduceIte, Nat.reduceEqDiff, eq_self, up_up, up_self, up_ne, ne_eq, not_false_eq_true, Int.reduceEq, Int.reduceNeg] at h9; first | (exfalso; omega) | skip) | skip) | exact r1 (by assumption) | exact r2 (by assumption) (by assumption) | exact r3 (by assumption) (by assumption) | exact h4 | exact h4 (by omega) | omega | exact True.intro | (simp only [rI_rI, rJ_rJ, hI_rI, hJ_rI, hI_rJ, hJ_rJ, hI_rR, hR_rI, hR_rJ, hN_rI, hN_rJ, svH_63, svH_66, rfH_63, wvH_63, wvH_62, wvH_67, wvH_68, wvH_69, sc_63, sc_n62, sc_n67, sc_n68, sc_n69, sc_n70, reduceIte, Nat.reduceEqDiff, eq_self, up_up, up_self, up_ne, ne_eq, not_false_eq_true, Int.reduceEq, Int.reduceNeg]; omega))
    · rw [if_neg z] at h4
      have h5 := h4
      rw [rI_id] at h5
      repeat' (first | apply And.intro | (with_reducible assumption) | (intro h9; first | (exfalso; omega) | (simp only [rI_rI, rJ_rJ, hI_rI, hJ_rI, hI_rJ, hJ_rJ, hI_rR, hR_rI, hR_rJ, hN_rI, hN_rJ, svH_63, svH_66, rfH_63, wvH_63, wvH_62, wvH_67, wvH_68, wvH_69, sc_63, sc_n62, sc_n67, sc_n68, sc_n69, sc_n70, reduceIte, Nat.reduceEqDiff, eq_self, up_up, up_self, up_ne, ne_eq, not_false_eq_true, Int.reduceEq, Int.reduceNeg] at h9; first | (exfalso; omega) | skip) | skip) | exact h5 | exact h4 | exact h4 (by omega) | omega | exact True.intro | (simp only [rI_rI, rJ_rJ, hI_rI, hJ_rI, hI_rJ, hJ_rJ, hI_rR, hR_rI, hR_rJ, hN_rI, hN_rJ, svH_63, svH_66, rfH_63, wvH_63, wvH_62, wvH_67, wvH_68, wvH_69, sc_63, sc_n62, sc_n67, sc_n68, sc_n69, sc_n70, reduceIte, Nat.reduceEqDiff, eq_self, up_up, up_self, up_ne, ne_eq, not_false_eq_true, Int.reduceEq, Int.reduceNeg]; omega))
  rw [if_neg c2] at oc h4
  have q1 := o1 (by split at oc <;> omega)
  have wa := hW.wd q1.1 q1.2
  by_cases c3 : k ≤ 20
  · rw [if_pos c3] at h4
    have oc1 : opc k = 1 := by rw [oc]; exact if_neg (by omega)
    obtain ⟨r1, r2, r3⟩ := mk1_k h4
    repeat' (first | apply And.intro | (with_reducible assumption) | (intro h9; first | (exfalso; omega) | (simp only [rI_rI, rJ_rJ, hI_rI, hJ_rI, hI_rJ, hJ_rJ, hI_rR, hR_rI, hR_rJ, hN_rI, hN_rJ, svH_63, svH_66, rfH_63, wvH_63, wvH_62, wvH_67, wvH_68, wvH_69, sc_63, sc_n62, sc_n67, sc_n68, sc_n69, sc_n70, reduceIte, Nat.reduceEqDiff, eq_self, up_up, up_self, up_ne, ne_eq, not_false_eq_true, Int.reduceEq, Int.reduceNeg] at h9; first | (exfalso; omega) | skip) | skip) | exact r1 (by assumption) | exact r2 (by assumption) (by assumption) | exact r3 (by assumption) (by assumption) | exact h4 | exact h4 (by omega) | omega | exact True.intro | (simp only [rI_rI, rJ_rJ, hI_rI, hJ_rI, hI_rJ, hJ_rJ, hI_rR, hR_rI, hR_rJ, hN_rI, hN_rJ, svH_63, svH_66, rfH_63, wvH_63, wvH_62, wvH_67, wvH_68, wvH_69, sc_63, sc_n62, sc_n67, sc_n68, sc_n69, sc_n70, reduceIte, Nat.reduceEqDiff, eq_self, up_up, up_self, up_ne, ne_eq, not_false_eq_true, Int.reduceEq, Int.reduceNeg]; omega))
  rw [if_neg c3] at h4
  by_cases c4 : k = 21
  · rw [if_pos c4] at h4 dc
    have oc1 : opc k = 1 := by rw [oc]; exact if_neg (by omega)
    obtain ⟨x2, x3, x4, x5, x6⟩ := x2 dc
    rw [show n / 10 = x by omega, show n % 10 = y by omega] at h4
    by_cases z : 0 ≤ y ∧ y ≤ x ∧ x < nd (hI h 63) (hI h 74 p) 1
    · rw [if_pos z] at h4
      obtain ⟨r1, r2, r3⟩ := mk1_k h4
      repeat' (first | apply And.intro | (with_reducible assumption) | (intro h9; first | (exfalso; omega) | (simp only [rI_rI, rJ_rJ, hI_rI, hJ_rI, hI_rJ, hJ_rJ, hI_rR, hR_rI, hR_rJ, hN_rI, hN_rJ, svH_63, svH_66, rfH_63, wvH_63, wvH_62, wvH_67, wvH_68, wvH_69, sc_63, sc_n62, sc_n67, sc_n68, sc_n69, sc_n70, reduceIte, Nat.reduceEqDiff, eq_self, up_up, up_self, up_ne, ne_eq, not_false_eq_true, Int.reduceEq, Int.reduceNeg] at h9; first | (exfalso; omega) | skip) | skip) | exact r1 (by assumption) | exact r2 (by assumption) (by assumption) | exact r3 (by assumption) (by assumption) | exact h4 | exact h4 (by omega) | omega | exact True.intro | (simp only [rI_rI, rJ_rJ, hI_rI, hJ_rI, hI_rJ, hJ_rJ, hI_rR, hR_rI, hR_rJ, hN_rI, hN_rJ, svH_63, svH_66, rfH_63, wvH_63, wvH_62, wvH_67, wvH_68, wvH_69, sc_63, sc_n62, sc_n67, sc_n68, sc_n69, sc_n70, reduceIte, Nat.reduceEqDiff, eq_self, up_up, up_self, up_ne, ne_eq, not_false_eq_true, Int.reduceEq, Int.reduceNeg]; omega))
    · rw [if_neg z] at h4
      have h5 := h4
      rw [rI_id] at h5
      repeat' (first | apply And.intro | (with_reducible assumption) | (intro h9; first | (exfalso; omega) | (simp only [rI_rI, rJ_rJ, hI_rI, hJ_rI, hI_rJ, hJ_rJ, hI_rR, hR_rI, hR_rJ, hN_rI, hN_rJ, svH_63, svH_66, rfH_63, wvH_63, wvH_62, wvH_67, wvH_68, wvH_69, sc_63, sc_n62, sc_n67, sc_n68, sc_n69, sc_n70, reduceIte, Nat.reduceEqDiff, eq_self, up_up, up_self, up_ne, ne_eq, not_false_eq_true, Int.reduceEq, Int.reduceNeg] at h9; first | (exfalso; omega) | skip) | skip) | exact h5 | exact h4 | exact h4 (by omega) | omega | exact True.intro | (simp only [rI_rI, rJ_rJ, hI_rI, hJ_rI, hI_rJ, hJ_rJ, hI_rR, hR_rI, hR_rJ, hN_rI, hN_rJ, svH_63, svH_66, rfH_63, wvH_63, wvH_62, wvH_67, wvH_68, wvH_69, sc_63, sc_n62, sc_n67, sc_n68, sc_n69, sc_n70, reduceIte, Nat.reduceEqDiff, eq_self, up_up, up_self, up_ne, ne_eq, not_false_eq_true, Int.reduceEq, Int.reduceNeg]; omega))
  rw [if_neg c4] at h4 dc
  by_cases c5 : k ≤ 23
  · rw [if_pos c5] at h4
    rw [if_pos (by omega)] at dc
    have oc1 : opc k = 1 := by rw [oc]; exact if_neg (by omega)
    have x1 := x1 dc
    subst x1
    by_cases z : nd (hI h 63) (hI h 74 p) 1 < x ∧ x ≤ 8
    · rw [if_pos z] at h4
      obtain ⟨r1, r2, r3⟩ := mk1_k h4
      repeat' (first | apply And.intro | (with_reducible assumption) | (intro h9; first | (exfalso; omega) | (simp only [rI_rI, rJ_rJ, hI_rI, hJ_rI, hI_rJ, hJ_rJ, hI_rR, hR_rI, hR_rJ, hN_rI, hN_rJ, svH_63, svH_66, rfH_63, wvH_63, wvH_62, wvH_67, wvH_68, wvH_69, sc_63, sc_n62, sc_n67, sc_n68, sc_n69, sc_n70, reduceIte, Nat.reduceEqDiff, eq_self, up_up, up_self, up_ne, ne_eq, not_false_eq_true, Int.reduceEq, Int.reduceNeg] at h9; first | (exfalso; omega) | skip) | skip) | exact r1 (by assumption) | exact r2 (by assumption) (by assumption) | exact r3 (by assumption) (by assumption) | exact h4 | exact h4 (by omega) | omega | exact True.intro | (simp only [rI_rI, rJ_rJ, hI_rI, hJ_rI, hI_rJ, hJ_rJ, hI_rR, hR_rI, hR_rJ, hN_rI, hN_rJ, svH_63, svH_66, rfH_63, wvH_63, wvH_62, wvH_67, wvH_68, wvH_69, sc_63, sc_n62, sc_n67, sc_n68, sc_n69, sc_n70, reduceIte, Nat.reduceEqDiff, eq_self, up_up, up_self, up_ne, ne_eq, not_false_eq_true, Int.reduceEq, Int.reduceNeg]; omega))
    · rw [if_neg z] at h4
      have h5 := h4
      rw [rI_id] at h5
      repeat' (first | apply And.intro | (with_reducible assumption) | (intro h9; first | (exfalso; omega) | (simp only [rI_rI, rJ_rJ, hI_rI, hJ_rI, hI_rJ, hJ_rJ, hI_rR, hR_rI, hR_rJ, hN_rI, hN_rJ, svH_63, svH_66, rfH_63, wvH_63, wvH_62, wvH_67, wvH_68, wvH_69, sc_63, sc_n62, sc_n67, sc_n68, sc_n69, sc_n70, reduceIte, Nat.reduceEqDiff, eq_self, up_up, up_self, up_ne, ne_eq, not_false_eq_true, Int.reduceEq, Int.reduceNeg] at h9; first | (exfalso; omega) | skip) | skip) | exact h5 | exact h4 | exact h4 (by omega) | omega | exact True.intro | (simp only [rI_rI, rJ_rJ, hI_rI, hJ_rI, hI_rJ, hJ_rJ, hI_rR, hR_rI, hR_rJ, hN_rI, hN_rJ, svH_63, svH_66, rfH_63, wvH_63, wvH_62, wvH_67, wvH_68, wvH_69, sc_63, sc_n62, sc_n67, sc_n68, sc_n69, sc_n70, reduceIte, Nat.reduceEqDiff, eq_self, up_up, up_self, up_ne, ne_eq, not_false_eq_true, Int.reduceEq, Int.reduceNeg]; omega))
  rw [if_neg c5] at h4
  have c6 : k = 24 := by omega
  rw [if_pos c6] at oc
  have q2 := o2 (by omega)
  have q3 := o3 (by omega)
  have wb := hW.wd q2.1 q2.2
  by_cases z : nd (hI h 63) (hI h 74 (p + 1)) 1 = nd (hI h 63) (hI h 74 (p + 2)) 1 ∧ nd (hI h 63) (hI h 74 p) 1 = 1
  · rw [if_pos ⟨z.2, z.1⟩] at h4
    obtain ⟨r1, r2, r3⟩ := mk1_k h4
    repeat' (first | apply And.intro | (with_reducible assumption) | (intro h9; first | (exfalso; omega) | (simp only [rI_rI, rJ_rJ, hI_rI, hJ_rI, hI_rJ, hJ_rJ, hI_rR, hR_rI, hR_rJ, hN_rI, hN_rJ, svH_63, svH_66, rfH_63, wvH_63, wvH_62, wvH_67, wvH_68, wvH_69, sc_63, sc_n62, sc_n67, sc_n68, sc_n69, sc_n70, reduceIte, Nat.reduceEqDiff, eq_self, up_up, up_self, up_ne, ne_eq, not_false_eq_true, Int.reduceEq, Int.reduceNeg] at h9; first | (exfalso; omega) | skip) | skip) | exact r1 (by assumption) | exact r2 (by assumption) (by assumption) | exact r3 (by assumption) (by assumption) | exact h4 | exact h4 (by omega) | omega | exact True.intro | (simp only [rI_rI, rJ_rJ, hI_rI, hJ_rI, hI_rJ, hJ_rJ, hI_rR, hR_rI, hR_rJ, hN_rI, hN_rJ, svH_63, svH_66, rfH_63, wvH_63, wvH_62, wvH_67, wvH_68, wvH_69, sc_63, sc_n62, sc_n67, sc_n68, sc_n69, sc_n70, reduceIte, Nat.reduceEqDiff, eq_self, up_up, up_self, up_ne, ne_eq, not_false_eq_true, Int.reduceEq, Int.reduceNeg]; omega))
  · rw [if_neg (fun q => z ⟨q.2, q.1⟩)] at h4
    have h5 := h4
    rw [rI_id] at h5
    repeat' (first | apply And.intro | (with_reducible assumption) | (intro h9; first | (exfalso; omega) | (simp only [rI_rI, rJ_rJ, hI_rI, hJ_rI, hI_rJ, hJ_rJ, hI_rR, hR_rI, hR_rJ, hN_rI, hN_rJ, svH_63, svH_66, rfH_63, wvH_63, wvH_62, wvH_67, wvH_68, wvH_69, sc_63, sc_n62, sc_n67, sc_n68, sc_n69, sc_n70, reduceIte, Nat.reduceEqDiff, eq_self, up_up, up_self, up_ne, ne_eq, not_false_eq_true, Int.reduceEq, Int.reduceNeg] at h9; first | (exfalso; omega) | skip) | skip) | exact h5 | exact h4 | exact h4 (by omega) | omega | exact True.intro | (simp only [rI_rI, rJ_rJ, hI_rI, hJ_rI, hI_rJ, hJ_rJ, hI_rR, hR_rI, hR_rJ, hN_rI, hN_rJ, svH_63, svH_66, rfH_63, wvH_63, wvH_62, wvH_67, wvH_68, wvH_69, sc_63, sc_n62, sc_n67, sc_n68, sc_n69, sc_n70, reduceIte, Nat.reduceEqDiff, eq_self, up_up, up_self, up_ne, ne_eq, not_false_eq_true, Int.reduceEq, Int.reduceNeg]; omega))
theorem m_X10_makesKind : MM 279 s_X10_makesKind := mm_of (own := 9) (by rfl) k_X10_makesKind (cl := [(264, s_X10_operands), (208, s_X10_fits), (209, s_X10_widthBy), (202, s_X10_makes), (198, s_X10_width), (212, s_X10_isSlice), (214, s_X10_isExtended), (216, s_X10_isChoice)]) ⟨m_X10_operands, m_X10_fits, m_X10_widthBy, m_X10_makes, m_X10_width, m_X10_isSlice, m_X10_isExtended, m_X10_isChoice, trivial⟩ o_X10_makesKind
def s_X4_buildStep : CS := (zc 5, ap [(3, 51), (3, 1), (0, 0), (0, 0)] (fun t p h Rt X =>
∃ w, GH h w ∧ WF w ∧ (0 ≤ t ∧ t < 120 ∧ 0 ≤ p ∧ p + opc (hI h 52 t) ≤ 120) ∧ TkO (hI h 52 t) (hI h 53 t) (hI h 54 t) ∧ OpsO w (hI h 52 t) (hI h 59 p) (hI h 59 (p + 1)) (hI h 59 (p + 2)) ∧
∀ f1 f2, GR f1 f2 (hI h 3) (hI h 4) (mk2 w (hI h 52 t) (hI h 53 t) (hI h 54 t) (hI h 59 p) (hI h 59 (p + 1)) (hI h 59 (p + 2))).2 → Rt (some (.inl (mk2 w (hI h 52 t) (hI h 53 t) (hI h 54 t) (hI h 59 p) (hI h 59 (p + 1)) (hI h 59 (p + 2))).1)) (rI (rI h 2 f2) 1 f1)))
set_option maxRecDepth 100000 in
set_option maxHeartbeats 4000000 in
theorem o_X4_buildStep : Obl true 1 6 (sp [(7, s_X0_variableNode), (11, s_X0_makeConstant), (16, s_X0_makeChoice), (14, s_X0_makeSlice), (15, s_X0_makeExtended), (13, s_X0_makeUnary), (12, s_X0_makeBinary)]) [] code_X4_buildStep s_X4_buildStep := by
  refine obl0 (by rfl) ?_
  intro t r_t p r_p h Rt X hh hf hs
  obtain ⟨w, hG, hW, ⟨t0, t1, p0, p1⟩, hk, ho, h4⟩ := hs
  have oc : opc (hI h 52 t) = if hI h 52 t < 2 then 0 else if hI h 52 t ≤ 18 then 2 else if hI h 52 t = 24 then 3 else 1 := rfl
  have nn := hW.nn
  have vn := hW.vn
  have g4 := hG.v
  obtain ⟨o1, o2, o3⟩ := ho.o
  have kk : 0 ≤ hI h 52 t ∧ hI h 52 t ≤ 24 := by rcases hk.o with q | q | q <;> omega
  have h5 : ∀ r, (∀ f1 f2, GR f1 f2 (hI h 3) (hI h 4) w → Rt (some (.inl r)) (rI (rI h 2 f2) 1 f1)) → Rt (some (.inl r)) h := fun r q => by
    have := q (hI h 1) (hI h 2) hG
    rw [rI_id, rI_id] at this
    exact this
  unfold mk2 at h4
  by_cases c0 : hI h 52 t = 0
  · rw [if_pos c0] at h4
    by_cases z : 1 ≤ hI h 54 t ∧ hI h 54 t ≤ 8 ∧ 0 ≤ hI h 53 t ∧ hI h 53 t ≤ p2 (hI h 54 t) - 1
    · rw [if_pos z] at h4
      obtain ⟨h6, h7, h8⟩ := gk_k h4
      repeat' (first | apply And.intro | (with_reducible assumption) | (intro h9; first | (exfalso; omega) | (simp only [rI_rI, rJ_rJ, hI_rI, hJ_rI, hI_rJ, hJ_rJ, hI_rR, hR_rI, hR_rJ, hN_rI, hN_rJ, svH_63, svH_66, rfH_63, wvH_63, wvH_62, wvH_67, wvH_68, wvH_69, sc_63, sc_n62, sc_n67, sc_n68, sc_n69, sc_n70, reduceIte, Nat.reduceEqDiff, eq_self, up_up, up_self, up_ne, ne_eq, not_false_eq_true, Int.reduceEq, Int.reduceNeg] at h9; first | (exfalso; omega) | skip) | skip) | refine Exists.intro w ?_ | exact hG | exact hW | exact h6 (by assumption) _ (by assumption) | exact h7 (by assumption) (by assumption) _ (by assumption) | exact h8 (by assumption) (by assumption) _ (by assumption) | exact h4 | exact h4 (by omega) | omega | exact True.intro | (simp only [rI_rI, rJ_rJ, hI_rI, hJ_rI, hI_rJ, hJ_rJ, hI_rR, hR_rI, hR_rJ, hN_rI, hN_rJ, svH_63, svH_66, rfH_63, wvH_63, wvH_62, wvH_67, wvH_68, wvH_69, sc_63, sc_n62, sc_n67, sc_n68, sc_n69, sc_n70, reduceIte, Nat.reduceEqDiff, eq_self, up_up, up_self, up_ne, ne_eq, not_false_eq_true, Int.reduceEq, Int.reduceNeg]; omega))
    · rw [if_neg z] at h4
      have h6 := h5 _ h4
      repeat' (first | apply And.intro | (with_reducible assumption) | (intro h9; first | (exfalso; omega) | (simp only [rI_rI, rJ_rJ, hI_rI, hJ_rI, hI_rJ, hJ_rJ, hI_rR, hR_rI, hR_rJ, hN_rI, hN_rJ, svH_63, svH_66, rfH_63, wvH_63, wvH_62, wvH_67, wvH_68, wvH_69, sc_63, sc_n62, sc_n67, sc_n68, sc_n69, sc_n70, reduceIte, Nat.reduceEqDiff, eq_self, up_up, up_self, up_ne, ne_eq, not_false_eq_true, Int.reduceEq, Int.reduceNeg] at h9; first | (exfalso; omega) | skip) | skip) | refine Exists.intro w ?_ | exact hG | exact hW | exact h6 | exact h4 | exact h4 (by omega) | omega | exact True.intro | (simp only [rI_rI, rJ_rJ, hI_rI, hJ_rI, hI_rJ, hJ_rJ, hI_rR, hR_rI, hR_rJ, hN_rI, hN_rJ, svH_63, svH_66, rfH_63, wvH_63, wvH_62, wvH_67, wvH_68, wvH_69, sc_63, sc_n62, sc_n67, sc_n68, sc_n69, sc_n70, reduceIte, Nat.reduceEqDiff, eq_self, up_up, up_self, up_ne, ne_eq, not_false_eq_true, Int.reduceEq, Int.reduceNeg]; omega))
  rw [if_neg c0] at h4
  by_cases c1 : hI h 52 t = 1
  · rw [if_pos c1] at h4
    by_cases z : 0 ≤ hI h 53 t ∧ hI h 53 t < w 281
    · rw [if_pos z] at h4
      have h6 := h5 _ h4
      rw [← hG.vn z.1 z.2] at h6
      repeat' (first | apply And.intro | (with_reducible assumption) | (intro h9; first | (exfalso; omega) | (simp only [rI_rI, rJ_rJ, hI_rI, hJ_rI, hI_rJ, hJ_rJ, hI_rR, hR_rI, hR_rJ, hN_rI, hN_rJ, svH_63, svH_66, rfH_63, wvH_63, wvH_62, wvH_67, wvH_68, wvH_69, sc_63, sc_n62, sc_n67, sc_n68, sc_n69, sc_n70, reduceIte, Nat.reduceEqDiff, eq_self, up_up, up_self, up_ne, ne_eq, not_false_eq_true, Int.reduceEq, Int.reduceNeg] at h9; first | (exfalso; omega) | skip) | skip) | exact h6 | exact h4 | exact h4 (by omega) | omega | exact True.intro | (simp only [rI_rI, rJ_rJ, hI_rI, hJ_rI, hI_rJ, hJ_rJ, hI_rR, hR_rI, hR_rJ, hN_rI, hN_rJ, svH_63, svH_66, rfH_63, wvH_63, wvH_62, wvH_67, wvH_68, wvH_69, sc_63, sc_n62, sc_n67, sc_n68, sc_n69, sc_n70, reduceIte, Nat.reduceEqDiff, eq_self, up_up, up_self, up_ne, ne_eq, not_false_eq_true, Int.reduceEq, Int.reduceNeg]; omega))
    · rw [if_neg z] at h4
      have h6 := h5 _ h4
      repeat' (first | apply And.intro | (with_reducible assumption) | (intro h9; first | (exfalso; omega) | (simp only [rI_rI, rJ_rJ, hI_rI, hJ_rI, hI_rJ, hJ_rJ, hI_rR, hR_rI, hR_rJ, hN_rI, hN_rJ, svH_63, svH_66, rfH_63, wvH_63, wvH_62, wvH_67, wvH_68, wvH_69, sc_63, sc_n62, sc_n67, sc_n68, sc_n69, sc_n70, reduceIte, Nat.reduceEqDiff, eq_self, up_up, up_self, up_ne, ne_eq, not_false_eq_true, Int.reduceEq, Int.reduceNeg] at h9; first | (exfalso; omega) | skip) | skip) | exact h6 | exact h4 | exact h4 (by omega) | omega | exact True.intro | (simp only [rI_rI, rJ_rJ, hI_rI, hJ_rI, hI_rJ, hJ_rJ, hI_rR, hR_rI, hR_rJ, hN_rI, hN_rJ, svH_63, svH_66, rfH_63, wvH_63, wvH_62, wvH_67, wvH_68, wvH_69, sc_63, sc_n62, sc_n67, sc_n68, sc_n69, sc_n70, reduceIte, Nat.reduceEqDiff, eq_self, up_up, up_self, up_ne, ne_eq, not_false_eq_true, Int.reduceEq, Int.reduceNeg]; omega))
  rw [if_neg c1] at h4
  rw [if_neg (by omega)] at oc
  have tk : (dgc (hI h 52 t) = 0 → hI h 53 t = 0) ∧ 0 ≤ hI h 53 t ∧ hI h 53 t ≤ 99 := by rcases hk.o with q | q | q <;> omega
  by_cases c2 : hI h 52 t ≤ 18
  · rw [if_pos c2] at oc h4
    have q1 := o1 (by omega)
    have q2 := o2 (by omega)
    by_cases z : (hI h 52 t = 18 ∧ nd w (hI h 59 p) 1 + nd w (hI h 59 (p + 1)) 1 ≤ 8) ∨ (hI h 52 t ≠ 18 ∧ nd w (hI h 59 p) 1 = nd w (hI h 59 (p + 1)) 1)
    · rw [if_pos z] at h4
      obtain ⟨h6, h7, h8⟩ := gk_k h4
      repeat' (first | apply And.intro | (with_reducible assumption) | (intro h9; first | (exfalso; omega) | (simp only [rI_rI, rJ_rJ, hI_rI, hJ_rI, hI_rJ, hJ_rJ, hI_rR, hR_rI, hR_rJ, hN_rI, hN_rJ, svH_63, svH_66, rfH_63, wvH_63, wvH_62, wvH_67, wvH_68, wvH_69, sc_63, sc_n62, sc_n67, sc_n68, sc_n69, sc_n70, reduceIte, Nat.reduceEqDiff, eq_self, up_up, up_self, up_ne, ne_eq, not_false_eq_true, Int.reduceEq, Int.reduceNeg] at h9; first | (exfalso; omega) | skip) | skip) | refine Exists.intro w ?_ | exact hG | exact hW | exact absurd z (by assumption) | exact h6 (by assumption) _ (by assumption) | exact h7 (by assumption) (by assumption) _ (by assumption) | exact h8 (by assumption) (by assumption) _ (by assumption) | exact h4 | exact h4 (by omega) | omega | exact True.intro | (simp only [rI_rI, rJ_rJ, hI_rI, hJ_rI, hI_rJ, hJ_rJ, hI_rR, hR_rI, hR_rJ, hN_rI, hN_rJ, svH_63, svH_66, rfH_63, wvH_63, wvH_62, wvH_67, wvH_68, wvH_69, sc_63, sc_n62, sc_n67, sc_n68, sc_n69, sc_n70, reduceIte, Nat.reduceEqDiff, eq_self, up_up, up_self, up_ne, ne_eq, not_false_eq_true, Int.reduceEq, Int.reduceNeg]; omega))
    · rw [if_neg z] at h4
      have h6 := h5 _ h4
      repeat' (first | apply And.intro | (with_reducible assumption) | (intro h9; first | (exfalso; omega) | (simp only [rI_rI, rJ_rJ, hI_rI, hJ_rI, hI_rJ, hJ_rJ, hI_rR, hR_rI, hR_rJ, hN_rI, hN_rJ, svH_63, svH_66, rfH_63, wvH_63, wvH_62, wvH_67, wvH_68, wvH_69, sc_63, sc_n62, sc_n67, sc_n68, sc_n69, sc_n70, reduceIte, Nat.reduceEqDiff, eq_self, up_up, up_self, up_ne, ne_eq, not_false_eq_true, Int.reduceEq, Int.reduceNeg] at h9; first | (exfalso; omega) | skip) | skip) | refine Exists.intro w ?_ | exact hG | exact hW | exact absurd (by assumption) z | exact h6 | exact h4 | exact h4 (by omega) | omega | exact True.intro | (simp only [rI_rI, rJ_rJ, hI_rI, hJ_rI, hI_rJ, hJ_rJ, hI_rR, hR_rI, hR_rJ, hN_rI, hN_rJ, svH_63, svH_66, rfH_63, wvH_63, wvH_62, wvH_67, wvH_68, wvH_69, sc_63, sc_n62, sc_n67, sc_n68, sc_n69, sc_n70, reduceIte, Nat.reduceEqDiff, eq_self, up_up, up_self, up_ne, ne_eq, not_false_eq_true, Int.reduceEq, Int.reduceNeg]; omega))
  rw [if_neg c2] at oc h4
  have q1 := o1 (by split at oc <;> omega)
  by_cases c3 : hI h 52 t ≤ 20
  · rw [if_pos c3] at h4
    have oc1 : opc (hI h 52 t) = 1 := by rw [oc]; exact if_neg (by omega)
    obtain ⟨h6, h7, h8⟩ := gk_k h4
    repeat' (first | apply And.intro | (with_reducible assumption) | (intro h9; first | (exfalso; omega) | (simp only [rI_rI, rJ_rJ, hI_rI, hJ_rI, hI_rJ, hJ_rJ, hI_rR, hR_rI, hR_rJ, hN_rI, hN_rJ, svH_63, svH_66, rfH_63, wvH_63, wvH_62, wvH_67, wvH_68, wvH_69, sc_63, sc_n62, sc_n67, sc_n68, sc_n69, sc_n70, reduceIte, Nat.reduceEqDiff, eq_self, up_up, up_self, up_ne, ne_eq, not_false_eq_true, Int.reduceEq, Int.reduceNeg] at h9; first | (exfalso; omega) | skip) | skip) | refine Exists.intro w ?_ | exact hG | exact hW | exact h6 (by assumption) _ (by assumption) | exact h7 (by assumption) (by assumption) _ (by assumption) | exact h8 (by assumption) (by assumption) _ (by assumption) | exact h4 | exact h4 (by omega) | omega | exact True.intro | (simp only [rI_rI, rJ_rJ, hI_rI, hJ_rI, hI_rJ, hJ_rJ, hI_rR, hR_rI, hR_rJ, hN_rI, hN_rJ, svH_63, svH_66, rfH_63, wvH_63, wvH_62, wvH_67, wvH_68, wvH_69, sc_63, sc_n62, sc_n67, sc_n68, sc_n69, sc_n70, reduceIte, Nat.reduceEqDiff, eq_self, up_up, up_self, up_ne, ne_eq, not_false_eq_true, Int.reduceEq, Int.reduceNeg]; omega))
  rw [if_neg c3] at h4
  by_cases c4 : hI h 52 t = 21
  · rw [if_pos c4] at h4
    have oc1 : opc (hI h 52 t) = 1 := by rw [oc]; exact if_neg (by omega)
    by_cases z : 0 ≤ hI h 53 t % 10 ∧ hI h 53 t % 10 ≤ hI h 53 t / 10 ∧ hI h 53 t / 10 < nd w (hI h 59 p) 1
    · rw [if_pos z] at h4
      obtain ⟨h6, h7, h8⟩ := gk_k h4
      repeat' (first | apply And.intro | (with_reducible assumption) | (intro h9; first | (exfalso; omega) | (simp only [rI_rI, rJ_rJ, hI_rI, hJ_rI, hI_rJ, hJ_rJ, hI_rR, hR_rI, hR_rJ, hN_rI, hN_rJ, svH_63, svH_66, rfH_63, wvH_63, wvH_62, wvH_67, wvH_68, wvH_69, sc_63, sc_n62, sc_n67, sc_n68, sc_n69, sc_n70, reduceIte, Nat.reduceEqDiff, eq_self, up_up, up_self, up_ne, ne_eq, not_false_eq_true, Int.reduceEq, Int.reduceNeg] at h9; first | (exfalso; omega) | skip) | skip) | refine Exists.intro w ?_ | exact hG | exact hW | exact h6 (by assumption) _ (by assumption) | exact h7 (by assumption) (by assumption) _ (by assumption) | exact h8 (by assumption) (by assumption) _ (by assumption) | exact h4 | exact h4 (by omega) | omega | exact True.intro | (simp only [rI_rI, rJ_rJ, hI_rI, hJ_rI, hI_rJ, hJ_rJ, hI_rR, hR_rI, hR_rJ, hN_rI, hN_rJ, svH_63, svH_66, rfH_63, wvH_63, wvH_62, wvH_67, wvH_68, wvH_69, sc_63, sc_n62, sc_n67, sc_n68, sc_n69, sc_n70, reduceIte, Nat.reduceEqDiff, eq_self, up_up, up_self, up_ne, ne_eq, not_false_eq_true, Int.reduceEq, Int.reduceNeg]; omega))
    · rw [if_neg z] at h4
      have h6 := h5 _ h4
      repeat' (first | apply And.intro | (with_reducible assumption) | (intro h9; first | (exfalso; omega) | (simp only [rI_rI, rJ_rJ, hI_rI, hJ_rI, hI_rJ, hJ_rJ, hI_rR, hR_rI, hR_rJ, hN_rI, hN_rJ, svH_63, svH_66, rfH_63, wvH_63, wvH_62, wvH_67, wvH_68, wvH_69, sc_63, sc_n62, sc_n67, sc_n68, sc_n69, sc_n70, reduceIte, Nat.reduceEqDiff, eq_self, up_up, up_self, up_ne, ne_eq, not_false_eq_true, Int.reduceEq, Int.reduceNeg] at h9; first | (exfalso; omega) | skip) | skip) | refine Exists.intro w ?_ | exact hG | exact hW | exact h6 | exact h4 | exact h4 (by omega) | omega | exact True.intro | (simp only [rI_rI, rJ_rJ, hI_rI, hJ_rI, hI_rJ, hJ_rJ, hI_rR, hR_rI, hR_rJ, hN_rI, hN_rJ, svH_63, svH_66, rfH_63, wvH_63, wvH_62, wvH_67, wvH_68, wvH_69, sc_63, sc_n62, sc_n67, sc_n68, sc_n69, sc_n70, reduceIte, Nat.reduceEqDiff, eq_self, up_up, up_self, up_ne, ne_eq, not_false_eq_true, Int.reduceEq, Int.reduceNeg]; omega))
  rw [if_neg c4] at h4
  by_cases c5 : hI h 52 t ≤ 23
  · rw [if_pos c5] at h4
    have oc1 : opc (hI h 52 t) = 1 := by rw [oc]; exact if_neg (by omega)
    by_cases z : nd w (hI h 59 p) 1 < hI h 53 t ∧ hI h 53 t ≤ 8
    · rw [if_pos z] at h4
      obtain ⟨h6, h7, h8⟩ := gk_k h4
      repeat' (first | apply And.intro | (with_reducible assumption) | (intro h9; first | (exfalso; omega) | (simp only [rI_rI, rJ_rJ, hI_rI, hJ_rI, hI_rJ, hJ_rJ, hI_rR, hR_rI, hR_rJ, hN_rI, hN_rJ, svH_63, svH_66, rfH_63, wvH_63, wvH_62, wvH_67, wvH_68, wvH_69, sc_63, sc_n62, sc_n67, sc_n68, sc_n69, sc_n70, reduceIte, Nat.reduceEqDiff, eq_self, up_up, up_self, up_ne, ne_eq, not_false_eq_true, Int.reduceEq, Int.reduceNeg] at h9; first | (exfalso; omega) | skip) | skip) | refine Exists.intro w ?_ | exact hG | exact hW | exact h6 (by assumption) _ (by assumption) | exact h7 (by assumption) (by assumption) _ (by assumption) | exact h8 (by assumption) (by assumption) _ (by assumption) | exact h4 | exact h4 (by omega) | omega | exact True.intro | (simp only [rI_rI, rJ_rJ, hI_rI, hJ_rI, hI_rJ, hJ_rJ, hI_rR, hR_rI, hR_rJ, hN_rI, hN_rJ, svH_63, svH_66, rfH_63, wvH_63, wvH_62, wvH_67, wvH_68, wvH_69, sc_63, sc_n62, sc_n67, sc_n68, sc_n69, sc_n70, reduceIte, Nat.reduceEqDiff, eq_self, up_up, up_self, up_ne, ne_eq, not_false_eq_true, Int.reduceEq, Int.reduceNeg]; omega))
    · rw [if_neg z] at h4
      have h6 := h5 _ h4
      repeat' (first | apply And.intro | (with_reducible assumption) | (intro h9; first | (exfalso; omega) | (simp only [rI_rI, rJ_rJ, hI_rI, hJ_rI, hI_rJ, hJ_rJ, hI_rR, hR_rI, hR_rJ, hN_rI, hN_rJ, svH_63, svH_66, rfH_63, wvH_63, wvH_62, wvH_67, wvH_68, wvH_69, sc_63, sc_n62, sc_n67, sc_n68, sc_n69, sc_n70, reduceIte, Nat.reduceEqDiff, eq_self, up_up, up_self, up_ne, ne_eq, not_false_eq_true, Int.reduceEq, Int.reduceNeg] at h9; first | (exfalso; omega) | skip) | skip) | refine Exists.intro w ?_ | exact hG | exact hW | exact h6 | exact h4 | exact h4 (by omega) | omega | exact True.intro | (simp only [rI_rI, rJ_rJ, hI_rI, hJ_rI, hI_rJ, hJ_rJ, hI_rR, hR_rI, hR_rJ, hN_rI, hN_rJ, svH_63, svH_66, rfH_63, wvH_63, wvH_62, wvH_67, wvH_68, wvH_69, sc_63, sc_n62, sc_n67, sc_n68, sc_n69, sc_n70, reduceIte, Nat.reduceEqDiff, eq_self, up_up, up_self, up_ne, ne_eq, not_false_eq_true, Int.reduceEq, Int.reduceNeg]; omega))
  rw [if_neg c5] at h4
  have c6 : hI h 52 t = 24 := by omega
  rw [if_pos c6] at oc
  have q2 := o2 (by omega)
  have q3 := o3 (by omega)
  by_cases z : nd w (hI h 59 p) 1 = 1 ∧ nd w (hI h 59 (p + 1)) 1 = nd w (hI h 59 (p + 2)) 1
  · rw [if_pos z] at h4
    obtain ⟨h6, h7, h8⟩ := gk_k h4
    repeat' (first | apply And.intro | (with_reducible assumption) | (intro h9; first | (exfalso; omega) | (simp only [rI_rI, rJ_rJ, hI_rI, hJ_rI, hI_rJ, hJ_rJ, hI_rR, hR_rI, hR_rJ, hN_rI, hN_rJ, svH_63, svH_66, rfH_63, wvH_63, wvH_62, wvH_67, wvH_68, wvH_69, sc_63, sc_n62, sc_n67, sc_n68, sc_n69, sc_n70, reduceIte, Nat.reduceEqDiff, eq_self, up_up, up_self, up_ne, ne_eq, not_false_eq_true, Int.reduceEq, Int.reduceNeg] at h9; first | (exfalso; omega) | skip) | skip) | refine Exists.intro w ?_ | exact hG | exact hW | exact h6 (by assumption) _ (by assumption) | exact h7 (by assumption) (by assumption) _ (by assumption) | exact h8 (by assumption) (by assumption) _ (by assumption) | exact h4 | exact h4 (by omega) | omega | exact True.intro | (simp only [rI_rI, rJ_rJ, hI_rI, hJ_rI, hI_rJ, hJ_rJ, hI_rR, hR_rI, hR_rJ, hN_rI, hN_rJ, svH_63, svH_66, rfH_63, wvH_63, wvH_62, wvH_67, wvH_68, wvH_69, sc_63, sc_n62, sc_n67, sc_n68, sc_n69, sc_n70, reduceIte, Nat.reduceEqDiff, eq_self, up_up, up_self, up_ne, ne_eq, not_false_eq_true, Int.reduceEq, Int.reduceNeg]; omega))
  · rw [if_neg z] at h4
    have h6 := h5 _ h4
    repeat' (first | apply And.intro | (with_reducible assumption) | (intro h9; first | (exfalso; omega) | (simp only [rI_rI, rJ_rJ, hI_rI, hJ_rI, hI_rJ, hJ_rJ, hI_rR, hR_rI, hR_rJ, hN_rI, hN_rJ, svH_63, svH_66, rfH_63, wvH_63, wvH_62, wvH_67, wvH_68, wvH_69, sc_63, sc_n62, sc_n67, sc_n68, sc_n69, sc_n70, reduceIte, Nat.reduceEqDiff, eq_self, up_up, up_self, up_ne, ne_eq, not_false_eq_true, Int.reduceEq, Int.reduceNeg] at h9; first | (exfalso; omega) | skip) | skip) | refine Exists.intro w ?_ | exact hG | exact hW | exact h6 | exact h4 | exact h4 (by omega) | omega | exact True.intro | (simp only [rI_rI, rJ_rJ, hI_rI, hJ_rI, hI_rJ, hJ_rJ, hI_rR, hR_rI, hR_rJ, hN_rI, hN_rJ, svH_63, svH_66, rfH_63, wvH_63, wvH_62, wvH_67, wvH_68, wvH_69, sc_63, sc_n62, sc_n67, sc_n68, sc_n69, sc_n70, reduceIte, Nat.reduceEqDiff, eq_self, up_up, up_self, up_ne, ne_eq, not_false_eq_true, Int.reduceEq, Int.reduceNeg]; omega))
theorem m_X4_buildStep : MM 94 s_X4_buildStep := mm_of (own := 3) (by rfl) k_X4_buildStep (cl := [(7, s_X0_variableNode), (11, s_X0_makeConstant), (16, s_X0_makeChoice), (14, s_X0_makeSlice), (15, s_X0_makeExtended), (13, s_X0_makeUnary), (12, s_X0_makeBinary)]) ⟨m_X0_variableNode, m_X0_makeConstant, m_X0_makeChoice, m_X0_makeSlice, m_X0_makeExtended, m_X0_makeUnary, m_X0_makeBinary, trivial⟩ o_X4_buildStep

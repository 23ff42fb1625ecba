/-! ===== the reference and the class: a step made ===== -/
theorem mk1_k {h : Hp} {k wd a b c x y : Int} {Rt : Option AV → Hp → Prop} (K : Rt (some (.inl (mk1 (hI h 63) k wd a b c x y).1)) (rI h 63 (mk1 (hI h 63) k wd a b c x y).2)) :
    (found (hI h 63) k wd a b c x y ≠ -1 → Rt (some (.inl (found (hI h 63) k wd a b c x y))) h) ∧ (found (hI h 63) k wd a b c x y = -1 → hI h 63 0 = 40 → Rt (some (.inl (-1))) h) ∧ (found (hI h 63) k wd a b c x y = -1 → hI h 63 0 < 40 → Rt (some (.inl (hI h 63 0))) (rI h 63 (newN (hI h 63) k wd a b c x y))) := by
  unfold mk1 at K
  refine ⟨fun e => ?_, fun e z => ?_, fun e z => ?_⟩
  · rw [if_pos e, rI_id] at K; exact K
  · rw [if_neg (fun q => q e), if_neg (by omega), rI_id] at K; exact K
  · rw [if_neg (fun q => q e), if_pos z] at K; exact K
theorem gk_k {h : Hp} {w : Int → Int} {k wd a b c x y : Int} {Rt : Option AV → Hp → Prop} (K : ∀ f1 f2, GR f1 f2 (hI h 3) (hI h 4) (mk1 w k wd a b c x y).2 → Rt (some (.inl (mk1 w k wd a b c x y).1)) (rI (rI h 2 f2) 1 f1)) : gkR h w k wd a b c x y Rt := by
  unfold mk1 at K
  refine ⟨fun e f g => ?_, fun e z f g => ?_, fun e z f g => ?_⟩
  · rw [if_pos e] at K
    have := K (hI h 1) f g
    rw [show hI h 1 = hI (rI h 2 f) 1 from rfl, rI_id] at this
    exact this
  · rw [if_neg (fun q => q e), if_neg (by omega)] at K
    have := K (hI h 1) f g
    rw [show hI h 1 = hI (rI h 2 f) 1 from rfl, rI_id] at this
    exact this
  · rw [if_neg (fun q => q e), if_pos z] at K
    exact K _ _ g
def s_X4_buildStep : CS := (zc 5, ap [(3, 51), (3, 1), (0, 0), (0, 0)] (fun t p h Rt X =>
∃ w, GH h w ∧ WF w ∧ (0 ≤ t ∧ t < 120 ∧ 0 ≤ p ∧ p + opc (hI h 52 t) ≤ 120) ∧ TkO (hI h 52 t) (hI h 53 t) (hI h 54 t) ∧ OpsO w (hI h 52 t) (hI h 59 p) (hI h 59 (p + 1)) (hI h 59 (p + 2)) ∧
∀ f1 f2, GR f1 f2 (hI h 3) (hI h 4) (mk2 w (hI h 52 t) (hI h 53 t) (hI h 54 t) (hI h 59 p) (hI h 59 (p + 1)) (hI h 59 (p + 2))).2 → Rt (some (.inl (mk2 w (hI h 52 t) (hI h 53 t) (hI h 54 t) (hI h 59 p) (hI h 59 (p + 1)) (hI h 59 (p + 2))).1)) (rI (rI h 2 f2) 1 f1)))
set_option maxRecDepth 100000 in
set_option maxHeartbeats 4000000 in
theorem o_X4_buildStep : Obl true 1 6 (sp [(7, s_X0_variableNode), (11, s_X0_makeConstant), (16, s_X0_makeChoice), (14, s_X0_makeSlice), (15, s_X0_makeExtended), (13, s_X0_makeUnary), (12, s_X0_makeBinary)]) [] code_X4_buildStep s_X4_buildStep := by
  refine obl0 (by rfl) ?_
  intro t r_t p r_p h Rt X hh hf hs
  obtain ⟨w, hG, hW, ⟨t0, t1, p0, p1⟩, hk, ho, h4⟩ := hs
  have oc : opc (hI h 52 t) = if hI h 52 t < 2 then 0 else if hI h 52 t ≤ 18 then 2 else if hI h 52 t = 24 then 3 else 1 := rfl
  have nn := hW.nn
  have vn := hW.vn
  have g4 := hG.v
  obtain ⟨o1, o2, o3⟩ := ho.o
  have kk : 0 ≤ hI h 52 t ∧ hI h 52 t ≤ 24 := by rcases hk.o with q | q | q <;> omega
  have h5 : ∀ r, (∀ f1 f2, GR f1 f2 (hI h 3) (hI h 4) w → Rt (some (.inl r)) (rI (rI h 2 f2) 1 f1)) → Rt (some (.inl r)) h := fun r q => by
    have := q (hI h 1) (hI h 2) hG
    rw [rI_id, rI_id] at this
    exact this
  unfold mk2 at h4
  by_cases c0 : hI h 52 t = 0
  · rw [if_pos c0] at h4
    by_cases z : 1 ≤ hI h 54 t ∧ hI h 54 t ≤ 8 ∧ 0 ≤ hI h 53 t ∧ hI h 53 t ≤ p2 (hI h 54 t) - 1
    · rw [if_pos z] at h4
      obtain ⟨h6, h7, h8⟩ := gk_k h4
      repeat' (first | apply And.intro | (with_reducible assumption) | (intro h9; first | (exfalso; omega) | (simp only [rI_rI, rJ_rJ, hI_rI, hJ_rI, hI_rJ, hJ_rJ, hI_rR, hR_rI, hR_rJ, hN_rI, hN_rJ, svH_63, svH_66, rfH_63, wvH_63, wvH_62, wvH_67, wvH_68, wvH_69, sc_63, sc_n62, sc_n67, sc_n68, sc_n69, sc_n70, reduceIte, Nat.reduceEqDiff, eq_self, up_up, up_self, up_ne, ne_eq, not_false_eq_true, Int.reduceEq, Int.reduceNeg] at h9; first | (exfalso; omega) | skip) | skip) | refine Exists.intro w ?_ | exact hG | exact hW | exact h6 (by assumption) _ (by assumption) | exact h7 (by assumption) (by assumption) _ (by assumption) | exact h8 (by assumption) (by assumption) _ (by assumption) | exact h4 | exact h4 (by omega) | omega | exact True.intro | (simp only [rI_rI, rJ_rJ, hI_rI, hJ_rI, hI_rJ, hJ_rJ, hI_rR, hR_rI, hR_rJ, hN_rI, hN_rJ, svH_63, svH_66, rfH_63, wvH_63, wvH_62, wvH_67, wvH_68, wvH_69, sc_63, sc_n62, sc_n67, sc_n68, sc_n69, sc_n70, reduceIte, Nat.reduceEqDiff, eq_self, up_up, up_self, up_ne, ne_eq, not_false_eq_true, Int.reduceEq, Int.reduceNeg]; omega))
    · rw [if_neg z] at h4
      have h6 := h5 _ h4
      repeat' (first | apply And.intro | (with_reducible assumption) | (intro h9; first | (exfalso; omega) | (simp only [rI_rI, rJ_rJ, hI_rI, hJ_rI, hI_rJ, hJ_rJ, hI_rR, hR_rI, hR_rJ, hN_rI, hN_rJ, svH_63, svH_66, rfH_63, wvH_63, wvH_62, wvH_67, wvH_68, wvH_69, sc_63, sc_n62, sc_n67, sc_n68, sc_n69, sc_n70, reduceIte, Nat.reduceEqDiff, eq_self, up_up, up_self, up_ne, ne_eq, not_false_eq_true, Int.reduceEq, Int.reduceNeg] at h9; first | (exfalso; omega) | skip) | skip) | refine Exists.intro w ?_ | exact hG | exact hW | exact h6 | exact h4 | exact h4 (by omega) | omega | exact True.intro | (simp only [rI_rI, rJ_rJ, hI_rI, hJ_rI, hI_rJ, hJ_rJ, hI_rR, hR_rI, hR_rJ, hN_rI, hN_rJ, svH_63, svH_66, rfH_63, wvH_63, wvH_62, wvH_67, wvH_68, wvH_69, sc_63, sc_n62, sc_n67, sc_n68, sc_n69, sc_n70, reduceIte, Nat.reduceEqDiff, eq_self, up_up, up_self, up_ne, ne_eq, not_false_eq_true, Int.reduceEq, Int.reduceNeg]; omega))
  rw [if_neg c0] at h4
  by_cases c1 : hI h 52 t = 1
  · rw [if_pos c1] at h4
    by_cases z : 0 ≤ hI h 53 t ∧ hI h 53 t < w 281
    · rw [if_pos z] at h4
      have h6 := h5 _ h4
      rw [← hG.vn z.1 z.2] at h6
      repeat' (first | apply And.intro | (with_reducible assumption) | (intro h9; first | (exfalso; omega) | (simp only [rI_rI, rJ_rJ, hI_rI, hJ_rI, hI_rJ, hJ_rJ, hI_rR, hR_rI, hR_rJ, hN_rI, hN_rJ, svH_63, svH_66, rfH_63, wvH_63, wvH_62, wvH_67, wvH_68, wvH_69, sc_63, sc_n62, sc_n67, sc_n68, sc_n69, sc_n70, reduceIte, Nat.reduceEqDiff, eq_self, up_up, up_self, up_ne, ne_eq, not_false_eq_true, Int.reduceEq, Int.reduceNeg] at h9; first | (exfalso; omega) | skip) | skip) | exact h6 | exact h4 | exact h4 (by omega) | omega | exact True.intro | (simp only [rI_rI, rJ_rJ, hI_rI, hJ_rI, hI_rJ, hJ_rJ, hI_rR, hR_rI, hR_rJ, hN_rI, hN_rJ, svH_63, svH_66, rfH_63, wvH_63, wvH_62, wvH_67, wvH_68, wvH_69, sc_63, sc_n62, sc_n67, sc_n68, sc_n69, sc_n70, reduceIte, Nat.reduceEqDiff, eq_self, up_up, up_self, up_ne, ne_eq, not_false_eq_true, Int.reduceEq, Int.reduceNeg]; omega))
    · rw [if_neg z] at h4
      have h6 := h5 _ h4
      repeat' (first | apply And.intro | (with_reducible assumption) | (intro h9; first | (exfalso; omega) | (simp only [rI_rI, rJ_rJ, hI_rI, hJ_rI, hI_rJ, hJ_rJ, hI_rR, hR_rI, hR_rJ, hN_rI, hN_rJ, svH_63, svH_66, rfH_63, wvH_63, wvH_62, wvH_67, wvH_68, wvH_69, sc_63, sc_n62, sc_n67, sc_n68, sc_n69, sc_n70, reduceIte, Nat.reduceEqDiff, eq_self, up_up, up_self, up_ne, ne_eq, not_false_eq_true, Int.reduceEq, Int.reduceNeg] at h9; first | (exfalso; omega) | skip) | skip) | exact h6 | exact h4 | exact h4 (by omega) | omega | exact True.intro | (simp only [rI_rI, rJ_rJ, hI_rI, hJ_rI, hI_rJ, hJ_rJ, hI_rR, hR_rI, hR_rJ, hN_rI, hN_rJ, svH_63, svH_66, rfH_63, wvH_63, wvH_62, wvH_67, wvH_68, wvH_69, sc_63, sc_n62, sc_n67, sc_n68, sc_n69, sc_n70, reduceIte, Nat.reduceEqDiff, eq_self, up_up, up_self, up_ne, ne_eq, not_false_eq_true, Int.reduceEq, Int.reduceNeg]; omega))
  rw [if_neg c1] at h4
  rw [if_neg (by omega)] at oc
  have tk : (dgc (hI h 52 t) = 0 → hI h 53 t = 0) ∧ 0 ≤ hI h 53 t ∧ hI h 53 t ≤ 99 := by rcases hk.o with q | q | q <;> omega
  by_cases c2 : hI h 52 t ≤ 18
  · rw [if_pos c2] at oc h4
    have q1 := o1 (by omega)
    have q2 := o2 (by omega)
    by_cases z : (hI h 52 t = 18 ∧ nd w (hI h 59 p) 1 + nd w (hI h 59 (p + 1)) 1 ≤ 8) ∨ (hI h 52 t ≠ 18 ∧ nd w (hI h 59 p) 1 = nd w (hI h 59 (p + 1)) 1)
    · rw [if_pos z] at h4
      obtain ⟨h6, h7, h8⟩ := gk_k h4
      repeat' (first | apply And.intro | (with_reducible assumption) | (intro h9; first | (exfalso; omega) | (simp only [rI_rI, rJ_rJ, hI_rI, hJ_rI, hI_rJ, hJ_rJ, hI_rR, hR_rI, hR_rJ, hN_rI, hN_rJ, svH_63, svH_66, rfH_63, wvH_63, wvH_62, wvH_67, wvH_68, wvH_69, sc_63, sc_n62, sc_n67, sc_n68, sc_n69, sc_n70, reduceIte, Nat.reduceEqDiff, eq_self, up_up, up_self, up_ne, ne_eq, not_false_eq_true, Int.reduceEq, Int.reduceNeg] at h9; first | (exfalso; omega) | skip) | skip) | refine Exists.intro w ?_ | exact hG | exact hW | exact absurd z (by assumption) | exact h6 (by assumption) _ (by assumption) | exact h7 (by assumption) (by assumption) _ (by assumption) | exact h8 (by assumption) (by assumption) _ (by assumption) | exact h4 | exact h4 (by omega) | omega | exact True.intro | (simp only [rI_rI, rJ_rJ, hI_rI, hJ_rI, hI_rJ, hJ_rJ, hI_rR, hR_rI, hR_rJ, hN_rI, hN_rJ, svH_63, svH_66, rfH_63, wvH_63, wvH_62, wvH_67, wvH_68, wvH_69, sc_63, sc_n62, sc_n67, sc_n68, sc_n69, sc_n70, reduceIte, Nat.reduceEqDiff, eq_self, up_up, up_self, up_ne, ne_eq, not_false_eq_true, Int.reduceEq, Int.reduceNeg]; omega))
    · rw [if_neg z] at h4
      have h6 := h5 _ h4
      repeat' (first | apply And.intro | (with_reducible assumption) | (intro h9; first | (exfalso; omega) | (simp only [rI_rI, rJ_rJ, hI_rI, hJ_rI, hI_rJ, hJ_rJ, hI_rR, hR_rI, hR_rJ, hN_rI, hN_rJ, svH_63, svH_66, rfH_63, wvH_63, wvH_62, wvH_67, wvH_68, wvH_69, sc_63, sc_n62, sc_n67, sc_n68, sc_n69, sc_n70, reduceIte, Nat.reduceEqDiff, eq_self, up_up, up_self, up_ne, ne_eq, not_false_eq_true, Int.reduceEq, Int.reduceNeg] at h9; first | (exfalso; omega) | skip) | skip) | refine Exists.intro w ?_ | exact hG | exact hW | exact absurd (by assumption) z | exact h6 | exact h4 | exact h4 (by omega) | omega | exact True.intro | (simp only [rI_rI, rJ_rJ, hI_rI, hJ_rI, hI_rJ, hJ_rJ, hI_rR, hR_rI, hR_rJ, hN_rI, hN_rJ, svH_63, svH_66, rfH_63, wvH_63, wvH_62, wvH_67, wvH_68, wvH_69, sc_63, sc_n62, sc_n67, sc_n68, sc_n69, sc_n70, reduceIte, Nat.reduceEqDiff, eq_self, up_up, up_self, up_ne, ne_eq, not_false_eq_true, Int.reduceEq, Int.reduceNeg]; omega))
  rw [if_neg c2] at oc h4
  have q1 := o1 (by split at oc <;> omega)
  by_cases c3 : hI h 52 t ≤ 20
  · rw [if_pos c3] at h4
    have oc1 : opc (hI h 52 t) = 1 := by rw [oc]; exact if_neg (by omega)
    obtain ⟨h6, h7, h8⟩ := gk_k h4
    repeat' (first | apply And.intro | (with_reducible assumption) | (intro h9; first | (exfalso; omega) | (simp only [rI_rI, rJ_rJ, hI_rI, hJ_rI, hI_rJ, hJ_rJ, hI_rR, hR_rI, hR_rJ, hN_rI, hN_rJ, svH_63, svH_66, rfH_63, wvH_63, wvH_62, wvH_67, wvH_68, wvH_69, sc_63, sc_n62, sc_n67, sc_n68, sc_n69, sc_n70, reduceIte, Nat.reduceEqDiff, eq_self, up_up, up_self, up_ne, ne_eq, not_false_eq_true, Int.reduceEq, Int.reduceNeg] at h9; first | (exfalso; omega) | skip) | skip) | refine Exists.intro w ?_ | exact hG | exact hW | exact h6 (by assumption) _ (by assumption) | exact h7 (by assumption) (by assumption) _ (by assumption) | exact h8 (by assumption) (by assumption) _ (by assumption) | exact h4 | exact h4 (by omega) | omega | exact True.intro | (simp only [rI_rI, rJ_rJ, hI_rI, hJ_rI, hI_rJ, hJ_rJ, hI_rR, hR_rI, hR_rJ, hN_rI, hN_rJ, svH_63, svH_66, rfH_63, wvH_63, wvH_62, wvH_67, wvH_68, wvH_69, sc_63, sc_n62, sc_n67, sc_n68, sc_n69, sc_n70, reduceIte, Nat.reduceEqDiff, eq_self, up_up, up_self, up_ne, ne_eq, not_false_eq_true, Int.reduceEq, Int.reduceNeg]; omega))
  rw [if_neg c3] at h4
  by_cases c4 : hI h 52 t = 21
  · rw [if_pos c4] at h4
    have oc1 : opc (hI h 52 t) = 1 := by rw [oc]; exact if_neg (by omega)
    by_cases z : 0 ≤ hI h 53 t % 10 ∧ hI h 53 t % 10 ≤ hI h 53 t / 10 ∧ hI h 53 t / 10 < nd w (hI h 59 p) 1
    · rw [if_pos z] at h4
      obtain ⟨h6, h7, h8⟩ := gk_k h4
      repeat' (first | apply And.intro | (with_reducible assumption) | (intro h9; first | (exfalso; omega) | (simp only [rI_rI, rJ_rJ, hI_rI, hJ_rI, hI_rJ, hJ_rJ, hI_rR, hR_rI, hR_rJ, hN_rI, hN_rJ, svH_63, svH_66, rfH_63, wvH_63, wvH_62, wvH_67, wvH_68, wvH_69, sc_63, sc_n62, sc_n67, sc_n68, sc_n69, sc_n70, reduceIte, Nat.reduceEqDiff, eq_self, up_up, up_self, up_ne, ne_eq, not_false_eq_true, Int.reduceEq, Int.reduceNeg] at h9; first | (exfalso; omega) | skip) | skip) | refine Exists.intro w ?_ | exact hG | exact hW | exact h6 (by assumption) _ (by assumption) | exact h7 (by assumption) (by assumption) _ (by assumption) | exact h8 (by assumption) (by assumption) _ (by assumption) | exact h4 | exact h4 (by omega) | omega | exact True.intro | (simp only [rI_rI, rJ_rJ, hI_rI, hJ_rI, hI_rJ, hJ_rJ, hI_rR, hR_rI, hR_rJ, hN_rI, hN_rJ, svH_63, svH_66, rfH_63, wvH_63, wvH_62, wvH_67, wvH_68, wvH_69, sc_63, sc_n62, sc_n67, sc_n68, sc_n69, sc_n70, reduceIte, Nat.reduceEqDiff, eq_self, up_up, up_self, up_ne, ne_eq, not_false_eq_true, Int.reduceEq, Int.reduceNeg]; omega))
    · rw [if_neg z] at h4
      have h6 := h5 _ h4
      repeat' (first | apply And.intro | (with_reducible assumption) | (intro h9; first | (exfalso; omega) | (simp only [rI_rI, rJ_rJ, hI_rI, hJ_rI, hI_rJ, hJ_rJ, hI_rR, hR_rI, hR_rJ, hN_rI, hN_rJ, svH_63, svH_66, rfH_63, wvH_63, wvH_62, wvH_67, wvH_68, wvH_69, sc_63, sc_n62, sc_n67, sc_n68, sc_n69, sc_n70, reduceIte, Nat.reduceEqDiff, eq_self, up_up, up_self, up_ne, ne_eq, not_false_eq_true, Int.reduceEq, Int.reduceNeg] at h9; first | (exfalso; omega) | skip) | skip) | refine Exists.intro w ?_ | exact hG | exact hW | exact h6 | exact h4 | exact h4 (by omega) | omega | exact True.intro | (simp only [rI_rI, rJ_rJ, hI_rI, hJ_rI, hI_rJ, hJ_rJ, hI_rR, hR_rI, hR_rJ, hN_rI, hN_rJ, svH_63, svH_66, rfH_63, wvH_63, wvH_62, wvH_67, wvH_68, wvH_69, sc_63, sc_n62, sc_n67, sc_n68, sc_n69, sc_n70, reduceIte, Nat.reduceEqDiff, eq_self, up_up, up_self, up_ne, ne_eq, not_false_eq_true, Int.reduceEq, Int.reduceNeg]; omega))
  rw [if_neg c4] at h4
  by_cases c5 : hI h 52 t ≤ 23
  · rw [if_pos c5] at h4
    have oc1 : opc (hI h 52 t) = 1 := by rw [oc]; exact if_neg (by omega)
    by_cases z : nd w (hI h 59 p) 1 < hI h 53 t ∧ hI h 53 t ≤ 8
    · rw [if_pos z] at h4
      obtain ⟨h6, h7, h8⟩ := gk_k h4
      repeat' (first | apply And.intro | (with_reducible assumption) | (intro h9; first | (exfalso; omega) | (simp only [rI_rI, rJ_rJ, hI_rI, hJ_rI, hI_rJ, hJ_rJ, hI_rR, hR_rI, hR_rJ, hN_rI, hN_rJ, svH_63, svH_66, rfH_63, wvH_63, wvH_62, wvH_67, wvH_68, wvH_69, sc_63, sc_n62, sc_n67, sc_n68, sc_n69, sc_n70, reduceIte, Nat.reduceEqDiff, eq_self, up_up, up_self, up_ne, ne_eq, not_false_eq_true, Int.reduceEq, Int.reduceNeg] at h9; first | (exfalso; omega) | skip) | skip) | refine Exists.intro w ?_ | exact hG | exact hW | exact h6 (by assumption) _ (by assumption) | exact h7 (by assumption) (by assumption) _ (by assumption) | exact h8 (by assumption) (by assumption) _ (by assumption) | exact h4 | exact h4 (by omega) | omega | exact True.intro | (simp only [rI_rI, rJ_rJ, hI_rI, hJ_rI, hI_rJ, hJ_rJ, hI_rR, hR_rI, hR_rJ, hN_rI, hN_rJ, svH_63, svH_66, rfH_63, wvH_63, wvH_62, wvH_67, wvH_68, wvH_69, sc_63, sc_n62, sc_n67, sc_n68, sc_n69, sc_n70, reduceIte, Nat.reduceEqDiff, eq_self, up_up, up_self, up_ne, ne_eq, not_false_eq_true, Int.reduceEq, Int.reduceNeg]; omega))
    · rw [if_neg z] at h4
      have h6 := h5 _ h4
      repeat' (first | apply And.intro | (with_reducible assumption) | (intro h9; first | (exfalso; omega) | (simp only [rI_rI, rJ_rJ, hI_rI, hJ_rI, hI_rJ, hJ_rJ, hI_rR, hR_rI, hR_rJ, hN_rI, hN_rJ, svH_63, svH_66, rfH_63, wvH_63, wvH_62, wvH_67, wvH_68, wvH_69, sc_63, sc_n62, sc_n67, sc_n68, sc_n69, sc_n70, reduceIte, Nat.reduceEqDiff, eq_self, up_up, up_self, up_ne, ne_eq, not_false_eq_true, Int.reduceEq, Int.reduceNeg] at h9; first | (exfalso; omega) | skip) | skip) | refine Exists.intro w ?_ | exact hG | exact hW | exact h6 | exact h4 | exact h4 (by omega) | omega | exact True.intro | (simp only [rI_rI, rJ_rJ, hI_rI, hJ_rI, hI_rJ, hJ_rJ, hI_rR, hR_rI, hR_rJ, hN_rI, hN_rJ, svH_63, svH_66, rfH_63, wvH_63, wvH_62, wvH_67, wvH_68, wvH_69, sc_63, sc_n62, sc_n67, sc_n68, sc_n69, sc_n70, reduceIte, Nat.reduceEqDiff, eq_self, up_up, up_self, up_ne, ne_eq, not_false_eq_true, Int.reduceEq, Int.reduceNeg]; omega))
  rw [if_neg c5] at h4
  have c6 : hI h 52 t = 24 := by omega
  rw [if_pos c6] at oc
  have q2 := o2 (by omega)
  have q3 := o3 (by omega)
  by_cases z : nd w (hI h 59 p) 1 = 1 ∧ nd w (hI h 59 (p + 1)) 1 = nd w (hI h 59 (p + 2)) 1
  · rw [if_pos z] at h4
    obtain ⟨h6, h7, h8⟩ := gk_k h4
    repeat' (first | apply And.intro | (with_reducible assumption) | (intro h9; first | (exfalso; omega) | (simp only [rI_rI, rJ_rJ, hI_rI, hJ_rI, hI_rJ, hJ_rJ, hI_rR, hR_rI, hR_rJ, hN_rI, hN_rJ, svH_63, svH_66, rfH_63, wvH_63, wvH_62, wvH_67, wvH_68, wvH_69, sc_63, sc_n62, sc_n67, sc_n68, sc_n69, sc_n70, reduceIte, Nat.reduceEqDiff, eq_self, up_up, up_self, up_ne, ne_eq, not_false_eq_true, Int.reduceEq, Int.reduceNeg] at h9; first | (exfalso; omega) | skip) | skip) | refine Exists.intro w ?_ | exact hG | exact hW | exact h6 (by assumption) _ (by assumption) | exact h7 (by assumption) (by assumption) _ (by assumption) | exact h8 (by assumption) (by assumption) _ (by assumption) | exact h4 | exact h4 (by omega) | omega | exact True.intro | (simp only [rI_rI, rJ_rJ, hI_rI, hJ_rI, hI_rJ, hJ_rJ, hI_rR, hR_rI, hR_rJ, hN_rI, hN_rJ, svH_63, svH_66, rfH_63, wvH_63, wvH_62, wvH_67, wvH_68, wvH_69, sc_63, sc_n62, sc_n67, sc_n68, sc_n69, sc_n70, reduceIte, Nat.reduceEqDiff, eq_self, up_up, up_self, up_ne, ne_eq, not_false_eq_true, Int.reduceEq, Int.reduceNeg]; omega))
  · rw [if_neg z] at h4
    have h6 := h5 _ h4
    repeat' (first | apply And.intro | (with_reducible assumption) | (intro h9; first | (exfalso; omega) | (simp only [rI_rI, rJ_rJ, hI_rI, hJ_rI, hI_rJ, hJ_rJ, hI_rR, hR_rI, hR_rJ, hN_rI, hN_rJ, svH_63, svH_66, rfH_63, wvH_63, wvH_62, wvH_67, wvH_68, wvH_69, sc_63, sc_n62, sc_n67, sc_n68, sc_n69, sc_n70, reduceIte, Nat.reduceEqDiff, eq_self, up_up, up_self, up_ne, ne_eq, not_false_eq_true, Int.reduceEq, Int.reduceNeg] at h9; first | (exfalso; omega) | skip) | skip) | refine Exists.intro w ?_ | exact hG | exact hW | exact h6 | exact h4 | exact h4 (by omega) | omega | exact True.intro | (simp only [rI_rI, rJ_rJ, hI_rI, hJ_rI, hI_rJ, hJ_rJ, hI_rR, hR_rI, hR_rJ, hN_rI, hN_rJ, svH_63, svH_66, rfH_63, wvH_63, wvH_62, wvH_67, wvH_68, wvH_69, sc_63, sc_n62, sc_n67, sc_n68, sc_n69, sc_n70, reduceIte, Nat.reduceEqDiff, eq_self, up_up, up_self, up_ne, ne_eq, not_false_eq_true, Int.reduceEq, Int.reduceNeg]; omega))
theorem m_X4_buildStep : MM 94 s_X4_buildStep := mm_of (own := 3) (by rfl) k_X4_buildStep (cl := [(7, s_X0_variableNode), (11, s_X0_makeConstant), (16, s_X0_makeChoice), (14, s_X0_makeSlice), (15, s_X0_makeExtended), (13, s_X0_makeUnary), (12, s_X0_makeBinary)]) ⟨m_X0_variableNode, m_X0_makeConstant, m_X0_makeChoice, m_X0_makeSlice, m_X0_makeExtended, m_X0_makeUnary, m_X0_makeBinary, trivial⟩ o_X4_buildStep

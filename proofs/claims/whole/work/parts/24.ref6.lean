/-! ===== the reference: variables, inputs, what is told of a node ===== -/
/-- the row with one variable more -/
def varN (w : Int → Int) (wd : Int) : Int → Int := up (up (newN (up w 281 (w 281 + 1)) 1 wd (-1) (-1) (-1) (w 281) (-1)) (282 + w 281) (w 0)) (286 + w 281) 0
theorem found_up {w : Int → Int} {k wd a b c x y j v : Int} (h0 : w 0 ≤ 40) (hj : 281 ≤ j) : found (up w j v) k wd a b c x y = found w k wd a b c x y := by
  unfold found
  rw [show up w j v 0 = w 0 from up_ne (by omega)]
  refine fst_congr fun n n0 n1 => ?_
  unfold same nd
  rw [up_ne (by omega), up_ne (by omega), up_ne (by omega), up_ne (by omega), up_ne (by omega), up_ne (by omega), up_ne (by omega)]
def s_X10_variable : CS := (zc 4, ap [(3, 62), (0, 0)] (fun wd h Rt X =>
(0 ≤ hI h 63 0 ∧ hI h 63 0 ≤ 40 ∧ 0 ≤ hI h 62 3 ∧ hI h 62 3 ≤ 5 ∧ Vz (hI h 63) ∧ 0 ≤ sumW (hI h 63) (hI h 63 281).toNat ∧ sumW (hI h 63) (hI h 63 281).toNat ≤ 16 ∧ found (hI h 63) 1 wd (-1) (-1) (-1) (hI h 63 281) (-1) = -1) ∧ (¬ (1 ≤ wd ∧ wd ≤ 8) → Rt (some (.inl 0)) (rfH h 1)) ∧
(1 ≤ wd ∧ wd ≤ 8 → (hI h 63 281 = 4 ∨ hI h 63 0 = 40 ∨ 16 < sumW (hI h 63) (hI h 63 281).toNat + wd) → Rt (some (.inl 0)) (rfH h 2)) ∧
(1 ≤ wd ∧ wd ≤ 8 → ¬ (hI h 63 281 = 4 ∨ hI h 63 0 = 40 ∨ 16 < sumW (hI h 63) (hI h 63 281).toNat + wd) → Rt (some (.inl (hI h 63 0))) (rI (svH (rfH h 0)) 63 (varN (hI h 63) wd)))))
set_option maxRecDepth 100000 in
set_option maxHeartbeats 4000000 in
theorem o_X10_variable : Obl true 1 4 (sp [(192, s_X10_within), (204, s_X10_bitsOfAll), (191, s_X10_refused), (194, s_X10_saves), (202, s_X10_makes)]) [] code_X10_variable s_X10_variable := by
  refine obl0 (by rfl) ?_
  intro wd r_wd h Rt X hh hf hs
  obtain ⟨⟨a1, a2, a3, a4, a5, a6, a7, a8⟩, h2, h3, h4⟩ := hs
  have b1 := a5.lo
  have b2 := a5.hi
  have e4 : found (hI (rI (svH (rI h 62 (up (hI h 62) 4 0))) 63 (up (hI (svH (rI h 62 (up (hI h 62) 4 0))) 63) 281 (hI (svH (rI h 62 (up (hI h 62) 4 0))) 63 281 + 1))) 63) 1 wd (-1) (-1) (-1) (hI (svH (rI h 62 (up (hI h 62) 4 0))) 63 281) (-1) = -1 := by
    simp only [rI_rI, rJ_rJ, hI_rI, hJ_rI, hI_rJ, hJ_rJ, hR_rI, hR_rJ, hN_rI, hN_rJ, reduceIte, Nat.reduceEqDiff, eq_self, up_up, up_self, up_ne, ne_eq, not_false_eq_true, Int.reduceEq, Int.reduceNeg, svH_63, rfH_63]
    rw [found_up a2 (by decide)]
    exact a8
  have e5 : hI (rI (svH (rI h 62 (up (hI h 62) 4 0))) 63 (up (hI (svH (rI h 62 (up (hI h 62) 4 0))) 63) 281 (hI (svH (rI h 62 (up (hI h 62) 4 0))) 63 281 + 1))) 63 0 = hI h 63 0 := rfl
  have e6 : hI (svH (rI h 62 (up (hI h 62) 4 0))) 63 281 = hI h 63 281 := rfl
  repeat' (first | apply And.intro | (intro _; try (exfalso; omega)) | exact a5 | exact h2 (by omega) | exact h3 (by omega) (by omega) | (refine rt_eq (h4 (by omega) (by omega)) ?_ ?_; (simp only [rI_rI, rJ_rJ, hI_rI, hJ_rI, hI_rJ, hJ_rJ, hR_rI, hR_rJ, hN_rI, hN_rJ, reduceIte, Nat.reduceEqDiff, eq_self, up_up, up_self, up_ne, ne_eq, not_false_eq_true, Int.reduceEq, Int.reduceNeg, svH_63, rfH_63]; rw [up_ne (by omega), up_self]); (unfold varN rfH; simp only [rI_rI, rJ_rJ, hI_rI, hJ_rI, hI_rJ, hJ_rJ, hR_rI, hR_rJ, hN_rI, hN_rJ, reduceIte, Nat.reduceEqDiff, eq_self, up_up, up_self, up_ne, ne_eq, not_false_eq_true, Int.reduceEq, Int.reduceNeg, svH_63, rfH_63])) | exact h2 | exact h2 (by omega) | exact h3 | exact h3 (by omega) | exact h4 | exact h4 (by omega) | omega | (simp only [rI_rI, rJ_rJ, hI_rI, hJ_rI, hI_rJ, hJ_rJ, hR_rI, hR_rJ, hN_rI, hN_rJ, reduceIte, Nat.reduceEqDiff, eq_self, up_up, up_self, up_ne, ne_eq, not_false_eq_true, Int.reduceEq, Int.reduceNeg, svH_63, rfH_63]; omega))
theorem m_X10_variable : MM 205 s_X10_variable := mm_of (own := 9) (by rfl) k_X10_variable (cl := [(192, s_X10_within), (204, s_X10_bitsOfAll), (191, s_X10_refused), (194, s_X10_saves), (202, s_X10_makes)]) ⟨m_X10_within, m_X10_bitsOfAll, m_X10_refused, m_X10_saves, m_X10_makes, trivial⟩ o_X10_variable

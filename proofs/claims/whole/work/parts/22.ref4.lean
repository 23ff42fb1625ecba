/-! ===== the reference: nodes made behind a saved state ===== -/
def rfH (h : Hp) (x : Int) : Hp := rI h 62 (up (hI h 62) 4 x)
theorem svH_63 (h : Hp) : hI (svH h) 63 = hI h 63 := rfl
theorem svH_66 (h : Hp) : hI (svH h) 66 = hI h 66 := rfl
theorem rfH_63 (h : Hp) (x : Int) : hI (rfH h x) 63 = hI h 63 := rfl
theorem up_id {α : Type} (f : Int → α) (k : Int) : up f k (f k) = f := by
  funext j
  unfold up
  by_cases e : j = k
  · rw [if_pos e, e]
  · rw [if_neg e]
theorem md1 (h : Hp) : rI (rI h 62 (up (hI h 62) 4 0)) 63 (up (hI (rI h 62 (up (hI h 62) 4 0)) 63) 0 (hI h 63 0)) = rfH h 0 := by
  have e1 : up (hI (rI h 62 (up (hI h 62) 4 0)) 63) 0 (hI h 63 0) = hI (rI h 62 (up (hI h 62) 4 0)) 63 := up_id _ _
  rw [e1, rI_id]
  rfl
/-- the row as it is saved with a node that comes: the node's fields stand there, it isn't counted -/
def preN (w : Int → Int) (k wd a b c x y : Int) : Int → Int := up (newN w k wd a b c x y) 0 (w 0)
theorem preN_0 (w : Int → Int) (k wd a b c x y : Int) : preN w k wd a b c x y 0 = w 0 := by unfold preN up; rw [if_pos rfl]
theorem preN_nd (w : Int → Int) (k wd a b c x y : Int) {n j : Int} (h0 : 0 ≤ n) (hn : n < w 0) (hj : 0 ≤ j) (hj7 : j < 7) : nd (preN w k wd a b c x y) n j = nd w n j := by
  unfold nd preN up newN
  rw [if_neg (by omega), if_neg (by omega), if_neg (by omega), if_neg (by omega), if_neg (by omega), if_neg (by omega), if_neg (by omega), if_neg (by omega), if_neg (by omega)]
theorem preN_found (w : Int → Int) (k wd a b c x y : Int) : found (preN w k wd a b c x y) k wd a b c x y = found w k wd a b c x y := by
  unfold found
  rw [preN_0]
  refine fst_congr fun j h0 h1 => ?_
  unfold same
  rw [preN_nd _ _ _ _ _ _ _ _ h0 (by omega) (by decide) (by decide), preN_nd _ _ _ _ _ _ _ _ h0 (by omega) (by decide) (by decide), preN_nd _ _ _ _ _ _ _ _ h0 (by omega) (by decide) (by decide), preN_nd _ _ _ _ _ _ _ _ h0 (by omega) (by decide) (by decide), preN_nd _ _ _ _ _ _ _ _ h0 (by omega) (by decide) (by decide), preN_nd _ _ _ _ _ _ _ _ h0 (by omega) (by decide) (by decide), preN_nd _ _ _ _ _ _ _ _ h0 (by omega) (by decide) (by decide)]
theorem preN_new (w : Int → Int) (k wd a b c x y : Int) : newN (preN w k wd a b c x y) k wd a b c x y = newN w k wd a b c x y := by
  funext j
  unfold newN
  rw [preN_0]
  unfold preN up newN
  by_cases e0 : j = 0
  · rw [if_pos e0, if_pos e0]
  · rw [if_neg e0, if_neg e0]
    repeat' split
    all_goals first | rfl | omega
/-- the heap behind a node made: found (the state is saved alone), or new -/
def mdF (h : Hp) : Hp := svH (rfH h 0)
def mdN (h : Hp) (k wd a b c x y : Int) : Hp := rI (svH (rI (rfH h 0) 63 (preN (hI h 63) k wd a b c x y))) 63 (newN (hI h 63) k wd a b c x y)
theorem md2 (h : Hp) (k wd a b c x y : Int) : rI (rI (rI h 63 (newN (hI h 63) k wd a b c x y)) 62 (up (hI (rI h 63 (newN (hI h 63) k wd a b c x y)) 62) 4 0)) 63 (up (hI (rI (rI h 63 (newN (hI h 63) k wd a b c x y)) 62 (up (hI (rI h 63 (newN (hI h 63) k wd a b c x y)) 62) 4 0)) 63) 0 (hI h 63 0)) = rI (rfH h 0) 63 (preN (hI h 63) k wd a b c x y) := by
  unfold rfH preN
  simp only [rI_rI, rJ_rJ, hI_rI, hJ_rI, hI_rJ, hJ_rJ, hR_rI, hR_rJ, hN_rI, hN_rJ, reduceIte, Nat.reduceEqDiff, eq_self, up_up, up_self, up_ne, ne_eq, not_false_eq_true, Int.reduceEq, Int.reduceNeg, svH_63, rfH_63]
  rw [rI_comm _ (by decide : (63 : Nat) ≠ 62)]
  simp only [rI_rI, rJ_rJ, hI_rI, hJ_rI, hI_rJ, hJ_rJ, hR_rI, hR_rJ, hN_rI, hN_rJ, reduceIte, Nat.reduceEqDiff, eq_self, up_up, up_self, up_ne, ne_eq, not_false_eq_true, Int.reduceEq, Int.reduceNeg, svH_63, rfH_63]
def s_X10_madeBy : CS := (zc 4, ap [(3, 62), (0, 0), (0, 0), (0, 0), (0, 0), (0, 0), (0, 0), (0, 0), (0, 0)] (fun q k wd a b c x y h Rt X =>
(0 ≤ hI h 63 0 ∧ hI h 63 0 ≤ 40 ∧ 0 ≤ hI h 62 3 ∧ hI h 62 3 ≤ 5 ∧ 0 < q) ∧ (found (hI h 63) k wd a b c x y ≠ -1 → Rt (some (.inl (found (hI h 63) k wd a b c x y))) (mdF h)) ∧ (found (hI h 63) k wd a b c x y = -1 → hI h 63 0 = 40 → Rt (some (.inl 0)) (rfH h q)) ∧
(found (hI h 63) k wd a b c x y = -1 → hI h 63 0 < 40 → Rt (some (.inl (hI h 63 0))) (mdN h k wd a b c x y))))
set_option maxRecDepth 100000 in
set_option maxHeartbeats 4000000 in
theorem o_X10_madeBy : Obl true 1 11 (sp [(202, s_X10_makes), (191, s_X10_refused), (194, s_X10_saves)]) [] code_X10_madeBy s_X10_madeBy := by
  refine obl0 (by rfl) ?_
  intro q r_q k r_k wd r_wd a r_a b r_b c r_c x r_x y r_y h Rt X hh hf hs
  obtain ⟨⟨a1, a2, a3, a4, a5⟩, h2, h3, h4⟩ := hs
  have e1 := md1 h
  have e2 := md2 h k wd a b c x y
  have e3 : found (hI (svH (rI (rI h 62 (up (hI h 62) 4 0)) 63 (up (hI (rI h 62 (up (hI h 62) 4 0)) 63) 0 (hI h 63 0)))) 63) k wd a b c x y = found (hI h 63) k wd a b c x y := by rw [e1]; rfl
  have e4 : found (hI (svH (rI (rI (rI h 63 (newN (hI h 63) k wd a b c x y)) 62 (up (hI (rI h 63 (newN (hI h 63) k wd a b c x y)) 62) 4 0)) 63 (up (hI (rI (rI h 63 (newN (hI h 63) k wd a b c x y)) 62 (up (hI (rI h 63 (newN (hI h 63) k wd a b c x y)) 62) 4 0)) 63) 0 (hI h 63 0)))) 63) k wd a b c x y = found (hI h 63) k wd a b c x y := by rw [e2, svH_63]; exact preN_found (hI h 63) k wd a b c x y
  have e5 : hI (svH (rI (rI (rI h 63 (newN (hI h 63) k wd a b c x y)) 62 (up (hI (rI h 63 (newN (hI h 63) k wd a b c x y)) 62) 4 0)) 63 (up (hI (rI (rI h 63 (newN (hI h 63) k wd a b c x y)) 62 (up (hI (rI h 63 (newN (hI h 63) k wd a b c x y)) 62) 4 0)) 63) 0 (hI h 63 0)))) 63 0 = hI h 63 0 := by rw [e2, svH_63]; exact preN_0 (hI h 63) k wd a b c x y
  have e6 : hI (svH (rI (rI h 62 (up (hI h 62) 4 0)) 63 (up (hI (rI h 62 (up (hI h 62) 4 0)) 63) 0 (hI h 63 0)))) 63 0 = hI h 63 0 := by rw [e1]; rfl
  have e7 : hI (rI (rI h 62 (up (hI h 62) 4 0)) 63 (up (hI (rI h 62 (up (hI h 62) 4 0)) 63) 0 (hI h 63 0))) 62 3 = hI h 62 3 := rfl
  have e8 : hI (rI (rI (rI h 63 (newN (hI h 63) k wd a b c x y)) 62 (up (hI (rI h 63 (newN (hI h 63) k wd a b c x y)) 62) 4 0)) 63 (up (hI (rI (rI h 63 (newN (hI h 63) k wd a b c x y)) 62 (up (hI (rI h 63 (newN (hI h 63) k wd a b c x y)) 62) 4 0)) 63) 0 (hI h 63 0))) 62 3 = hI h 62 3 := rfl
  repeat' (first | apply And.intro | (intro _; try (exfalso; omega)) | exact h3 (by omega) (by omega) | (refine rt_eq (h2 (by omega)) ?_ ?_; (rw [e3]); (rw [e1]; rfl)) | (refine rt_eq (h4 (by omega) (by omega)) ?_ ?_; (rw [e5]); (rw [e2]; unfold mdN; rw [svH_63, hI_rI, if_pos rfl, preN_new])) | exact h2 | exact h2 (by omega) | exact h3 | exact h3 (by omega) | exact h4 | exact h4 (by omega) | omega | (simp only [rI_rI, rJ_rJ, hI_rI, hJ_rI, hI_rJ, hJ_rJ, hR_rI, hR_rJ, hN_rI, hN_rJ, reduceIte, Nat.reduceEqDiff, eq_self, up_up, up_self, up_ne, ne_eq, not_false_eq_true, Int.reduceEq, Int.reduceNeg, svH_63, rfH_63]; omega))
theorem m_X10_madeBy : MM 203 s_X10_madeBy := mm_of (own := 9) (by rfl) k_X10_madeBy (cl := [(202, s_X10_makes), (191, s_X10_refused), (194, s_X10_saves)]) ⟨m_X10_makes, m_X10_refused, m_X10_saves, trivial⟩ o_X10_madeBy

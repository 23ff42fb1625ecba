/-! ===== the reference: nodes made behind a saved state ===== -/
def rfH (h : Hp) (x : Int) : Hp := rI h 62 (up (hI h 62) 4 x)
theorem svH_63 (h : Hp) : hI (svH h) 63 = hI h 63 := rfl
theorem svH_66 (h : Hp) : hI (svH h) 66 = hI h 66 := rfl
theorem rfH_63 (h : Hp) (x : Int) : hI (rfH h x) 63 = hI h 63 := rfl
theorem up_id {α : Type} (f : Int → α) (k : Int) : up f k (f k) = f := by
  funext j
  unfold up
  by_cases e : j = k
  · rw [if_pos e, e]
  · rw [if_neg e]
theorem md1 (h : Hp) : rI (rI h 62 (up (hI h 62) 4 0)) 63 (up (hI (rI h 62 (up (hI h 62) 4 0)) 63) 0 (hI h 63 0)) = rfH h 0 := by
  have e1 : up (hI (rI h 62 (up (hI h 62) 4 0)) 63) 0 (hI h 63 0) = hI (rI h 62 (up (hI h 62) 4 0)) 63 := up_id _ _
  rw [e1, rI_id]
  rfl
/-- the row as it is saved with a node that comes: the node's fields stand there, it isn't counted -/
def preN (w : Int → Int) (k wd a b c x y : Int) : Int → Int := up (newN w k wd a b c x y) 0 (w 0)
theorem preN_0 (w : Int → Int) (k wd a b c x y : Int) : preN w k wd a b c x y 0 = w 0 := by unfold preN up; rw [if_pos rfl]
theorem preN_nd (w : Int → Int) (k wd a b c x y : Int) {n j : Int} (h0 : 0 ≤ n) (hn : n < w 0) (hj : 0 ≤ j) (hj7 : j < 7) : nd (preN w k wd a b c x y) n j = nd w n j := by
  unfold nd preN up newN
  rw [if_neg (by omega), if_neg (by omega), if_neg (by omega), if_neg (by omega), if_neg (by omega), if_neg (by omega), if_neg (by omega), if_neg (by omega), if_neg (by omega)]
theorem preN_found (w : Int → Int) (k wd a b c x y : Int) : found (preN w k wd a b c x y) k wd a b c x y = found w k wd a b c x y := by
  unfold found
  rw [preN_0]
  refine fst_congr fun j h0 h1 => ?_
  unfold same
  rw [preN_nd _ _ _ _ _ _ _ _ h0 (by omega) (by decide) (by decide), preN_nd _ _ _ _ _ _ _ _ h0 (by omega) (by decide) (by decide), preN_nd _ _ _ _ _ _ _ _ h0 (by omega) (by decide) (by decide), preN_nd _ _ _ _ _ _ _ _ h0 (by omega) (by decide) (by decide), preN_nd _ _ _ _ _ _ _ _ h0 (by omega) (by decide) (by decide), preN_nd _ _ _ _ _ _ _ _ h0 (by omega) (by decide) (by decide), preN_nd _ _ _ _ _ _ _ _ h0 (by omega) (by decide) (by decide)]
theorem preN_new (w : Int → Int) (k wd a b c x y : Int) : newN (preN w k wd a b c x y) k wd a b c x y = newN w k wd a b c x y := by
  funext j
  unfold newN
  rw [preN_0]
  unfold preN up newN
  by_cases e0 : j = 0
  · rw [if_pos e0, if_pos e0]
  · rw [if_neg e0, if_neg e0]
    repeat' split
    all_goals first | rfl | omega
/-- the heap behind a node made: found (the state is saved alone), or new -/
def mdF (h : Hp) : Hp := svH (rfH h 0)
def mdN (h : Hp) (k wd a b c x y : Int) : Hp := rI (svH (rI (rfH h 0) 63 (preN (hI h 63) k wd a b c x y))) 63 (newN (hI h 63) k wd a b c x y)
theorem md2 (h : Hp) (k wd a b c x y : Int) : rI (rI (rI h 63 (newN (hI h 63) k wd a b c x y)) 62 (up (hI (rI h 63 (newN (hI h 63) k wd a b c x y)) 62) 4 0)) 63 (up (hI (rI (rI h 63 (newN (hI h 63) k wd a b c x y)) 62 (up (hI (rI h 63 (newN (hI h 63) k wd a b c x y)) 62) 4 0)) 63) 0 (hI h 63 0)) = rI (rfH h 0) 63 (preN (hI h 63) k wd a b c x y) := by
  unfold rfH preN
  simp only [rI_rI, rJ_rJ, hI_rI, hJ_rI, hI_rJ, hJ_rJ, hR_rI, hR_rJ, hN_rI, hN_rJ, reduceIte, Nat.reduceEqDiff, eq_self, up_up, up_self, up_ne, ne_eq, not_false_eq_true, Int.reduceEq, Int.reduceNeg, svH_63, rfH_63]
  rw [rI_comm _ (by decide : (63 : Nat) ≠ 62)]
  simp only [rI_rI, rJ_rJ, hI_rI, hJ_rI, hI_rJ, hJ_rJ, hR_rI, hR_rJ, hN_rI, hN_rJ, reduceIte, Nat.reduceEqDiff, eq_self, up_up, up_self, up_ne, ne_eq, not_false_eq_true, Int.reduceEq, Int.reduceNeg, svH_63, rfH_63]
/-! ===== the reference: variables, inputs, what is told of a node ===== -/
/-- the row with one variable more -/
def varN (w : Int → Int) (wd : Int) : Int → Int := up (up (newN (up w 281 (w 281 + 1)) 1 wd (-1) (-1) (-1) (w 281) (-1)) (282 + w 281) (w 0)) (286 + w 281) 0
theorem found_up {w : Int → Int} {k wd a b c x y j v : Int} (h0 : w 0 ≤ 40) (hj : 281 ≤ j) : found (up w j v) k wd a b c x y = found w k wd a b c x y := by
  unfold found
  rw [show up w j v 0 = w 0 from up_ne (by omega)]
  refine fst_congr fun n n0 n1 => ?_
  unfold same nd
  rw [up_ne (by omega), up_ne (by omega), up_ne (by omega), up_ne (by omega), up_ne (by omega), up_ne (by omega), up_ne (by omega)]
/-! ===== the reference: nodes made ===== -/
/-- the first number below k for which P holds, or -1 -/
def fst (P : Int → Bool) : Nat → Int
  | 0 => -1
  | k + 1 => if fst P k = -1 then (if P k then (k : Int) else -1) else fst P k
theorem fst_miss {P : Int → Bool} {i : Int} (h0 : 0 ≤ i) (h : fst P i.toNat = -1) (hp : P i = false) : fst P (i + 1).toNat = -1 := by
  rw [show (i + 1).toNat = i.toNat + 1 from by omega]
  unfold fst
  rw [if_pos h, show ((i.toNat : Nat) : Int) = i from by omega, hp]
  rfl
theorem fst_stay {P : Int → Bool} {k : Nat} {n : Int} (h : fst P k = n) (hn : n ≠ -1) : ∀ j, k ≤ j → fst P j = n := by
  intro j hj
  induction j with
  | zero =>
    have : k = 0 := by omega
    rw [this] at h
    exact h
  | succ j ih =>
    by_cases e : k = j + 1
    · rw [← e]; exact h
    · unfold fst
      rw [ih (by omega), if_neg hn]
theorem fst_hit {P : Int → Bool} {i N : Int} (h0 : 0 ≤ i) (hN : i < N) (h : fst P i.toNat = -1) (hp : P i = true) : fst P N.toNat = i := by
  refine fst_stay (k := (i + 1).toNat) ?_ (by omega) _ (by omega)
  rw [show (i + 1).toNat = i.toNat + 1 from by omega]
  unfold fst
  rw [if_pos h, show ((i.toNat : Nat) : Int) = i from by omega, hp]
  rfl
theorem fst_none {P : Int → Bool} {k : Nat} : fst P k = -1 ↔ ∀ j : Nat, j < k → P j = false := by
  induction k with
  | zero => exact ⟨fun _ j hj => by omega, fun _ => rfl⟩
  | succ k ih =>
    constructor
    · intro h j hj
      unfold fst at h
      split at h
      · rename_i e
        by_cases e2 : j = k
        · subst e2
          cases hp : P j with
          | false => rfl
          | true => rw [hp] at h; simp at h
        · exact ih.mp e j (by omega)
      · rename_i e
        exact absurd h e
    · intro h
      unfold fst
      rw [if_pos (ih.mpr fun j hj => h j (by omega)), h k (by omega)]
      rfl
theorem fst_some {P : Int → Bool} {k : Nat} (h : fst P k ≠ -1) : 0 ≤ fst P k ∧ fst P k < k ∧ P (fst P k) = true ∧ ∀ j : Int, 0 ≤ j → j < fst P k → P j = false := by
  induction k with
  | zero => exact absurd rfl h
  | succ k ih =>
    by_cases e : fst P k = -1
    · have e2 : fst P (k + 1) = (if P k then (k : Int) else -1) := by
        show (if fst P k = -1 then (if P k then (k : Int) else -1) else fst P k) = _
        rw [if_pos e]
      rw [e2] at h ⊢
      cases hp : P k with
      | false => rw [hp] at h; simp at h
      | true =>
        refine ⟨by simp, by simp; omega, by simpa using hp, fun j h0 h1 => ?_⟩
        have := fst_none.mp e j.toNat (by simp at h1; omega)
        rw [show ((j.toNat : Nat) : Int) = j from by omega] at this
        exact this
    · have e2 : fst P (k + 1) = fst P k := by
        show (if fst P k = -1 then (if P k then (k : Int) else -1) else fst P k) = _
        rw [if_neg e]
      rw [e2] at h ⊢
      obtain ⟨h1, h2, h3, h4⟩ := ih e
      exact ⟨h1, by omega, h3, h4⟩
theorem fst_congr {P Q : Int → Bool} {k : Nat} (h : ∀ j : Int, 0 ≤ j → j < k → P j = Q j) : fst P k = fst Q k := by
  induction k with
  | zero => rfl
  | succ k ih =>
    unfold fst
    rw [ih fun j h0 h1 => h j h0 (by omega), h k (by omega) (by omega)]
/-- a node is of this kind, width, operands and numbers -/
def same (w : Int → Int) (k wd a b c x y : Int) (n : Int) : Bool := decide (nd w n 0 = k ∧ nd w n 1 = wd ∧ nd w n 2 = a ∧ nd w n 3 = b ∧ nd w n 4 = c ∧ nd w n 5 = x ∧ nd w n 6 = y)
def found (w : Int → Int) (k wd a b c x y : Int) : Int := fst (same w k wd a b c x y) (w 0).toNat
/-- the row with one node more -/
def newN (w : Int → Int) (k wd a b c x y : Int) : Int → Int := fun j => if j = 0 then w 0 + 1 else if j = 1 + 7 * w 0 then k else if j = 1 + 7 * w 0 + 1 then wd else if j = 1 + 7 * w 0 + 2 then a else if j = 1 + 7 * w 0 + 3 then b else if j = 1 + 7 * w 0 + 4 then c else if j = 1 + 7 * w 0 + 5 then x else if j = 1 + 7 * w 0 + 6 then y else w j
theorem newN_up (w : Int → Int) (k wd a b c x y : Int) (h : 0 ≤ w 0) : up (up (up (up (up (up (up (up w (1 + 7 * w 0) k) (1 + 7 * w 0 + 1) wd) (1 + 7 * w 0 + 2) a) (1 + 7 * w 0 + 3) b) (1 + 7 * w 0 + 4) c) (1 + 7 * w 0 + 5) x) (1 + 7 * w 0 + 6) y) 0 (w 0 + 1) = newN w k wd a b c x y := by
  funext j
  unfold up newN
  by_cases e0 : j = 0
  · rw [if_pos e0, if_pos e0]
  rw [if_neg e0, if_neg e0]
  by_cases e1 : j = 1 + 7 * w 0
  · rw [if_neg (by omega), if_neg (by omega), if_neg (by omega), if_neg (by omega), if_neg (by omega), if_neg (by omega), if_pos e1, if_pos e1]
  by_cases e2 : j = 1 + 7 * w 0 + 1
  · rw [if_neg (by omega), if_neg (by omega), if_neg (by omega), if_neg (by omega), if_neg (by omega), if_pos e2, if_neg (by omega), if_pos e2]
  by_cases e3 : j = 1 + 7 * w 0 + 2
  · rw [if_neg (by omega), if_neg (by omega), if_neg (by omega), if_neg (by omega), if_pos e3, if_neg (by omega), if_neg (by omega), if_pos e3]
  by_cases e4 : j = 1 + 7 * w 0 + 3
  · rw [if_neg (by omega), if_neg (by omega), if_neg (by omega), if_pos e4, if_neg (by omega), if_neg (by omega), if_neg (by omega), if_pos e4]
  by_cases e5 : j = 1 + 7 * w 0 + 4
  · rw [if_neg (by omega), if_neg (by omega), if_pos e5, if_neg (by omega), if_neg (by omega), if_neg (by omega), if_neg (by omega), if_pos e5]
  by_cases e6 : j = 1 + 7 * w 0 + 5
  · rw [if_neg (by omega), if_pos e6, if_neg (by omega), if_neg (by omega), if_neg (by omega), if_neg (by omega), if_neg (by omega), if_pos e6]
  by_cases e7 : j = 1 + 7 * w 0 + 6
  · rw [if_pos e7, if_neg (by omega), if_neg (by omega), if_neg (by omega), if_neg (by omega), if_neg (by omega), if_neg (by omega), if_pos e7]
  rw [if_neg (by omega), if_neg (by omega), if_neg (by omega), if_neg (by omega), if_neg (by omega), if_neg (by omega), if_neg (by omega), if_neg (by omega), if_neg (by omega), if_neg (by omega), if_neg (by omega), if_neg (by omega), if_neg (by omega), if_neg e7]
/-- the row as it was saved last -/
def unW (h : Hp) (i : Int) : Int → Int := fun j => if 0 ≤ j ∧ j < i then hI h 64 (349 * (hI h 62 3 - 1) + j) else hI h 63 j
theorem unW_0 (h : Hp) : unW h 0 = hI h 63 := by
  funext j
  unfold unW
  rw [if_neg (by omega)]
theorem unW_step (h : Hp) {i : Int} (h0 : 0 ≤ i) : up (unW h i) i (hI h 64 (349 * (hI h 62 3 - 1) + i)) = unW h (i + 1) := by
  funext j
  unfold up unW
  by_cases e : j = i
  · subst e
    rw [if_pos rfl, if_pos (by omega)]
  · rw [if_neg e]
    by_cases e2 : 0 ≤ j ∧ j < i
    · rw [if_pos e2, if_pos (by omega)]
    · rw [if_neg e2, if_neg (by omega)]
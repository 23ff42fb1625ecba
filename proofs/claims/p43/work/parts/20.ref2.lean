/-! ===== the reference: what is saved and brought back ===== -/
theorem rI_rI (h : Hp) (a : Nat) (f g : Int → Int) : rI (rI h a f) a g = rI h a g := by
  unfold rI
  congr 2
  funext b
  by_cases e : b = a
  · simp [e]
  · simp [e]
theorem rJ_rJ (h : Hp) (a : Nat) (f g : Int → Int64) : rJ (rJ h a f) a g = rJ h a g := by
  unfold rJ
  congr 3
  funext b
  by_cases e : b = a
  · simp [e]
  · simp [e]
theorem rI_comm (h : Hp) {a b : Nat} (e : a ≠ b) (f g : Int → Int) : rI (rI h a f) b g = rI (rI h b g) a f := by
  unfold rI
  congr 2
  funext c
  by_cases e1 : c = a
  · subst e1; simp [e]
  · simp [e1]
theorem rI_id (h : Hp) (a : Nat) : rI h a (hI h a) = h := by
  unfold rI hI
  have : (fun b => if b = a then h.2.1 a else h.2.1 b) = h.2.1 := by
    funext b
    by_cases e : b = a
    · subst e; simp
    · simp [e]
  rw [this]
theorem rJ_id (h : Hp) (a : Nat) : rJ h a (hJ h a) = h := by
  unfold rJ hJ
  have : (fun b => if b = a then h.2.2.1 a else h.2.2.1 b) = h.2.2.1 := by
    funext b
    by_cases e : b = a
    · subst e; simp
    · simp [e]
  rw [this]
theorem rt_eq {Rt : Option AV → Hp → Prop} {r r' : Option AV} {h h' : Hp} (hs : Rt r' h') (e1 : r' = r) (e2 : h' = h) : Rt r h := e1 ▸ e2 ▸ hs
theorem up_ne {α : Type} {f : Int → α} {k : Int} {x : α} {j : Int} (h : j ≠ k) : up f k x j = f j := by
  unfold up
  rw [if_neg h]
theorem up_up {α : Type} (f : Int → α) (k : Int) (x y : α) : up (up f k x) k y = up f k y := by
  funext j
  unfold up
  by_cases e : j = k
  · simp [e]
  · simp [e]
theorem up_comm {α : Type} (f : Int → α) {k j : Int} (e : k ≠ j) (x y : α) : up (up f k x) j y = up (up f j y) k x := by
  funext i
  unfold up
  by_cases e1 : i = k
  · subst e1; simp [e]
  · simp [e1]
/-- the saved rows, the oldest of them fallen away as far as the place i -/
def pSh (p : Int → Int) (i : Int) : Int → Int := fun j => if 0 ≤ j ∧ j < i then p (j + 349) else p j
/-- a row put among the saved ones, as far as its place i -/
def pPut (p : Int → Int) (s : Int) (w : Int → Int) (i : Int) : Int → Int := fun j => if 349 * s ≤ j ∧ j < 349 * s + i then w (j - 349 * s) else p j
theorem pSh_0 (p : Int → Int) : pSh p 0 = p := by
  funext j
  unfold pSh
  rw [if_neg (by omega)]
theorem pSh_step (p : Int → Int) {i : Int} (h : 0 ≤ i) : up (pSh p i) i (pSh p i (i + 349)) = pSh p (i + 1) := by
  funext j
  unfold up pSh
  by_cases e : j = i
  · subst e
    rw [if_pos rfl, if_neg (by omega), if_pos (by omega)]
  · rw [if_neg e]
    by_cases e2 : 0 ≤ j ∧ j < i
    · rw [if_pos e2, if_pos (by omega)]
    · rw [if_neg e2, if_neg (by omega)]
theorem pPut_0 (p : Int → Int) (s : Int) (w : Int → Int) : pPut p s w 0 = p := by
  funext j
  unfold pPut
  rw [if_neg (by omega)]
theorem pPut_step (p : Int → Int) (s : Int) (w : Int → Int) {i : Int} (h : 0 ≤ i) : up (pPut p s w i) (349 * s + i) (w i) = pPut p s w (i + 1) := by
  funext j
  unfold up pPut
  by_cases e : j = 349 * s + i
  · subst e
    rw [if_pos rfl, if_pos (by omega)]
    congr 1
    omega
  · rw [if_neg e]
    by_cases e2 : 349 * s ≤ j ∧ j < 349 * s + i
    · rw [if_pos e2, if_pos (by omega)]
    · rw [if_neg e2, if_neg (by omega)]
/-- the saved rows and the fields behind a save -/
def svP (h : Hp) : Int → Int := if hI h 62 3 = 5 then pPut (pSh (hI h 64) 1396) 4 (hI h 63) 349 else pPut (hI h 64) (hI h 62 3) (hI h 63) 349
def svF (h : Hp) : Int → Int := up (up (hI h 62) 3 (if hI h 62 3 = 5 then 5 else hI h 62 3 + 1)) 10 1
def svH (h : Hp) : Hp := rI (rI h 64 (svP h)) 62 (svF h)
/-! ===== what a node's value is ===== -/
def Box (P : Prop) : Prop := ∃ _ : Unit, P
theorem Box.i {P : Prop} (h : P) : Box P := ⟨(), h⟩
theorem Box.o {P : Prop} (h : Box P) : P := by obtain ⟨_, h⟩ := h; exact h
/-- the value of a node of a kind and width: by the widths and values of its operands, its number, its lowest bit -/
def opV (k wd wa wb a b c x lo : Int) (env : Int → Int) : Int :=
  if k = 0 then x else if k = 1 then env x else if k = 2 then (a + b) % p2 wd else if k = 3 then (a - b) % p2 wd else if k = 4 then a * b % p2 wd
  else if k = 5 then bAnd a b else if k = 6 then bOr a b else if k = 7 then bXor a b else if k ≤ 10 then shfW k a b wd
  else if k = 11 then (if b = 0 then p2 wd - 1 else a / b) else if k = 12 then (if b = 0 then a else a % b) else if k ≤ 17 then cmpW k a b wa
  else if k = 18 then a * p2 wb + b else if k = 19 then (-a - 1) % p2 wd else if k = 20 then -a % p2 wd else if k = 21 then a / p2 lo % p2 wd
  else if k = 22 then a else if k = 23 then sgn a wa % p2 wd else if a = 1 then b else c
def nV (w env f : Int → Int) (n : Int) : Int := opV (nd w n 0) (nd w n 1) (nd w (nd w n 2) 1) (nd w (nd w n 3) 1) (f (nd w n 2)) (f (nd w n 3)) (f (nd w n 4)) (nd w n 5) (nd w n 6) env
/-- a node is as it may be -/
def WFn (w : Int → Int) (n : Int) : Prop := Box ((0 ≤ nd w n 0 ∧ nd w n 0 ≤ 24 ∧ 1 ≤ nd w n 1 ∧ nd w n 1 ≤ 8) ∧ (-1 ≤ nd w n 2 ∧ nd w n 2 < n ∧ -1 ≤ nd w n 3 ∧ nd w n 3 < n ∧ -1 ≤ nd w n 4 ∧ nd w n 4 < n) ∧
  (nd w n 0 ≤ 1 → nd w n 2 = -1 ∧ nd w n 3 = -1 ∧ nd w n 4 = -1 ∧ nd w n 6 = -1) ∧ (nd w n 0 = 0 → 0 ≤ nd w n 5 ∧ nd w n 5 < p2 (nd w n 1)) ∧ (nd w n 0 = 1 → 0 ≤ nd w n 5 ∧ nd w n 5 < w 281 ∧ w (282 + nd w n 5) = n) ∧
  (2 ≤ nd w n 0 → 0 ≤ nd w n 2) ∧ ((2 ≤ nd w n 0 ∧ nd w n 0 ≤ 18) ∨ nd w n 0 = 24 → 0 ≤ nd w n 3) ∧ (nd w n 0 = 24 → 0 ≤ nd w n 4) ∧ (2 ≤ nd w n 0 → nd w n 0 ≠ 21 → nd w n 5 = -1 ∧ nd w n 6 = -1) ∧ (nd w n 0 ≠ 24 → nd w n 4 = -1) ∧ (19 ≤ nd w n 0 → nd w n 0 ≤ 23 → nd w n 3 = -1) ∧
  (2 ≤ nd w n 0 → nd w n 0 ≤ 12 → nd w (nd w n 2) 1 = nd w n 1 ∧ nd w (nd w n 3) 1 = nd w n 1) ∧ (13 ≤ nd w n 0 → nd w n 0 ≤ 17 → nd w n 1 = 1 ∧ nd w (nd w n 2) 1 = nd w (nd w n 3) 1) ∧ (nd w n 0 = 18 → nd w n 1 = nd w (nd w n 2) 1 + nd w (nd w n 3) 1) ∧
  (nd w n 0 = 19 ∨ nd w n 0 = 20 → nd w (nd w n 2) 1 = nd w n 1) ∧ (nd w n 0 = 21 → 0 ≤ nd w n 6 ∧ nd w n 6 ≤ nd w n 5 ∧ nd w n 5 < nd w (nd w n 2) 1 ∧ nd w n 1 = nd w n 5 - nd w n 6 + 1) ∧ (nd w n 0 = 22 ∨ nd w n 0 = 23 → nd w (nd w n 2) 1 < nd w n 1) ∧
  (nd w n 0 = 24 → nd w (nd w n 2) 1 = 1 ∧ nd w (nd w n 3) 1 = nd w n 1 ∧ nd w (nd w n 4) 1 = nd w n 1))
/-- the words of the nodes below n are words of their widths -/
def Lw (w f : Int → Int) (n : Int) : Prop := Box (∀ m, 0 ≤ m → m < n → 1 ≤ nd w m 1 ∧ nd w m 1 ≤ 8 ∧ 0 ≤ f m ∧ f m < p2 (nd w m 1))
theorem mul_le_255 {a b : Int} (ha : 0 ≤ a) (ha2 : a ≤ 255) (hb : 0 ≤ b) (hb2 : b ≤ 255) : 0 ≤ a * b ∧ a * b ≤ 65025 :=
  ⟨Int.mul_nonneg ha hb, Int.mul_le_mul ha2 hb2 hb (by omega)⟩
theorem cat_eq {a b wa wb : Int} (ha : 0 ≤ a) (ha2 : a < p2 wa) (hb : 0 ≤ b) (hb2 : b < p2 wb) (h1 : 1 ≤ wa) (h2 : 1 ≤ wb) (h8 : wa + wb ≤ 8) : bOr (sShl a wb) b = a * p2 wb + b := by
  have e1 : p2 wa * p2 wb = p2 (wa + wb) := (p2_add (by omega) (by omega)).symm
  have e2 := p2_le8 h8
  have hp := p2_pos wb
  have e3 : (a + 1) * p2 wb ≤ p2 wa * p2 wb := Int.mul_le_mul_of_nonneg_right (by omega) (by omega)
  have e4 : (a + 1) * p2 wb = a * p2 wb + p2 wb := by rw [Int.add_mul, Int.one_mul]
  have e5 : 0 ≤ a * p2 wb := Int.mul_nonneg ha (by omega)
  rw [sShl_eq (by omega) (by omega) ha (by omega), bOr_pos e5 (by omega) hb (by omega)]
  have e6 : (a * p2 wb).toNat = 2 ^ wb.toNat * a.toNat := by
    have : ((2 ^ wb.toNat * a.toNat : Nat) : Int) = a * p2 wb := by rw [Int.natCast_mul, Int.toNat_of_nonneg ha, p2_nat, Int.mul_comm]
    omega
  have e7 : b.toNat < 2 ^ wb.toNat := by
    have := p2_nat wb
    omega
  rw [e6, ← Nat.two_pow_add_eq_or_of_lt e7]
  have : ((2 ^ wb.toNat * a.toNat : Nat) : Int) = a * p2 wb := by rw [Int.natCast_mul, Int.toNat_of_nonneg ha, p2_nat, Int.mul_comm]
  omega
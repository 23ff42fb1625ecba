/-! ===== words in lanes: products, bits, shifts, comparisons ===== -/
theorem lw_mod (P : Int → Int64) (l : Nat) (a : Int) {m k : Int} (h0 : 0 ≤ m) (h1 : m ≤ k) : lw P l a k.toNat % p2 m = lw P l a m.toNat :=
  (lw_val h0 fun j a b => (lw_biti P l _ a (by omega)).symm).symm
theorem mul_fin {S A B F Am q M M' c : Int} (hM : M = M' * q) (hM0 : 0 < M) (hs0 : 0 ≤ S) (hs1 : S < M) (hA : A % M' = Am) (h : S + c * M = A * B % M + F * q * Am) : S = A * (B + F * q) % M := by
  have e1 := Int.emod_add_mul_ediv (A * B) M
  have e2 := Int.emod_add_mul_ediv A M'
  have e3 : A * (B + F * q) = (A * B % M + F * q * Am) + M * (A * B / M + F * (A / M')) := by
    rw [hA] at e2
    have e4 : A * (B + F * q) = A * B + F * q * A := by rw [Int.mul_add, Int.mul_comm A (F * q)]
    have e5 : F * q * A = F * q * Am + F * q * (M' * (A / M')) := by rw [← Int.mul_add, e2]
    have e6 : F * q * (M' * (A / M')) = M * (F * (A / M')) := by
      rw [hM]
      simp only [Int.mul_assoc, Int.mul_comm, Int.mul_left_comm]
    rw [e4, e5, e6, Int.mul_add]
    omega
  rw [e3, Int.add_mul_emod_self_left, ← h, Int.add_mul_emod_self_right, Int.emod_eq_of_lt hs0 hs1]
/-- a bit of a number -/
def ib (x j : Int) : Bool := decide (x / p2 j % 2 = 1)
theorem b2_ib (x j : Int) : b2 (ib x j) = x / p2 j % 2 := by
  unfold b2 ib
  rcases Int.emod_two_eq (x / p2 j) with e | e <;> rw [e] <;> rfl
theorem ib_nat {x j : Int} (h0 : 0 ≤ x) : ib x j = x.toNat.testBit j.toNat := by
  unfold ib
  rw [Nat.testBit_eq_decide_div_mod_eq, p2_nat]
  have e : ((x.toNat / 2 ^ j.toNat % 2 : Nat) : Int) = x / ((2 ^ j.toNat : Nat) : Int) % 2 := by
    rw [Int.natCast_emod, Int.natCast_ediv, Int.toNat_of_nonneg h0]
    rfl
  rw [← e]
  have := Nat.mod_two_eq_zero_or_one (x.toNat / 2 ^ j.toNat)
  rcases this with q | q <;> rw [q] <;> rfl
theorem ib_and {x y j : Int} (h0 : 0 ≤ x) (h1 : x < 2147483648) (h2 : 0 ≤ y) (h3 : y < 2147483648) : ib (bAnd x y) j = (ib x j && ib y j) := by
  rw [bAnd_pos h0 h1 h2 h3, ib_nat (by omega), ib_nat h0, ib_nat h2, Int.toNat_natCast, Nat.testBit_and]
theorem ib_or {x y j : Int} (h0 : 0 ≤ x) (h1 : x < 2147483648) (h2 : 0 ≤ y) (h3 : y < 2147483648) : ib (bOr x y) j = (ib x j || ib y j) := by
  rw [bOr_pos h0 h1 h2 h3, ib_nat (by omega), ib_nat h0, ib_nat h2, Int.toNat_natCast, Nat.testBit_or]
theorem ib_xor {x y j : Int} (h0 : 0 ≤ x) (h1 : x < 2147483648) (h2 : 0 ≤ y) (h3 : y < 2147483648) : ib (bXor x y) j = (ib x j ^^ ib y j) := by
  rw [bXor_pos h0 h1 h2 h3, ib_nat (by omega), ib_nat h0, ib_nat h2, Int.toNat_natCast, Nat.testBit_xor]
theorem b2_inj {x y : Bool} (h : b2 x = b2 y) : x = y := by cases x <;> cases y <;> simp [b2] at h ⊢
theorem ib_lw (P : Int → Int64) (l : Nat) (a : Int) {n j : Int} (h0 : 0 ≤ j) (h1 : j < n) : ib (lw P l a n.toNat) j = lb (P (a + j)) l := by
  apply b2_inj
  rw [b2_ib, lw_biti P l a h0 h1]
/-- the planes of a word by its bits -/
theorem lw_of {P : Int → Int64} {l : Nat} {a x : Int} {n : Int} (h0 : 0 ≤ n) (hx : 0 ≤ x) (hx1 : x < p2 n) (h : ∀ j, 0 ≤ j → j < n → lb (P (a + j)) l = ib x j) : lw P l a n.toNat = x := by
  rw [lw_val (x := x) h0 fun j a b => by rw [h j a b, b2_ib], Int.emod_eq_of_lt hx hx1]
/-- a product's planes: the sum so far and what comes to it -/
def MulI (P Q0 Q : Int → Int64) (a to i j : Int) (f c : Int64) : Prop := Box (∀ l, l < 64 → lw Q l to j.toNat + b2 (lb c l) * p2 j = lw Q0 l to j.toNat + b2 (lb f l) * p2 i * lw P l a (j - i).toNat)
theorem MulI.z (P Q : Int → Int64) (a to i : Int) (f : Int64) : MulI P Q Q a to i i f 0 := Box.i fun l _ => by
  rw [lb_0, Int.sub_self]
  show _ + 0 * p2 i = _ + b2 (lb f l) * p2 i * 0
  rw [Int.zero_mul, Int.mul_zero]
theorem MulI.st {P Q0 Q : Int → Int64} {a to i j : Int} {f c : Int64} (h : MulI P Q0 Q a to i j f c) (h0 : 0 ≤ i) (h1 : i ≤ j) : MulI P Q0 (up Q (to + j) (Q0 (to + j) ^^^ (P (a + (j - i)) &&& f) ^^^ c)) a to i (j + 1) f (Q0 (to + j) &&& (P (a + (j - i)) &&& f) ||| c &&& (Q0 (to + j) ^^^ (P (a + (j - i)) &&& f))) := Box.i fun l hl => by
  have e := h.o l hl
  rw [lw_upi (by omega), lw_i Q0 l to (show 0 ≤ j by omega), show j + 1 - i = j - i + 1 by omega, lw_i P l a (show 0 ≤ j - i by omega), p2_succ (show 0 ≤ j by omega)]
  simp only [lb_xor, lb_and, lb_or]
  have q := fa_step (lb (Q0 (to + j)) l) (lb (P (a + (j - i))) l && lb f l) (lb c l) e
  have e2 : b2 (lb f l) * p2 i * (lw P l a (j - i).toNat + b2 (lb (P (a + (j - i))) l) * p2 (j - i)) = b2 (lb f l) * p2 i * lw P l a (j - i).toNat + b2 (lb (P (a + (j - i))) l && lb f l) * p2 j := by
    rw [Int.mul_add]
    congr 1
    have e3 : p2 j = p2 i * p2 (j - i) := by rw [← p2_add h0 (by omega)]; congr 1; omega
    rw [e3]
    cases lb f l <;> cases lb (P (a + (j - i))) l <;> simp [b2]
  rw [e2]
  exact q
theorem MulI.fin {P Q0 Q : Int → Int64} {a b to i k : Int} {c : Int64} (h : MulI P Q0 Q a to i k (P (b + i)) c) (h0 : 0 ≤ i) (h1 : i < k) (h2 : Ln Q0 to k (fun l => lw P l a k.toNat * lw P l b i.toNat % p2 k)) : Ln Q to k (fun l => lw P l a k.toNat * lw P l b (i + 1).toNat % p2 k) := Box.i fun l hl => by
  have r := lw_rngi Q l to (show 0 ≤ k by omega)
  have e := h.o l hl
  rw [h2.o l hl] at e
  show _ = lw P l a k.toNat * lw P l b (i + 1).toNat % p2 k
  rw [lw_i P l b h0]
  have e3 : p2 k = p2 (k - i) * p2 i := by rw [← p2_add (by omega) h0]; congr 1; omega
  exact mul_fin e3 (p2_pos k) r.1 r.2 (lw_mod P l a (by omega) (by omega)) e

/-! ===== the reference: words ===== -/
theorem uN_inj {x y : Int64} (h : uN x = uN y) : x = y := by
  apply Int64.toBitVec_inj.mp
  exact BitVec.eq_of_toNat_eq h
theorem uN_or (x y : Int64) : uN (x ||| y) = uN x ||| uN y := by
  unfold uN
  rw [Int64.toBitVec_or, BitVec.toNat_or]
theorem uN_shl {x : Int64} {k : Int} (h0 : 0 ≤ k) (h1 : k < 64) : uN (lShl x k) = uN x * 2 ^ k.toNat % 18446744073709551616 := by
  unfold uN lShl
  rw [Int64.toBitVec_shiftLeft, BitVec.shiftLeft_eq', sh64_k h0 h1, BitVec.toNat_shiftLeft, Nat.shiftLeft_eq]
theorem uN_i2L_all : ∀ n : Nat, n < 256 → uN (i2L (n : Int)) = n := by decide +kernel
theorem uN_i2L {c : Int} (h0 : 0 ≤ c) (h1 : c < 256) : uN (i2L c) = c.toNat := by
  have := uN_i2L_all c.toNat (by omega)
  rw [show ((c.toNat : Nat) : Int) = c by omega] at this
  exact this
/-- letters packed, the first one in the lowest byte -/
def ltF (r : Rw) (a : Int) : Nat → Int64
  | 0 => 0
  | n + 1 => if n < 6 then ltF r a n ||| lShl (i2L (tA r (a + n))) (8 * n) else Int64.ofNat 18446744073709551615
def pkN (c : Int → Int) : Nat → Nat
  | 0 => 0
  | n + 1 => pkN c n + (c n).toNat * 256 ^ n
theorem pkN_lt {c : Int → Int} : ∀ n : Nat, (∀ i, 0 ≤ i → i < (n : Int) → 97 ≤ c i ∧ c i ≤ 122) → pkN c n < 256 ^ n := by
  intro n
  induction n with
  | zero => intro _; exact Nat.one_pos
  | succ n ih =>
    intro h
    have a := ih fun i i0 i1 => h i i0 (by omega)
    have b := h n (by omega) (by omega)
    show pkN c n + (c n).toNat * 256 ^ n < 256 ^ (n + 1)
    have e : (c n).toNat * 256 ^ n ≤ 255 * 256 ^ n := Nat.mul_le_mul_right _ (by omega)
    rw [Nat.pow_succ]
    omega
theorem ltF_eq {r : Rw} {a : Int} : ∀ n : Nat, n ≤ 6 → (∀ i, 0 ≤ i → i < (n : Int) → 97 ≤ tA r (a + i) ∧ tA r (a + i) ≤ 122) → uN (ltF r a n) = pkN (fun i => tA r (a + i)) n := by
  intro n
  induction n with
  | zero => intro _ _; exact (by decide : uN 0 = 0)
  | succ n ih =>
    intro hn h
    have e := ih (by omega) fun i i0 i1 => h i i0 (by omega)
    have l := pkN_lt (c := fun i => tA r (a + i)) n fun i i0 i1 => h i i0 (by omega)
    have b := h n (by omega) (by omega)
    show uN (if n < 6 then _ else _) = pkN (fun i => tA r (a + i)) n + (tA r (a + n)).toNat * 256 ^ n
    rw [if_pos (by omega), uN_or, e, uN_shl (by omega) (by omega), uN_i2L (by omega) (by omega)]
    have e2 : (2 : Nat) ^ (8 * (n : Int)).toNat = 256 ^ n := by
      rw [show (8 * (n : Int)).toNat = 8 * n by omega, Nat.pow_mul]
    have lt : (tA r (a + n)).toNat * 256 ^ n < 18446744073709551616 := by
      have q : 256 ^ n ≤ 256 ^ 5 := Nat.pow_le_pow_right (by decide) (by omega)
      have q2 : (tA r (a + n)).toNat * 256 ^ n ≤ 255 * 256 ^ 5 := Nat.mul_le_mul (by omega) q
      omega
    rw [e2, Nat.mod_eq_of_lt lt]
    have e3 : (256 : Nat) ^ n = 2 ^ (8 * n) := by rw [Nat.pow_mul]
    rw [e3] at l ⊢
    have := Nat.two_pow_add_eq_or_of_lt l (tA r (a + n)).toNat
    rw [Nat.or_comm, Nat.mul_comm, ← this]
    omega
def bw (k i : Int) : Nat := if wl k i = 32 then 0 else (wl k i).toNat
theorem wd_all : ∀ j : Nat, j < 23 → uN (wdL ((j : Int) + 2)) = bw ((j : Int) + 2) 0 + 256 * bw ((j : Int) + 2) 1 + 65536 * bw ((j : Int) + 2) 2 + 16777216 * bw ((j : Int) + 2) 3 + 4294967296 * bw ((j : Int) + 2) 4 := by decide +kernel
theorem wl_all : ∀ j : Nat, j < 23 → ∀ i : Nat, i < 5 → (wl ((j : Int) + 2) (i : Int) = 32 ∧ bw ((j : Int) + 2) (i : Int) = 0) ∨ (97 ≤ wl ((j : Int) + 2) (i : Int) ∧ wl ((j : Int) + 2) (i : Int) ≤ 122 ∧ ((bw ((j : Int) + 2) (i : Int) : Nat) : Int) = wl ((j : Int) + 2) (i : Int)) := by decide +kernel
/-- a letter of the packed ones -/
def dt (r : Rw) (a n i : Int) : Nat := if i < n then (tA r (a + i)).toNat else 0
theorem ltF_dt {r : Rw} {a n : Int} (n0 : 0 ≤ n) (n1 : n ≤ 6) (h : ∀ i, 0 ≤ i → i < n → 97 ≤ tA r (a + i) ∧ tA r (a + i) ≤ 122) : uN (ltF r a n.toNat) = dt r a n 0 + 256 * dt r a n 1 + 65536 * dt r a n 2 + 16777216 * dt r a n 3 + 4294967296 * dt r a n 4 + 1099511627776 * dt r a n 5 := by
  rw [ltF_eq n.toNat (by omega) fun i i0 i1 => h i i0 (by omega)]
  unfold dt
  have : n = 0 ∨ n = 1 ∨ n = 2 ∨ n = 3 ∨ n = 4 ∨ n = 5 ∨ n = 6 := by omega
  rcases this with rfl | rfl | rfl | rfl | rfl | rfl | rfl <;> simp [pkN] <;> omega
theorem dt_rng {r : Rw} {a n : Int} (h : ∀ i, 0 ≤ i → i < n → 97 ≤ tA r (a + i) ∧ tA r (a + i) ≤ 122) {i : Int} (i0 : 0 ≤ i) : (i < n ∧ 97 ≤ tA r (a + i) ∧ tA r (a + i) ≤ 122 ∧ ((dt r a n i : Nat) : Int) = tA r (a + i) ∧ chW r a n i = tA r (a + i)) ∨ (n ≤ i ∧ dt r a n i = 0 ∧ chW r a n i = 32) := by
  unfold dt chW
  by_cases z : i < n
  · have := h i i0 z
    rw [if_pos z, if_pos z]
    exact Or.inl ⟨z, this.1, this.2, by omega, rfl⟩
  · rw [if_neg z, if_neg z]
    exact Or.inr ⟨by omega, rfl, rfl⟩
theorem ltF_long {r : Rw} {a n : Int} (n1 : 7 ≤ n) : ltF r a n.toNat = Int64.ofNat 18446744073709551615 := by
  rw [show n.toNat = (n.toNat - 1) + 1 by omega]
  exact if_neg (by omega)
theorem wd_iff {r : Rw} {a n k : Int} (k0 : 2 ≤ k) (k1 : k ≤ 24) (n0 : 0 ≤ n) (h : ∀ i, 0 ≤ i → i < n → 97 ≤ tA r (a + i) ∧ tA r (a + i) ≤ 122) : wdL k = ltF r a n.toNat ↔ isW r a n k := by
  have w := wd_all (k - 2).toNat (by omega)
  have v := wl_all (k - 2).toNat (by omega)
  rw [show (((k - 2).toNat : Nat) : Int) + 2 = k by omega] at w v
  have v0 := v 0 (by decide)
  have v1 := v 1 (by decide)
  have v2 := v 2 (by decide)
  have v3 := v 3 (by decide)
  have v4 := v 4 (by decide)
  have z0 : ((0 : Nat) : Int) = 0 := rfl
  have z1 : ((1 : Nat) : Int) = 1 := rfl
  have z2 : ((2 : Nat) : Int) = 2 := rfl
  have z3 : ((3 : Nat) : Int) = 3 := rfl
  have z4 : ((4 : Nat) : Int) = 4 := rfl
  rw [z0] at v0
  rw [z1] at v1
  rw [z2] at v2
  rw [z3] at v3
  rw [z4] at v4
  clear v z0 z1 z2 z3 z4
  generalize bw k 0 = b0 at *
  generalize bw k 1 = b1 at *
  generalize bw k 2 = b2 at *
  generalize bw k 3 = b3 at *
  generalize bw k 4 = b4 at *
  by_cases n6 : n ≤ 6
  · have e := ltF_dt n0 n6 h
    have d0 := dt_rng h (i := 0) (by decide)
    have d1 := dt_rng h (i := 1) (by decide)
    have d2 := dt_rng h (i := 2) (by decide)
    have d3 := dt_rng h (i := 3) (by decide)
    have d4 := dt_rng h (i := 4) (by decide)
    have d5 := dt_rng h (i := 5) (by decide)
    generalize dt r a n 0 = c0 at *
    generalize dt r a n 1 = c1 at *
    generalize dt r a n 2 = c2 at *
    generalize dt r a n 3 = c3 at *
    generalize dt r a n 4 = c4 at *
    generalize dt r a n 5 = c5 at *
    have q : wdL k = ltF r a n.toNat ↔ (b0 = c0 ∧ b1 = c1 ∧ b2 = c2 ∧ b3 = c3 ∧ b4 = c4 ∧ c5 = 0) := by
      constructor
      · intro q
        rw [← q, w] at e
        have r0 : b0 < 256 ∧ c0 < 256 := by omega
        have r1 : b1 < 256 ∧ c1 < 256 := by omega
        have r2 : b2 < 256 ∧ c2 < 256 := by omega
        have r3 : b3 < 256 ∧ c3 < 256 := by omega
        have r4 : b4 < 256 ∧ c4 < 256 := by omega
        clear d0 d1 d2 d3 d4 d5 v0 v1 v2 v3 v4
        omega
      · rintro ⟨rfl, rfl, rfl, rfl, rfl, rfl⟩
        apply uN_inj
        omega
    rw [q]
    constructor
    · rintro ⟨q0, q1, q2, q3, q4, q5⟩
      refine ⟨by omega, by omega, by omega, by omega, by omega, by omega⟩
    · rintro ⟨q6, q0, q1, q2, q3, q4⟩
      refine ⟨by omega, by omega, by omega, by omega, by omega, by omega⟩
  · constructor
    · intro q
      rw [q, ltF_long (by omega)] at w
      have : uN (Int64.ofNat 18446744073709551615) = 18446744073709551615 := by decide +kernel
      rw [this] at w
      omega
    · rintro ⟨q, _⟩
      omega

/-! ===== numbers: masks, shifts, bits of longs ===== -/
def p2 (k : Int) : Int := 2 ^ k.toNat
theorem p2_pos (k : Int) : 0 < p2 k := Int.pow_pos (by decide)
theorem p2_0 : p2 0 = 1 := rfl
theorem p2_1 : p2 1 = 2 := rfl
theorem p2_8 : p2 8 = 256 := rfl
theorem p2_nat (k : Int) : p2 k = ((2 ^ k.toNat : Nat) : Int) := by unfold p2; rw [Int.natCast_pow]; rfl
theorem p2_add {a b : Int} (ha : 0 ≤ a) (hb : 0 ≤ b) : p2 (a + b) = p2 a * p2 b := by
  unfold p2
  rw [show (a + b).toNat = a.toNat + b.toNat from by omega, Int.pow_add]
theorem p2_le {a b : Int} (h : a ≤ b) : p2 a ≤ p2 b := by
  rw [p2_nat, p2_nat]
  exact Int.ofNat_le.mpr (Nat.pow_le_pow_right (by decide) (by omega))
theorem p2_lt {a b : Int} (ha : 0 ≤ a) (h : a < b) : p2 a < p2 b := by
  rw [p2_nat, p2_nat]
  exact Int.ofNat_lt.mpr (Nat.pow_lt_pow_right (by decide) (by omega))
theorem p2_le8 {k : Int} (h : k ≤ 8) : p2 k ≤ 256 := p2_le h
theorem p2_le16 {k : Int} (h : k ≤ 16) : p2 k ≤ 65536 := p2_le (b := 16) h
theorem p2_le20 {k : Int} (h : k ≤ 20) : p2 k ≤ 1048576 := p2_le (b := 20) h
theorem p2_le30 {k : Int} (h : k ≤ 30) : p2 k ≤ 1073741824 := p2_le (b := 30) h
theorem p2_succ {k : Int} (h : 0 ≤ k) : p2 (k + 1) = 2 * p2 k := by rw [p2_add h (by decide), p2_1, Int.mul_comm]
/-- the bits of an int, as a number from 0 on -/
def un (x : Int) : Nat := (iw x).toBitVec.toNat
theorem un_eq (x : Int) : (un x : Int) = x % 4294967296 := by
  show ((BitVec.ofInt 32 x).toNat : Int) = _
  rw [BitVec.toNat_ofInt]
  have : (0 : Int) ≤ x % 4294967296 := Int.emod_nonneg _ (by decide)
  show (((x % ((2 ^ 32 : Nat) : Int)).toNat : Nat) : Int) = _
  rw [Int.toNat_of_nonneg (by exact this)]
  rfl
theorem un_pos {x : Int} (h0 : 0 ≤ x) (h : x < 4294967296) : un x = x.toNat := by
  have := un_eq x
  rw [Int.emod_eq_of_lt h0 h] at this
  omega
theorem toInt_small {v : Int32} {n : Nat} (h : v.toBitVec.toNat = n) (hn : n < 2147483648) : v.toInt = (n : Int) := by
  show v.toBitVec.toInt = _
  rw [BitVec.toInt_eq_toNat_cond, if_pos (by rw [h]; show 2 * n < 4294967296; omega), h]
theorem bAnd_nat {x y : Int} (h : un x &&& un y < 2147483648) : bAnd x y = ((un x &&& un y : Nat) : Int) := by
  refine toInt_small ?_ h
  show ((iw x).toBitVec &&& (iw y).toBitVec).toNat = _
  rw [BitVec.toNat_and]
  rfl
theorem bOr_nat {x y : Int} (h : un x ||| un y < 2147483648) : bOr x y = ((un x ||| un y : Nat) : Int) := by
  refine toInt_small ?_ h
  show ((iw x).toBitVec ||| (iw y).toBitVec).toNat = _
  rw [BitVec.toNat_or]
  rfl
theorem bXor_nat {x y : Int} (h : un x ^^^ un y < 2147483648) : bXor x y = ((un x ^^^ un y : Nat) : Int) := by
  refine toInt_small ?_ h
  show ((iw x).toBitVec ^^^ (iw y).toBitVec).toNat = _
  rw [BitVec.toNat_xor]
  rfl
/-- a mask: what is left of a division -/
theorem bAnd_mask {x k : Int} (h0 : 0 ≤ k) (h1 : k ≤ 30) : bAnd x (p2 k - 1) = x % p2 k := by
  have hp := p2_pos k
  have hp2 := p2_le30 h1
  have hm : un (p2 k - 1) = 2 ^ k.toNat - 1 := by
    rw [un_pos (by omega) (by omega), p2_nat]
    omega
  have e : un x &&& un (p2 k - 1) = un x % 2 ^ k.toNat := by rw [hm, Nat.and_two_pow_sub_one_eq_mod]
  have hlt : un x % 2 ^ k.toNat < 2 ^ k.toNat := Nat.mod_lt _ (Nat.two_pow_pos _)
  have hp3 : ((2 ^ k.toNat : Nat) : Int) = p2 k := (p2_nat k).symm
  rw [bAnd_nat (by rw [e]; omega), e, Int.natCast_emod, un_eq, hp3]
  refine Int.emod_emod_of_dvd _ ?_
  have : (4294967296 : Int) = p2 k * p2 (32 - k) := by rw [← p2_add h0 (by omega), show k + (32 - k) = 32 from by omega]; rfl
  exact ⟨_, this⟩
theorem bAnd_pos {x y : Int} (hx : 0 ≤ x) (hx1 : x < 2147483648) (hy : 0 ≤ y) (hy1 : y < 2147483648) : bAnd x y = ((x.toNat &&& y.toNat : Nat) : Int) := by
  rw [bAnd_nat, un_pos hx (by omega), un_pos hy (by omega)]
  rw [un_pos hx (by omega), un_pos hy (by omega)]
  have := @Nat.and_le_left x.toNat y.toNat
  omega
theorem bOr_pos {x y : Int} (hx : 0 ≤ x) (hx1 : x < 2147483648) (hy : 0 ≤ y) (hy1 : y < 2147483648) : bOr x y = ((x.toNat ||| y.toNat : Nat) : Int) := by
  have h : x.toNat ||| y.toNat < 2 ^ 31 := Nat.or_lt_two_pow (by show x.toNat < 2147483648; omega) (by show y.toNat < 2147483648; omega)
  rw [bOr_nat, un_pos hx (by omega), un_pos hy (by omega)]
  rw [un_pos hx (by omega), un_pos hy (by omega)]
  exact h
theorem bXor_pos {x y : Int} (hx : 0 ≤ x) (hx1 : x < 2147483648) (hy : 0 ≤ y) (hy1 : y < 2147483648) : bXor x y = ((x.toNat ^^^ y.toNat : Nat) : Int) := by
  have h : x.toNat ^^^ y.toNat < 2 ^ 31 := Nat.xor_lt_two_pow (by show x.toNat < 2147483648; omega) (by show y.toNat < 2147483648; omega)
  rw [bXor_nat, un_pos hx (by omega), un_pos hy (by omega)]
  rw [un_pos hx (by omega), un_pos hy (by omega)]
  exact h
theorem bXor_m1 {x : Int} (hx : Rng x) : bXor x (-1) = -x - 1 := by
  have h1 : iw x ^^^ iw (-1) = ~~~ (iw x) := by
    apply Int32.toBitVec_inj.mp
    show (iw x).toBitVec ^^^ BitVec.allOnes 32 = ~~~ (iw x).toBitVec
    exact BitVec.xor_allOnes
  unfold bXor
  rw [h1, Int32.toInt_not, iw_toInt hx]
  have := hx.1
  have := hx.2
  rw [Int.bmod_eq_of_le (by omega) (by omega)]
theorem sh_all : ∀ n : Nat, n < 32 → ((iw (n : Int) &&& 31).toBitVec.smod 32).toNat = n := by decide +kernel
theorem sh_k {k : Int} (h0 : 0 ≤ k) (h1 : k < 32) : ((iw k &&& 31).toBitVec.smod 32).toNat = k.toNat := by
  have := sh_all k.toNat (by omega)
  rw [show ((k.toNat : Nat) : Int) = k from by omega] at this
  exact this
theorem sShl_eq {x k : Int} (h0 : 0 ≤ k) (h1 : k < 32) (hx : 0 ≤ x) (hb : x * p2 k < 2147483648) : sShl x k = x * p2 k := by
  have hp := p2_pos k
  have hle : x ≤ x * p2 k := by
    have := Int.mul_le_mul_of_nonneg_left (show 1 ≤ p2 k from hp) hx
    omega
  have hpos : 0 ≤ x * p2 k := Int.mul_nonneg hx (by omega)
  have e1 : (iw x <<< (iw k &&& 31)).toBitVec.toNat = (x * p2 k).toNat := by
    rw [Int32.toBitVec_shiftLeft, BitVec.shiftLeft_eq', BitVec.toNat_shiftLeft, sh_k h0 h1]
    show un x <<< k.toNat % 4294967296 = _
    rw [un_pos hx (by omega), Nat.shiftLeft_eq]
    have e2 : ((x.toNat * 2 ^ k.toNat : Nat) : Int) = x * p2 k := by rw [Int.natCast_mul, Int.toNat_of_nonneg hx, p2_nat]
    omega
  unfold sShl
  rw [toInt_small e1 (by omega)]
  omega
theorem sShr_eq {x k : Int} (hx : Rng x) (h0 : 0 ≤ k) (h1 : k < 32) : sShr x k = x / p2 k := by
  unfold sShr
  show (iw x >>> (iw k &&& 31)).toBitVec.toInt = _
  rw [Int32.toBitVec_shiftRight, BitVec.sshiftRight_eq', BitVec.toInt_sshiftRight, sh_k h0 h1]
  show (iw x).toInt >>> k.toNat = _
  rw [iw_toInt hx, Int.shiftRight_eq_div_pow, p2_nat]
/-- the bit k of a long -/
def lb (x : Int64) (k : Nat) : Bool := x.toBitVec.getLsbD k
theorem lb_ext {x y : Int64} (h : ∀ k, k < 64 → lb x k = lb y k) : x = y := by
  apply Int64.toBitVec_inj.mp
  exact BitVec.eq_of_getLsbD_eq fun i hi => h i hi
theorem lb_and (x y : Int64) (k : Nat) : lb (x &&& y) k = (lb x k && lb y k) := by
  unfold lb
  rw [Int64.toBitVec_and, BitVec.getLsbD_and]
theorem lb_or (x y : Int64) (k : Nat) : lb (x ||| y) k = (lb x k || lb y k) := by
  unfold lb
  rw [Int64.toBitVec_or, BitVec.getLsbD_or]
theorem lb_xor (x y : Int64) (k : Nat) : lb (x ^^^ y) k = (lb x k ^^ lb y k) := by
  unfold lb
  rw [Int64.toBitVec_xor, BitVec.getLsbD_xor]
theorem lb_0 (k : Nat) : lb 0 k = false := by
  show (0#64).getLsbD k = false
  exact BitVec.getLsbD_zero
theorem lb_m1 {k : Nat} (h : k < 64) : lb (-1) k = true := by
  show (BitVec.allOnes 64).getLsbD k = true
  rw [BitVec.getLsbD_allOnes]
  exact decide_eq_true h
theorem sh64_all : ∀ n : Nat, n < 64 → (((iw (n : Int)).toInt64 &&& 63).toBitVec.smod 64).toNat = n := by decide +kernel
theorem sh64_k {k : Int} (h0 : 0 ≤ k) (h1 : k < 64) : (((iw k).toInt64 &&& 63).toBitVec.smod 64).toNat = k.toNat := by
  have := sh64_all k.toNat (by omega)
  rw [show ((k.toNat : Nat) : Int) = k from by omega] at this
  exact this
theorem lb_shl {x : Int64} {k : Int} (h0 : 0 ≤ k) (h1 : k < 64) {j : Nat} (hj : j < 64) : lb (lShl x k) j = (decide (k.toNat ≤ j) && lb x (j - k.toNat)) := by
  unfold lb lShl
  rw [Int64.toBitVec_shiftLeft, BitVec.shiftLeft_eq', sh64_k h0 h1, BitVec.getLsbD_shiftLeft]
  by_cases h : k.toNat ≤ j
  · simp [h, hj, Nat.not_lt.mpr h]
  · simp [h, hj, Nat.lt_of_not_le h]
theorem lb_1 (k : Nat) : lb 1 k = decide (k = 0) := by
  show (1#64).getLsbD k = _
  rw [BitVec.getLsbD_one]
  simp
theorem lb_one {k : Int} (h0 : 0 ≤ k) (h1 : k < 64) {j : Nat} (hj : j < 64) : lb (lShl 1 k) j = decide (j = k.toNat) := by
  rw [lb_shl h0 h1 hj, lb_1]
  by_cases h : j = k.toNat
  · subst h; simp
  · by_cases h2 : k.toNat ≤ j
    · have : ¬ j - k.toNat = 0 := by omega
      simp [h, h2, this]
    · simp [h, h2]
theorem lb_shr {x : Int64} {k : Int} (h0 : 0 ≤ k) (h1 : k < 64) {j : Nat} (hj : j + k.toNat < 64) : lb (lShr x k) j = lb x (j + k.toNat) := by
  unfold lb lShr
  rw [Int64.toBitVec_shiftRight, BitVec.sshiftRight_eq', sh64_k h0 h1, BitVec.getLsbD_sshiftRight]
  simp [show ¬ 64 ≤ j from by omega, hj, Nat.add_comm]
theorem ush_all : ∀ n : Nat, n < 64 → ((iw (n : Int)).toInt64.toUInt64 &&& Int64.toUInt64 63).toNat % 64 = n := by decide +kernel
theorem lb_ushr {x : Int64} {k : Int} (h0 : 0 ≤ k) (h1 : k < 64) (j : Nat) : lb (lUshr x k) j = lb x (j + k.toNat) := by
  have h9 := ush_all k.toNat (by omega)
  rw [show ((k.toNat : Nat) : Int) = k from by omega] at h9
  unfold lb lUshr
  show (x.toUInt64 >>> ((iw k).toInt64.toUInt64 &&& Int64.toUInt64 63)).toBitVec.getLsbD j = _
  rw [UInt64.toBitVec_shiftRight, BitVec.ushiftRight_eq', BitVec.getLsbD_ushiftRight]
  have e : (((iw k).toInt64.toUInt64 &&& Int64.toUInt64 63).toBitVec % 64).toNat = k.toNat := by
    rw [BitVec.toNat_umod]
    exact h9
  rw [e, Nat.add_comm]
  rfl
theorem and1 {x : Int64} : (x &&& 1 = 1 ↔ lb x 0 = true) ∧ (x &&& 1 = 0 ↔ lb x 0 = false) := by
  have h0 : ∀ k, lb (x &&& 1) k = (decide (k = 0) && lb x 0) := by
    intro k
    rw [lb_and, lb_1]
    by_cases e : k = 0
    · subst e; simp
    · simp [e]
  refine ⟨⟨fun h => ?_, fun h => lb_ext fun k _ => ?_⟩, ⟨fun h => ?_, fun h => lb_ext fun k _ => ?_⟩⟩
  · have := h0 0
    rw [h, lb_1] at this
    simpa using this.symm
  · rw [h0, h, lb_1]; simp
  · have := h0 0
    rw [h, lb_0] at this
    simpa using this.symm
  · rw [h0, h, lb_0]; simp
theorem cmpL_0 {x y : Int64} : cmpL x y = 0 ↔ x = y := by
  unfold cmpL
  constructor
  · intro h
    split at h
    · cases h
    · split at h
      · assumption
      · cases h
  · intro h
    subst h
    rw [if_neg (Int64.lt_irrefl), if_pos rfl]

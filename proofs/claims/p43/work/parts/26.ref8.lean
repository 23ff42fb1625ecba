/-! ===== the reference: values ===== -/
/-- a word of a width, read with its sign -/
def sgn (v w : Int) : Int := if p2 (w - 1) ≤ v then v - p2 w else v
def shfW (k a b w : Int) : Int := if k = 10 then (sgn a w / p2 (if b < w then b else w)) % p2 w else if w ≤ b then 0 else if k = 8 then a * p2 b % p2 w else a / p2 b
def cmpW (k a b w : Int) : Int := if (if k = 13 then a = b else if k = 14 ∨ k = 16 then (if 15 < k then sgn a w else a) < (if 15 < k then sgn b w else b) else (if 15 < k then sgn a w else a) ≤ (if 15 < k then sgn b w else b)) then 1 else 0
theorem bAnd1 (x : Int) : bAnd x 1 = x % 2 := bAnd_mask (k := 1) (by decide) (by decide)
theorem sgn_bit {v w : Int} (h1 : 1 ≤ w) (h8 : w ≤ 8) (h0 : 0 ≤ v) (hv : v < p2 w) : bAnd (sShr v (w - 1)) 1 = if p2 (w - 1) ≤ v then 1 else 0 := by
  have e : p2 w = 2 * p2 (w - 1) := by rw [← p2_succ (by omega)]; congr 1; omega
  have hp := p2_pos (w - 1)
  have h256 := p2_le8 h8
  rw [bAnd1, sShr_eq ⟨by omega, by omega⟩ (by omega) (by omega)]
  split
  · have : v / p2 (w - 1) = 1 := by
      rw [Int.ediv_eq_iff_of_pos hp]
      omega
    rw [this]; rfl
  · rw [Int.ediv_eq_zero_of_lt h0 (by omega)]; rfl
theorem sgn_rng {v w : Int} (h1 : 1 ≤ w) (h8 : w ≤ 8) (h0 : 0 ≤ v) (hv : v < p2 w) : -128 ≤ sgn v w ∧ sgn v w < 128 := by
  have e : p2 w = 2 * p2 (w - 1) := by rw [← p2_succ (by omega)]; congr 1; omega
  have hp := p2_pos (w - 1)
  have h256 : p2 (w - 1) ≤ 128 := p2_le (b := 7) (by omega)
  unfold sgn
  split <;> omega
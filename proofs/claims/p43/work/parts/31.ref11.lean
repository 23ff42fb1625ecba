/-! ===== the reference: what is fulfilled, models ===== -/
theorem or_add {s v k : Int} (h0 : 0 ≤ k) (h1 : k < 20) (s0 : 0 ≤ s) (s1 : s < p2 k) (hv : v = 0 ∨ v = 1) : bOr s (sShl v k) = s + v * p2 k := by
  have e := p2_le20 (show k + 1 ≤ 20 by omega)
  rw [p2_succ h0] at e
  have hp := p2_pos k
  have e1 := p2_nat k
  rcases hv with rfl | rfl
  · rw [sShl_eq h0 (by omega) (by omega) (by omega), Int.zero_mul, bOr_pos s0 (by omega) (by omega) (by omega)]
    show ((s.toNat ||| 0 : Nat) : Int) = _
    rw [Nat.or_zero]
    omega
  · rw [sShl_eq h0 (by omega) (by omega) (by omega), Int.one_mul, bOr_pos s0 (by omega) (by omega) (by omega), Nat.or_comm]
    have e3 : (p2 k).toNat = 2 ^ k.toNat * 1 := by omega
    rw [e3, ← Nat.two_pow_add_eq_or_of_lt (by omega)]
    omega
theorem fulW_s (w : Int → Int) (N : Int) (k : Nat) : fulW w N (k + 1) = fulW w N k + vl w (asg w N) (w (291 + (k : Int))) * p2 k := rfl
theorem fulW_step {w : Int → Int} (h : WF w) {f : Int → Int} {N k : Int} (hf : Vls w (asg w N) f) (h0 : 0 ≤ k) (h1 : k < w 290) : bOr (fulW w N k.toNat) (sShl (f (w (291 + k))) k) = fulW w N (k + 1).toNat := by
  have a := fulW_rng h N k.toNat (by omega)
  have c := h.con h0 h1
  have d := con01 h N h0 h1
  have e : ((k.toNat : Nat) : Int) = k := by omega
  rw [e] at a
  have n := h.cn
  rw [hf.o _ c.1 c.2.1, or_add h0 (by omega) a.1 a.2 d, show (k + 1).toNat = k.toNat + 1 by omega, fulW_s, e]
theorem tot_sh {w : Int → Int} (h : WF w) : sShl 1 (sumW w (w 281).toNat) = tot w := by
  have a := h.s16
  have b := h.vn
  have c := sumW_le h.vz (j := 0) (w 281).toNat (by omega) (by omega)
  have e0 : sumW w 0 = 0 := rfl
  have d := tot_rng h
  unfold tot at d ⊢
  rw [sShl_eq (by omega) (by omega) (by omega) (by omega), Int.one_mul]
theorem Fz.up4 {F0 F : Int → Int} {x : Int} (h : Fz F0 F) : Fz (up F0 4 x) (up F 4 x) := by
  obtain ⟨a, b⟩ := h.o
  refine Box.i ⟨a, fun j h1 h2 => ?_⟩
  unfold up
  by_cases e : j = 4
  · rw [if_pos e, if_pos e]
  · rw [if_neg e, if_neg e]; exact b j h1 h2
theorem Fz.tr {F G H : Int → Int} (a : Fz F G) (b : Fz G H) : Fz F H := Box.i ⟨b.o.1, fun j x y => by rw [b.o.2 j x y, a.o.2 j x y]⟩
theorem FR.up4 {w F c : Int → Int} {x : Int} (h : FR w F c) : FR w (up F 4 x) c := h
theorem sc_wv' (h : Hp) (F a b c a' b' : Int → Int) : sc h F a' b' c = wvH (sc h F a b c) a' b' := (sc_wv h F a b c a' b').symm
/-- the numbers of a loop over the models -/
def meas (w : Int → Int) (n : Int) : Nat := if n = -1 then 0 else (tot w - n).toNat
/-! ===== bits counted ===== -/
def dsN (b : Nat) : Nat → Nat → Nat
  | 0, _ => 0
  | n + 1, v => v % b + dsN b n (v / b)
def repN (c : Nat) : Nat → Nat
  | 0 => 0
  | n + 1 => c + 256 * repN c n
def DgB : Nat → Nat → Prop
  | 0, _ => True
  | n + 1, v => v % 256 ≤ 8 ∧ DgB n (v / 256)
theorem land_cut {a a' c c' : Nat} (h : a < 256) (h' : a' < 256) : (a + 256 * c) &&& (a' + 256 * c') = (a &&& a') + 256 * (c &&& c') := by
  apply Nat.eq_of_testBit_eq
  intro i
  have e : ∀ x y, x < 256 → (x + 256 * y).testBit i = if i < 8 then x.testBit i else y.testBit (i - 8) := fun x y hx => by
    rw [Nat.add_comm]; exact Nat.testBit_two_pow_mul_add (i := 8) y hx i
  rw [Nat.testBit_and, e _ _ h, e _ _ h', e _ _ (Nat.lt_of_le_of_lt Nat.and_le_left h)]
  split
  · rw [Nat.testBit_and]
  · rw [Nat.testBit_and]
def k1B (B : Nat) : Nat := B - (B / 2 &&& 85)
def k2B (B : Nat) : Nat := (B &&& 51) + (B / 4 &&& 51)
def k3B (B : Nat) : Nat := (B + B / 16) &&& 15
theorem q1_all : ∀ B : Nat, B < 256 → ∀ t : Nat, t < 2 → ((B / 2 + 128 * t) &&& 85) = (B / 2 &&& 85) := by decide +kernel
theorem q2_all : ∀ B : Nat, B < 256 → ∀ t : Nat, t < 4 → ((B / 4 + 64 * t) &&& 51) = (B / 4 &&& 51) := by decide +kernel
theorem q3_all : ∀ B : Nat, B < 256 → B / 16 ≤ 4 → B % 16 ≤ 4 → ∀ t : Nat, t < 5 → ((B + B / 16 + 16 * t) &&& 15) = ((B + B / 16) &&& 15) := by decide +kernel
theorem q_all : ∀ B : Nat, B < 256 → (B / 2 &&& 85) ≤ B ∧ k1B B < 256 ∧ k2B (k1B B) < 256 ∧ k2B (k1B B) / 16 ≤ 4 ∧ k2B (k1B B) % 16 ≤ 4 ∧ k3B (k2B (k1B B)) = dsN 2 8 B ∧ k3B (k2B (k1B B)) ≤ 8 := by decide +kernel
def g1N (n v : Nat) : Nat := v - (v / 2 &&& repN 85 n)
def g2N (n v : Nat) : Nat := (v &&& repN 51 n) + (v / 4 &&& repN 51 n)
def g3N (n v : Nat) : Nat := (v + v / 16) &&& repN 15 n
theorem g1_s {n B v : Nat} (h : B < 256) : g1N (n + 1) (B + 256 * v) = k1B B + 256 * g1N n v := by
  unfold g1N k1B
  have e : (B + 256 * v) / 2 = (B / 2 + 128 * (v % 2)) + 256 * (v / 2) := by omega
  show B + 256 * v - (_ &&& (85 + 256 * repN 85 n)) = _
  rw [e, land_cut (by omega) (by decide), q1_all B h (v % 2) (by omega)]
  have h1 := (q_all B h).1
  have h2 : (v / 2 &&& repN 85 n) ≤ v := Nat.le_trans Nat.and_le_left (Nat.div_le_self _ _)
  omega
theorem g2_s {n B v : Nat} (h : B < 256) : g2N (n + 1) (B + 256 * v) = k2B B + 256 * g2N n v := by
  unfold g2N k2B
  have e : (B + 256 * v) / 4 = (B / 4 + 64 * (v % 4)) + 256 * (v / 4) := by omega
  show (_ &&& (51 + 256 * repN 51 n)) + (_ &&& (51 + 256 * repN 51 n)) = _
  rw [e, land_cut (a := B) h (by decide), land_cut (a := B / 4 + 64 * (v % 4)) (by omega) (by decide), q2_all B h (v % 4) (by omega)]
  omega
theorem g3_s {n B v : Nat} (h : B < 256) (h1 : B / 16 ≤ 4) (h2 : B % 16 ≤ 4) (h3 : v % 16 ≤ 4) : g3N (n + 1) (B + 256 * v) = k3B B + 256 * g3N n v := by
  unfold g3N k3B
  have e : B + 256 * v + (B + 256 * v) / 16 = (B + B / 16 + 16 * (v % 16)) + 256 * (v + v / 16) := by omega
  show (_ &&& (15 + 256 * repN 15 n)) = _
  rw [e, land_cut (by omega) (by decide), q3_all B h h1 h2 (v % 16) (by omega)]
theorem dsN_8 (B v : Nat) : dsN 2 8 (B + 256 * v) = dsN 2 8 B := by
  simp only [dsN]
  omega
theorem dsN_add (b : Nat) : ∀ n m v : Nat, dsN b (n + m) v = dsN b n v + dsN b m (v / b ^ n) := by
  intro n
  induction n with
  | zero => intro m v; rw [Nat.zero_add, Nat.pow_zero, Nat.div_one]; show _ = 0 + _; rw [Nat.zero_add]
  | succ n ih =>
    intro m v
    rw [show n + 1 + m = (n + m) + 1 by omega]
    show v % b + dsN b (n + m) (v / b) = v % b + dsN b n (v / b) + _
    rw [ih m (v / b), Nat.div_div_eq_div_mul, Nat.pow_succ, Nat.mul_comm b, Nat.add_assoc]
theorem g_all : ∀ n v : Nat, v < 256 ^ n → g2N n (g1N n v) % 16 ≤ 4 ∧ dsN 256 n (g3N n (g2N n (g1N n v))) = dsN 2 (8 * n) v ∧ DgB n (g3N n (g2N n (g1N n v))) := by
  intro n
  induction n with
  | zero =>
    intro v hv
    have : v = 0 := by simpa using hv
    subst this
    exact ⟨by decide, rfl, trivial⟩
  | succ n ih =>
    intro v hv
    have hv2 : v / 256 < 256 ^ n := by
      rw [Nat.div_lt_iff_lt_mul (by decide)]
      rw [Nat.pow_succ] at hv
      exact hv
    have ev : v = v % 256 + 256 * (v / 256) := by omega
    have hB : v % 256 < 256 := Nat.mod_lt _ (by decide)
    generalize v % 256 = B at *
    generalize v / 256 = u at *
    obtain ⟨i1, i2, i3⟩ := ih u hv2
    obtain ⟨q1, q2, q3, q4, q5, q6, q7⟩ := q_all B hB
    have e2 : g2N (n + 1) (g1N (n + 1) v) = k2B (k1B B) + 256 * g2N n (g1N n u) := by rw [ev, g1_s hB, g2_s q2]
    have e3 : g3N (n + 1) (g2N (n + 1) (g1N (n + 1) v)) = k3B (k2B (k1B B)) + 256 * g3N n (g2N n (g1N n u)) := by rw [e2, g3_s q3 q4 q5 i1]
    rw [e3, e2]
    refine ⟨by omega, ?_, ?_⟩
    · show (k3B (k2B (k1B B)) + 256 * g3N n (g2N n (g1N n u))) % 256 + dsN 256 n ((k3B (k2B (k1B B)) + 256 * g3N n (g2N n (g1N n u))) / 256) = _
      have d1 : (k3B (k2B (k1B B)) + 256 * g3N n (g2N n (g1N n u))) % 256 = k3B (k2B (k1B B)) := by omega
      have d2 : (k3B (k2B (k1B B)) + 256 * g3N n (g2N n (g1N n u))) / 256 = g3N n (g2N n (g1N n u)) := by omega
      rw [d1, d2, i2, q6, show 8 * (n + 1) = 8 + 8 * n by omega, dsN_add, ev, dsN_8]
      congr 2
      show u = (B + 256 * u) / 256
      omega
    · show (k3B (k2B (k1B B)) + 256 * g3N n (g2N n (g1N n u))) % 256 ≤ 8 ∧ DgB n ((k3B (k2B (k1B B)) + 256 * g3N n (g2N n (g1N n u))) / 256)
      have d1 : (k3B (k2B (k1B B)) + 256 * g3N n (g2N n (g1N n u))) % 256 = k3B (k2B (k1B B)) := by omega
      have d2 : (k3B (k2B (k1B B)) + 256 * g3N n (g2N n (g1N n u))) / 256 = g3N n (g2N n (g1N n u)) := by omega
      rw [d1, d2]
      exact ⟨q7, i3⟩
theorem divq {L H q b : Nat} (hq : b = L + q * H) (hL : L < q) : b / q = H := by
  rw [hq, Nat.add_mul_div_left _ _ (by omega), Nat.div_eq_of_lt hL, Nat.zero_add]
theorem tail_lin {y0 y1 y2 y3 y4 y5 y6 y7 x0 x1 x2 x3 x4 x5 x6 : Nat} (h0 : x0 ≤ 8) (h1 : x1 ≤ 8) (h2 : x2 ≤ 8) (h3 : x3 ≤ 8) (h4 : x4 ≤ 8) (h5 : x5 ≤ 8) (h6 : x6 ≤ 8) (h7 : y7 ≤ 8) (e0 : y0 = x0 + 256 * y1) (e1 : y1 = x1 + 256 * y2) (e2 : y2 = x2 + 256 * y3) (e3 : y3 = x3 + 256 * y4) (e4 : y4 = x4 + 256 * y5) (e5 : y5 = x5 + 256 * y6) (e6 : y6 = x6 + 256 * y7) :
    y0 + y1 < 18446744073709551616 ∧ (y0 + y1) + (y0 + y1) / 65536 < 18446744073709551616 ∧ ((y0 + y1) + (y0 + y1) / 65536) + ((y0 + y1) + (y0 + y1) / 65536) / 4294967296 < 18446744073709551616 ∧ (((y0 + y1) + (y0 + y1) / 65536) + ((y0 + y1) + (y0 + y1) / 65536) / 4294967296) % 128 = x0 + x1 + x2 + x3 + x4 + x5 + x6 + y7 := by
  have b6 : y6 ≤ 2056 := by omega
  have b5 : y5 ≤ 526344 := by omega
  have b4 : y4 ≤ 134744072 := by omega
  have b3 : y3 ≤ 34494482440 := by omega
  have b2 : y2 ≤ 8830587504648 := by omega
  have b1 : y1 ≤ 2260630401189896 := by omega
  have b0 : y0 ≤ 578721382704613384 := by omega
  have f3 : (y0 + y1) / 65536 = y2 + y3 := divq (L := (x0 + x1) + 256 * (x1 + x2)) (by omega) (by omega)
  rw [f3]
  have f6 : (y0 + y1 + (y2 + y3)) / 4294967296 = y4 + y5 + y6 + y7 := divq (L := (x0 + x1 + x2 + x3) + 256 * (x1 + x2 + x3 + x4) + 65536 * (x2 + x3 + x4 + x5) + 16777216 * (x3 + x4 + x5 + x6)) (by omega) (by omega)
  rw [f6]
  refine ⟨by omega, by omega, by omega, ?_⟩
  rw [show y0 + y1 + (y2 + y3) + (y4 + y5 + y6 + y7) = (x0 + x1 + x2 + x3 + x4 + x5 + x6 + y7) + 128 * (2 * (y1 + y2 + y3 + y4 + y5 + y6 + y7)) by omega, Nat.add_mul_mod_self_left, Nat.mod_eq_of_lt (by omega)]
theorem tail_all {v : Nat} (hv : v < 18446744073709551616) (h : DgB 8 v) : v + v / 256 < 18446744073709551616 ∧ (v + v / 256) + (v + v / 256) / 65536 < 18446744073709551616 ∧ ((v + v / 256) + (v + v / 256) / 65536) + ((v + v / 256) + (v + v / 256) / 65536) / 4294967296 < 18446744073709551616 ∧
    (((v + v / 256) + (v + v / 256) / 65536) + ((v + v / 256) + (v + v / 256) / 65536) / 4294967296) % 128 = dsN 256 8 v := by
  have d0 : v % 256 ≤ 8 := h.1
  have d1 : v / 256 % 256 ≤ 8 := h.2.1
  have d2 : v / 256 / 256 % 256 ≤ 8 := h.2.2.1
  have d3 : v / 256 / 256 / 256 % 256 ≤ 8 := h.2.2.2.1
  have d4 : v / 256 / 256 / 256 / 256 % 256 ≤ 8 := h.2.2.2.2.1
  have d5 : v / 256 / 256 / 256 / 256 / 256 % 256 ≤ 8 := h.2.2.2.2.2.1
  have d6 : v / 256 / 256 / 256 / 256 / 256 / 256 % 256 ≤ 8 := h.2.2.2.2.2.2.1
  have d7 : v / 256 / 256 / 256 / 256 / 256 / 256 / 256 % 256 ≤ 8 := h.2.2.2.2.2.2.2.1
  clear h
  have md : ∀ a : Nat, a = a % 256 + 256 * (a / 256) := fun a => (Nat.mod_add_div a 256).symm
  have e7 : v / 256 / 256 / 256 / 256 / 256 / 256 / 256 % 256 = v / 256 / 256 / 256 / 256 / 256 / 256 / 256 := by
    refine Nat.mod_eq_of_lt ?_
    simp only [Nat.div_div_eq_div_mul]
    exact Nat.div_lt_of_lt_mul hv
  rw [e7] at d7
  have q := tail_lin d0 d1 d2 d3 d4 d5 d6 d7 (md _) (md _) (md _) (md _) (md _) (md _) (md _)
  refine ⟨q.1, q.2.1, q.2.2.1, q.2.2.2.trans ?_⟩
  show _ = v % 256 + (v / 256 % 256 + (v / 256 / 256 % 256 + (v / 256 / 256 / 256 % 256 + (v / 256 / 256 / 256 / 256 % 256 + (v / 256 / 256 / 256 / 256 / 256 % 256 + (v / 256 / 256 / 256 / 256 / 256 / 256 % 256 + (v / 256 / 256 / 256 / 256 / 256 / 256 / 256 % 256 + 0)))))))
  rw [e7]
  simp only [Nat.add_assoc, Nat.add_zero]
/-- a long as a number from 0 on -/
def uN (x : Int64) : Nat := x.toBitVec.toNat
theorem uN_lt (x : Int64) : uN x < 18446744073709551616 := x.toBitVec.isLt
theorem uN_and (x y : Int64) : uN (x &&& y) = uN x &&& uN y := by
  unfold uN
  rw [Int64.toBitVec_and, BitVec.toNat_and]
theorem uN_add {x y : Int64} (h : uN x + uN y < 18446744073709551616) : uN (x + y) = uN x + uN y := by
  unfold uN at h ⊢
  rw [Int64.toBitVec_add, BitVec.toNat_add]
  exact Nat.mod_eq_of_lt h
theorem uN_sub {x y : Int64} (h : uN y ≤ uN x) : uN (x - y) = uN x - uN y := by
  have hx := uN_lt x
  unfold uN at h hx ⊢
  rw [Int64.toBitVec_sub, BitVec.toNat_sub]
  show (18446744073709551616 - y.toBitVec.toNat + x.toBitVec.toNat) % 18446744073709551616 = _
  omega
theorem uN_shr {x : Int64} {k : Int} (h0 : 0 ≤ k) (h1 : k < 64) : uN (lUshr x k) = uN x / 2 ^ k.toNat := by
  have h9 := ush_all k.toNat (by omega)
  rw [show ((k.toNat : Nat) : Int) = k from by omega] at h9
  unfold uN lUshr
  show (x.toUInt64 >>> ((iw k).toInt64.toUInt64 &&& Int64.toUInt64 63)).toBitVec.toNat = _
  rw [UInt64.toBitVec_shiftRight, BitVec.ushiftRight_eq', BitVec.toNat_ushiftRight, Nat.shiftRight_eq_div_pow]
  have e : (((iw k).toInt64.toUInt64 &&& Int64.toUInt64 63).toBitVec % 64).toNat = k.toNat := by
    rw [BitVec.toNat_umod]
    exact h9
  rw [e]
  rfl
theorem cntB_low (P : Int → Bool) : ∀ n : Nat, cntB P (n + 1) = (if P 0 then 1 else 0) + cntB (fun k => P (k + 1)) n := by
  intro n
  induction n with
  | zero =>
    show (0 : Int) + (if P ((0 : Nat) : Int) then 1 else 0) = (if P 0 then 1 else 0) + 0
    rw [Int.zero_add, Int.add_zero]; rfl
  | succ n ih =>
    rw [cntB_s, ih, cntB_s, Int.add_assoc]
    rfl
theorem ds_cnt : ∀ n v : Nat, ((dsN 2 n v : Nat) : Int) = cntB (fun k => v.testBit k.toNat) n := by
  intro n
  induction n with
  | zero => intro v; rfl
  | succ n ih =>
    intro v
    rw [cntB_low]
    show (((v % 2 + dsN 2 n (v / 2) : Nat)) : Int) = _
    rw [Int.natCast_add, ih]
    congr 1
    · show ((v % 2 : Nat) : Int) = if v.testBit 0 then 1 else 0
      rw [Nat.testBit_zero]
      rcases Nat.mod_two_eq_zero_or_one v with q | q <;> rw [q] <;> rfl
    · refine cntB_congr n fun N h0 h1 => ?_
      rw [show (N + 1).toNat = N.toNat + 1 by omega, Nat.testBit_succ]
/-- how many bits a long has -/
theorem pcL_ex (x : Int64) : ∃ y : Int, y = cntB (fun k => lb x k.toNat) 64 := ⟨_, rfl⟩
noncomputable def pcL (x : Int64) : Int := Classical.choose (pcL_ex x)
theorem pcL_def (x : Int64) : pcL x = cntB (fun k => lb x k.toNat) 64 := Classical.choose_spec (pcL_ex x)
theorem pcL_eq (x : Int64) : pcL x = ((dsN 2 64 (uN x) : Nat) : Int) := by
  rw [ds_cnt, pcL_def]
  unfold uN lb
  refine cntB_congr 64 fun N _ _ => ?_
  rw [BitVec.testBit_toNat]
theorem l2I_127 (x : Int64) : bAnd (l2I x) 127 = ((uN x % 128 : Nat) : Int) := by
  rw [show (127 : Int) = p2 7 - 1 from rfl, bAnd_mask (by decide) (by decide), show p2 7 = 128 from rfl]
  unfold l2I uN
  show x.toInt32.toBitVec.toInt % 128 = _
  rw [Int64.toBitVec_toInt32, BitVec.signExtend_eq_setWidth_of_le _ (by decide), BitVec.toInt_eq_toNat_cond, BitVec.toNat_setWidth]
  have : x.toBitVec.toNat % 2 ^ 32 % 128 = x.toBitVec.toNat % 128 := by omega
  split <;> omega
theorem bc_eq {x y1 y2 y3 y4 y5 y6 : Int64} (h1 : y1 = x - (lUshr x 1 &&& Int64.ofNat 6148914691236517205)) (h2 : y2 = (y1 &&& Int64.ofNat 3689348814741910323) + (lUshr y1 2 &&& Int64.ofNat 3689348814741910323)) (h3 : y3 = (y2 + lUshr y2 4) &&& Int64.ofNat 1085102592571150095)
    (h4 : y4 = y3 + lUshr y3 8) (h5 : y5 = y4 + lUshr y4 16) (h6 : y6 = y5 + lUshr y5 32) : bAnd (l2I y6) 127 = pcL x := by
  have hx := uN_lt x
  have G := g_all 8 (uN x) hx
  have m1 : uN (Int64.ofNat 6148914691236517205) = repN 85 8 := by decide +kernel
  have m2 : uN (Int64.ofNat 3689348814741910323) = repN 51 8 := by decide +kernel
  have m3 : uN (Int64.ofNat 1085102592571150095) = repN 15 8 := by decide +kernel
  have e1 : uN y1 = g1N 8 (uN x) := by
    rw [h1, uN_sub, uN_and, uN_shr (by decide) (by decide), m1]
    · rfl
    · rw [uN_and, uN_shr (by decide) (by decide)]
      exact Nat.le_trans Nat.and_le_left (Nat.div_le_self _ _)
  have r2 : repN 51 8 = 3689348814741910323 := by decide +kernel
  have e2 : uN y2 = g2N 8 (uN y1) := by
    have a1 : uN y1 &&& repN 51 8 ≤ repN 51 8 := Nat.and_le_right
    have a2 : uN y1 / 2 ^ (2 : Int).toNat &&& repN 51 8 ≤ repN 51 8 := Nat.and_le_right
    rw [h2, uN_add, uN_and, uN_and, uN_shr (by decide) (by decide), m2]
    · rfl
    · rw [uN_and, uN_and, uN_shr (by decide) (by decide), m2]
      omega
  have bb2 : uN y2 ≤ 7378697629483820646 := by
    have a1 : uN y1 &&& repN 51 8 ≤ repN 51 8 := Nat.and_le_right
    have a2 : uN y1 / 4 &&& repN 51 8 ≤ repN 51 8 := Nat.and_le_right
    rw [e2]
    unfold g2N
    omega
  have e3 : uN y3 = g3N 8 (uN y2) := by
    rw [h3, uN_and, uN_add, uN_shr (by decide) (by decide), m3]
    · rfl
    · rw [uN_shr (by decide) (by decide)]
      show uN y2 + uN y2 / 16 < _
      omega
  rw [e1] at e2
  rw [e2] at e3
  rw [← e3] at G
  obtain ⟨t1, t2, t3, t4⟩ := tail_all (uN_lt y3) G.2.2
  have e4 : uN y4 = uN y3 + uN y3 / 256 := by
    rw [h4, uN_add, uN_shr (by decide) (by decide)]
    · rfl
    · rw [uN_shr (by decide) (by decide)]; exact t1
  have e5 : uN y5 = uN y4 + uN y4 / 65536 := by
    rw [h5, uN_add, uN_shr (by decide) (by decide)]
    · rfl
    · rw [uN_shr (by decide) (by decide)]
      show uN y4 + uN y4 / 65536 < _
      rw [e4]; exact t2
  have e6 : uN y6 = uN y5 + uN y5 / 4294967296 := by
    rw [h6, uN_add, uN_shr (by decide) (by decide)]
    · rfl
    · rw [uN_shr (by decide) (by decide)]
      show uN y5 + uN y5 / 4294967296 < _
      rw [e5, e4]; exact t3
  rw [l2I_127, e6, e5, e4, t4, G.2.1, pcL_eq]
def s_J13_bitCount_95d88 : CS := (zc 1, ap [(1, 0)] (fun x h Rt X =>
Rt (some (.inl (pcL x))) h))
set_option maxRecDepth 100000 in
set_option maxHeartbeats 4000000 in
theorem o_J13_bitCount_95d88 : Obl true 1 2 (sp []) [] code_J13_bitCount_95d88 s_J13_bitCount_95d88 := by
  refine obl0 (by rfl) ?_
  intro x h Rt X hh hf hs
  have e := bc_eq (x := x) rfl rfl rfl rfl rfl rfl
  have k2 : Rt (some (.inl _)) h := e ▸ hs
  repeat' (first | apply And.intro | (with_reducible assumption) | (intro h9; first | (exfalso; omega) | (simp only [rI_rI, rJ_rJ, hI_rI, hJ_rI, hI_rJ, hJ_rJ, hI_rR, hR_rI, hR_rJ, hN_rI, hN_rJ, svH_63, svH_66, rfH_63, wvH_63, wvH_62, wvH_67, wvH_68, wvH_69, sc_63, sc_n62, sc_n67, sc_n68, sc_n69, sc_n70, reduceIte, Nat.reduceEqDiff, eq_self, up_up, up_self, up_ne, ne_eq, not_false_eq_true, Int.reduceEq, Int.reduceNeg] at h9; first | (exfalso; omega) | skip) | skip) | exact k2 | exact hs | omega | exact True.intro | (simp only [rI_rI, rJ_rJ, hI_rI, hJ_rI, hI_rJ, hJ_rJ, hI_rR, hR_rI, hR_rJ, hN_rI, hN_rJ, svH_63, svH_66, rfH_63, wvH_63, wvH_62, wvH_67, wvH_68, wvH_69, sc_63, sc_n62, sc_n67, sc_n68, sc_n69, sc_n70, reduceIte, Nat.reduceEqDiff, eq_self, up_up, up_self, up_ne, ne_eq, not_false_eq_true, Int.reduceEq, Int.reduceNeg]; omega))
theorem m_J13_bitCount_95d88 : MM 288 s_J13_bitCount_95d88 := mm_of (own := 12) (by rfl) k_J13_bitCount_95d88 (cl := []) trivial o_J13_bitCount_95d88

/-! ===== the values of all nodes, assignments, what holds of a state ===== -/
def vT (w env : Int → Int) : Nat → Int → Int
  | 0 => fun _ => 0
  | k + 1 => up (vT w env k) k (nV w env (vT w env k) k)
def vl (w env : Int → Int) (n : Int) : Int := vT w env (n.toNat + 1) n
theorem vT_low (w env : Int → Int) (k : Nat) {m : Int} (h : (k : Int) ≤ m ∨ m < 0) : vT w env k m = 0 := by
  induction k with
  | zero => rfl
  | succ k ih =>
    unfold vT
    rw [up_ne (by omega)]
    exact ih (by omega)
theorem vT_stay (w env : Int → Int) {m : Int} (k : Nat) (hm : m < k) : vT w env k m = vl w env m := by
  by_cases h0 : m < 0
  · unfold vl
    rw [vT_low _ _ _ (Or.inr h0), vT_low _ _ _ (Or.inr h0)]
  induction k with
  | zero => omega
  | succ k ih =>
    by_cases e : m = k
    · subst e
      unfold vl
      rw [show ((k : Nat) : Int).toNat = k from by omega]
    · rw [← ih (by omega)]
      show up (vT w env k) k _ m = _
      rw [up_ne e]
theorem vl_m1 (w env : Int → Int) : vl w env (-1) = 0 := by
  unfold vl
  rw [vT_low _ _ _ (Or.inr (by omega))]
theorem nV_congr {w env f g : Int → Int} {n : Int} (h2 : f (nd w n 2) = g (nd w n 2)) (h3 : f (nd w n 3) = g (nd w n 3)) (h4 : f (nd w n 4) = g (nd w n 4)) : nV w env f n = nV w env g n := by
  unfold nV
  rw [h2, h3, h4]
theorem vl_eq' {w env : Int → Int} {n : Int} (h0 : 0 ≤ n) (h : WFn w n) : vl w env n = nV w env (vl w env) n := by
  obtain ⟨-, ⟨o1, o2, o3, o4, o5, o6⟩, -⟩ := h.o
  have e : vl w env n = nV w env (vT w env n.toNat) n := by
    unfold vl
    show up (vT w env n.toNat) (n.toNat : Int) (nV w env (vT w env n.toNat) (n.toNat : Int)) n = _
    rw [show ((n.toNat : Nat) : Int) = n from by omega, up_self]
  rw [e]
  refine nV_congr ?_ ?_ ?_ <;> exact vT_stay _ _ _ (by omega)
/-- values with unused operands read elsewhere -/
theorem nV_use {w env f g : Int → Int} {n : Int} (h : WFn w n) (e : ∀ m, 0 ≤ m → m < n → f m = g m) : nV w env f n = nV w env g n := by
  obtain ⟨⟨k1, k2, k3, k4⟩, ⟨o1, o2, o3, o4, o5, o6⟩, p1, p2c, p3, p4, p5, p6, p7, p8, p9, -⟩ := h.o
  by_cases c2 : 0 ≤ nd w n 2
  · by_cases c3 : 0 ≤ nd w n 3
    · by_cases c4 : 0 ≤ nd w n 4
      · exact nV_congr (e _ c2 o2) (e _ c3 o4) (e _ c4 o6)
      · unfold nV
        rw [e _ c2 o2, e _ c3 o4]
        have hk : nd w n 0 ≠ 24 := by omega
        unfold opV
        repeat' split
        all_goals first | rfl | omega
    · unfold nV
      rw [e _ c2 o2]
      have hk : nd w n 0 ≠ 24 := by omega
      have hk2 : ¬ (2 ≤ nd w n 0 ∧ nd w n 0 ≤ 18) := by omega
      unfold opV
      repeat' split
      all_goals first | rfl | omega
  · have hk : nd w n 0 ≤ 1 := by omega
    unfold nV opV
    repeat' split
    all_goals first | rfl | omega
theorem ite01 {P : Prop} [Decidable P] : (if P then (1 : Int) else 0) = 0 ∨ (if P then (1 : Int) else 0) = 1 := by
  by_cases h : P
  · exact Or.inr (if_pos h)
  · exact Or.inl (if_neg h)
theorem cmpW_01 (k a b w : Int) : cmpW k a b w = 0 ∨ cmpW k a b w = 1 := ite01
theorem emod_rng {x w : Int} : 0 ≤ x % p2 w ∧ x % p2 w < p2 w := ⟨Int.emod_nonneg _ (by have := p2_pos w; omega), Int.emod_lt_of_pos _ (p2_pos w)⟩
theorem div_rng {a q M : Int} (h0 : 0 ≤ a) (h : a < M) (hq : 0 ≤ q) : 0 ≤ a / q ∧ a / q < M := by
  refine ⟨Int.ediv_nonneg h0 hq, Int.lt_of_le_of_lt (Int.ediv_le_self _ h0) h⟩
theorem shfW_rng {k a b w : Int} (h1 : 1 ≤ w) (h0 : 0 ≤ a) (h : a < p2 w) (hb : 0 ≤ b) : 0 ≤ shfW k a b w ∧ shfW k a b w < p2 w := by
  have hp := p2_pos w
  have hq := p2_pos b
  unfold shfW
  by_cases e1 : k = 10
  · rw [if_pos e1]; exact emod_rng
  · rw [if_neg e1]
    by_cases e2 : w ≤ b
    · rw [if_pos e2]; omega
    · rw [if_neg e2]
      by_cases e3 : k = 8
      · rw [if_pos e3]; exact emod_rng
      · rw [if_neg e3]; exact div_rng h0 h (by omega)
theorem and_rng {a b w : Int} (h0 : 0 ≤ a) (h : a < p2 w) (hb0 : 0 ≤ b) (hb : b < p2 w) (h8 : w ≤ 8) : 0 ≤ bAnd a b ∧ bAnd a b < p2 w := by
  have h256 := p2_le8 h8
  rw [bAnd_pos h0 (by omega) hb0 (by omega)]
  have := @Nat.and_le_left a.toNat b.toNat
  omega
theorem or_rng {a b w : Int} (h0 : 0 ≤ a) (h : a < p2 w) (hb0 : 0 ≤ b) (hb : b < p2 w) (h8 : w ≤ 8) : 0 ≤ bOr a b ∧ bOr a b < p2 w := by
  have h256 := p2_le8 h8
  have e := p2_nat w
  rw [bOr_pos h0 (by omega) hb0 (by omega)]
  have : a.toNat ||| b.toNat < 2 ^ w.toNat := Nat.or_lt_two_pow (by omega) (by omega)
  omega
theorem xor_rng {a b w : Int} (h0 : 0 ≤ a) (h : a < p2 w) (hb0 : 0 ≤ b) (hb : b < p2 w) (h8 : w ≤ 8) : 0 ≤ bXor a b ∧ bXor a b < p2 w := by
  have h256 := p2_le8 h8
  have e := p2_nat w
  rw [bXor_pos h0 (by omega) hb0 (by omega)]
  have : a.toNat ^^^ b.toNat < 2 ^ w.toNat := Nat.xor_lt_two_pow (by omega) (by omega)
  omega
/-- the environment gives words of the variables' widths -/
def Ev (w env : Int → Int) : Prop := Box (∀ v, 0 ≤ v → v < w 281 → 0 ≤ env v ∧ env v < p2 (nd w (w (282 + v)) 1))
theorem nV_rng {w env f : Int → Int} {n : Int} (h : WFn w n) (he : Ev w env) (hf : Lw w f n) : 0 ≤ nV w env f n ∧ nV w env f n < p2 (nd w n 1) := by
  obtain ⟨⟨k1, k2, k3, k4⟩, ⟨o1, o2, o3, o4, o5, o6⟩, p1, p2c, p3, p4, p5, p6, p7, p8, p9, p10, p11, p12, p13, p14, p15, p16⟩ := h.o
  have va := hf.o (nd w n 2)
  have vb := hf.o (nd w n 3)
  have vc := hf.o (nd w n 4)
  have hm := p2_pos (nd w n 1)
  unfold nV opV
  by_cases e0 : nd w n 0 = 0
  · rw [if_pos e0]; exact p2c e0
  rw [if_neg e0]
  by_cases e1 : nd w n 0 = 1
  · rw [if_pos e1]
    obtain ⟨q1, q2, q3⟩ := p3 e1
    have := he.o _ q1 q2
    rw [q3] at this
    exact this
  rw [if_neg e1]
  obtain ⟨va1, va2, va3, va4⟩ := va (p4 (by omega)) o2
  by_cases e2 : nd w n 0 = 2
  · rw [if_pos e2]; exact emod_rng
  rw [if_neg e2]
  by_cases e3 : nd w n 0 = 3
  · rw [if_pos e3]; exact emod_rng
  rw [if_neg e3]
  by_cases e4 : nd w n 0 = 4
  · rw [if_pos e4]; exact emod_rng
  rw [if_neg e4]
  by_cases e12 : nd w n 0 ≤ 12
  · obtain ⟨vb1, vb2, vb3, vb4⟩ := vb (p5 (by omega)) o4
    have q := p10 (by omega) e12
    rw [q.1] at va4
    rw [q.2] at vb4
    by_cases e5 : nd w n 0 = 5
    · rw [if_pos e5]; exact and_rng va3 va4 vb3 vb4 k4
    rw [if_neg e5]
    by_cases e6 : nd w n 0 = 6
    · rw [if_pos e6]; exact or_rng va3 va4 vb3 vb4 k4
    rw [if_neg e6]
    by_cases e7 : nd w n 0 = 7
    · rw [if_pos e7]; exact xor_rng va3 va4 vb3 vb4 k4
    rw [if_neg e7]
    by_cases e8 : nd w n 0 ≤ 10
    · rw [if_pos e8]; exact shfW_rng k3 va3 va4 vb3
    rw [if_neg e8]
    by_cases e9 : nd w n 0 = 11
    · rw [if_pos e9]
      split
      · omega
      · exact div_rng va3 va4 vb3
    rw [if_neg e9, if_pos (show nd w n 0 = 12 by omega)]
    split
    · exact ⟨va3, va4⟩
    · refine ⟨Int.emod_nonneg _ (by omega), Int.lt_of_lt_of_le (Int.emod_lt_of_pos _ (by omega)) (by omega)⟩
  rw [if_neg (show ¬ nd w n 0 = 5 by omega), if_neg (show ¬ nd w n 0 = 6 by omega), if_neg (show ¬ nd w n 0 = 7 by omega), if_neg (show ¬ nd w n 0 ≤ 10 by omega), if_neg (show ¬ nd w n 0 = 11 by omega), if_neg (show ¬ nd w n 0 = 12 by omega)]
  by_cases e17 : nd w n 0 ≤ 17
  · rw [if_pos e17]
    have q := p11 (by omega) e17
    rw [q.1, p2_1]
    have := cmpW_01 (nd w n 0) (f (nd w n 2)) (f (nd w n 3)) (nd w (nd w n 2) 1)
    omega
  rw [if_neg e17]
  by_cases e18 : nd w n 0 = 18
  · rw [if_pos e18]
    obtain ⟨vb1, vb2, vb3, vb4⟩ := vb (p5 (by omega)) o4
    have q := p12 e18
    have e1 := p2_add (a := nd w (nd w n 2) 1) (b := nd w (nd w n 3) 1) (by omega) (by omega)
    rw [q, e1]
    have hp := p2_pos (nd w (nd w n 3) 1)
    have e3 : (f (nd w n 2) + 1) * p2 (nd w (nd w n 3) 1) ≤ p2 (nd w (nd w n 2) 1) * p2 (nd w (nd w n 3) 1) := Int.mul_le_mul_of_nonneg_right (by omega) (by omega)
    rw [Int.add_mul, Int.one_mul] at e3
    have e5 : 0 ≤ f (nd w n 2) * p2 (nd w (nd w n 3) 1) := Int.mul_nonneg va3 (by omega)
    omega
  rw [if_neg e18]
  by_cases e19 : nd w n 0 = 19
  · rw [if_pos e19]; exact emod_rng
  rw [if_neg e19]
  by_cases e20 : nd w n 0 = 20
  · rw [if_pos e20]; exact emod_rng
  rw [if_neg e20]
  by_cases e21 : nd w n 0 = 21
  · rw [if_pos e21]; exact emod_rng
  rw [if_neg e21]
  by_cases e22 : nd w n 0 = 22
  · rw [if_pos e22]
    have := p2_lt (a := nd w (nd w n 2) 1) (b := nd w n 1) (by omega) (p15 (by omega))
    omega
  rw [if_neg e22]
  by_cases e23 : nd w n 0 = 23
  · rw [if_pos e23]; exact emod_rng
  rw [if_neg e23]
  have e24 : nd w n 0 = 24 := by omega
  obtain ⟨vb1, vb2, vb3, vb4⟩ := vb (p5 (by omega)) o4
  obtain ⟨vc1, vc2, vc3, vc4⟩ := vc (p6 (by omega)) o6
  obtain ⟨q1, q2, q3⟩ := p16 e24
  rw [q2] at vb4
  rw [q3] at vc4
  split
  · exact ⟨vb3, vb4⟩
  · exact ⟨vc3, vc4⟩
theorem vl_Lw {w env : Int → Int} {N : Int} (h : ∀ n, 0 ≤ n → n < N → WFn w n) (he : Ev w env) : ∀ k : Nat, (k : Int) ≤ N → Lw w (vl w env) k := by
  intro k
  induction k with
  | zero => intro _; exact Box.i fun m h0 h1 => by omega
  | succ k ih =>
    intro hk
    refine Box.i fun m h0 h1 => ?_
    by_cases e : m = k
    · subst e
      have hw := h k h0 (by omega)
      have := nV_rng hw he (ih (by omega))
      rw [← vl_eq' h0 hw] at this
      obtain ⟨⟨k1, k2, k3, k4⟩, -⟩ := hw.o
      exact ⟨k3, k4, this⟩
    · exact (ih (by omega)).o m h0 (by omega)
/-- all that holds of a state -/
def WF (w : Int → Int) : Prop := Box ((0 ≤ w 0 ∧ w 0 ≤ 40) ∧ (0 ≤ w 281 ∧ w 281 ≤ 4) ∧ (∀ n, 0 ≤ n → n < w 0 → WFn w n) ∧ (∀ v, 0 ≤ v → v < w 281 → 0 ≤ w (282 + v) ∧ w (282 + v) < w 0 ∧ nd w (w (282 + v)) 0 = 1 ∧ nd w (w (282 + v)) 5 = v) ∧ sumW w (w 281).toNat ≤ 16 ∧
  (∀ u v, 0 ≤ u → u < v → v < w 281 → w (282 + u) < w (282 + v)) ∧ (0 ≤ w 290 ∧ w 290 ≤ 20) ∧ (∀ k, 0 ≤ k → k < w 290 → 0 ≤ w (291 + k) ∧ w (291 + k) < w 0 ∧ nd w (w (291 + k)) 1 = 1 ∧ 0 ≤ w (311 + k) ∧ w (311 + k) ≤ 5) ∧ (0 ≤ w 331 ∧ w 331 ≤ 5) ∧
  (0 ≤ w 332 ∧ w 332 ≤ 8) ∧ (∀ k, 0 ≤ k → k < w 332 → 0 ≤ w (333 + k) ∧ w (333 + k) < w 0 ∧ nd w (w (333 + k)) 1 = 1 ∧ 1 ≤ w (341 + k) ∧ w (341 + k) ≤ 9) ∧ Ev w (fun v => w (286 + v)))
theorem WF.nn {w : Int → Int} (h : WF w) : 0 ≤ w 0 ∧ w 0 ≤ 40 := h.o.1
theorem WF.vn {w : Int → Int} (h : WF w) : 0 ≤ w 281 ∧ w 281 ≤ 4 := h.o.2.1
theorem WF.node {w : Int → Int} (h : WF w) {n : Int} (h0 : 0 ≤ n) (h1 : n < w 0) : WFn w n := h.o.2.2.1 n h0 h1
theorem WF.var {w : Int → Int} (h : WF w) {v : Int} (h0 : 0 ≤ v) (h1 : v < w 281) : 0 ≤ w (282 + v) ∧ w (282 + v) < w 0 ∧ nd w (w (282 + v)) 0 = 1 ∧ nd w (w (282 + v)) 5 = v := h.o.2.2.2.1 v h0 h1
theorem WF.s16 {w : Int → Int} (h : WF w) : sumW w (w 281).toNat ≤ 16 := h.o.2.2.2.2.1
theorem WF.asc {w : Int → Int} (h : WF w) {u v : Int} (h0 : 0 ≤ u) (h1 : u < v) (h2 : v < w 281) : w (282 + u) < w (282 + v) := h.o.2.2.2.2.2.1 u v h0 h1 h2
theorem WF.cn {w : Int → Int} (h : WF w) : 0 ≤ w 290 ∧ w 290 ≤ 20 := h.o.2.2.2.2.2.2.1
theorem WF.con {w : Int → Int} (h : WF w) {k : Int} (h0 : 0 ≤ k) (h1 : k < w 290) : 0 ≤ w (291 + k) ∧ w (291 + k) < w 0 ∧ nd w (w (291 + k)) 1 = 1 ∧ 0 ≤ w (311 + k) ∧ w (311 + k) ≤ 5 := h.o.2.2.2.2.2.2.2.1 k h0 h1
theorem WF.lev {w : Int → Int} (h : WF w) : 0 ≤ w 331 ∧ w 331 ≤ 5 := h.o.2.2.2.2.2.2.2.2.1
theorem WF.wn {w : Int → Int} (h : WF w) : 0 ≤ w 332 ∧ w 332 ≤ 8 := h.o.2.2.2.2.2.2.2.2.2.1
theorem WF.wish {w : Int → Int} (h : WF w) {k : Int} (h0 : 0 ≤ k) (h1 : k < w 332) : 0 ≤ w (333 + k) ∧ w (333 + k) < w 0 ∧ nd w (w (333 + k)) 1 = 1 ∧ 1 ≤ w (341 + k) ∧ w (341 + k) ≤ 9 := h.o.2.2.2.2.2.2.2.2.2.2.1 k h0 h1
theorem WF.inp {w : Int → Int} (h : WF w) : Ev w (fun v => w (286 + v)) := h.o.2.2.2.2.2.2.2.2.2.2.2
theorem WF.wd {w : Int → Int} (h : WF w) {n : Int} (h0 : 0 ≤ n) (h1 : n < w 0) : 1 ≤ nd w n 1 ∧ nd w n 1 ≤ 8 := (h.node h0 h1).o.1.2.2
theorem WF.vz {w : Int → Int} (h : WF w) : Vz w := ⟨(), h.vn, fun v h0 h1 => by
  have q := h.var h0 h1
  have q2 := h.nn
  exact ⟨q.1, by omega, h.wd q.1 q.2.1⟩⟩
theorem WF.wv {w : Int → Int} (h : WF w) {v : Int} (h0 : 0 ≤ v) (h1 : v < w 281) : 1 ≤ nd w (w (282 + v)) 1 ∧ nd w (w (282 + v)) 1 ≤ 8 := (h.vz.vs v h0 h1).2.2
theorem WF.vr {w env : Int → Int} (h : WF w) (he : Ev w env) {n : Int} (h0 : 0 ≤ n) (h1 : n < w 0) : 0 ≤ vl w env n ∧ vl w env n < p2 (nd w n 1) := by
  have := (vl_Lw (fun n a b => h.node a b) he (w 0).toNat (by have := h.nn; omega)).o n h0 (by omega)
  exact ⟨this.2.2.1, this.2.2.2⟩
theorem WF.lw {w env : Int → Int} (h : WF w) (he : Ev w env) {n : Int} (h0 : 0 ≤ n) (h1 : n ≤ w 0) : Lw w (vl w env) n := by
  have := (vl_Lw (fun n a b => h.node a b) he (w 0).toNat (by have := h.nn; omega))
  exact Box.i fun m a b => this.o m a (by omega)
theorem sumW_succ (w : Int → Int) (k : Nat) : sumW w (k + 1) = sumW w k + nd w (w (282 + (k : Int))) 1 := rfl
theorem sumW_le {w : Int → Int} (h : Vz w) {j : Nat} : ∀ k : Nat, j ≤ k → (k : Int) ≤ w 281 → 0 ≤ sumW w j ∧ sumW w j + ((k : Int) - j) ≤ sumW w k ∧ sumW w k ≤ 8 * k := by
  have h0 : ∀ k : Nat, (k : Int) ≤ w 281 → 0 ≤ sumW w k ∧ sumW w k ≤ 8 * k := by
    intro k
    induction k with
    | zero => intro _; exact ⟨Int.le_refl _, Int.le_refl _⟩
    | succ k ih =>
      intro hk
      have := ih (by omega)
      have q := h.vs k (by omega) (by omega)
      unfold sumW
      omega
  intro k
  induction k with
  | zero =>
    intro hj hk
    obtain rfl : j = 0 := by omega
    exact ⟨Int.le_refl _, by omega, Int.le_refl _⟩
  | succ k ih =>
    intro hj hk
    by_cases e : j = k + 1
    · subst e
      have := h0 (k + 1) hk
      omega
    · have q := h.vs k (by omega) (by omega)
      have := ih (by omega) (by omega)
      have := h0 (k + 1) hk
      have e1 : sumW w (k + 1) = sumW w k + nd w (w (282 + k)) 1 := rfl
      omega
/-- the lowest bit of a variable's word in an assignment -/
def plc (w : Int → Int) (v : Int) : Int := sumW w (w 281).toNat - sumW w (v + 1).toNat
def tot (w : Int → Int) : Int := p2 (sumW w (w 281).toNat)
/-- the words of the variables in the assignment with a number -/
def asg (w : Int → Int) (N v : Int) : Int := N / p2 (plc w v) % p2 (nd w (w (282 + v)) 1)
theorem asg_ev (w : Int → Int) (N : Int) : Ev w (asg w N) := Box.i fun _ _ _ => emod_rng
theorem plc_rng {w : Int → Int} (h : WF w) {v : Int} (h0 : 0 ≤ v) (h1 : v < w 281) : 0 ≤ plc w v ∧ plc w v + nd w (w (282 + v)) 1 ≤ 16 := by
  have q := h.s16
  have a := h.vn
  have b := sumW_le h.vz (j := (v + 1).toNat) (w 281).toNat (by omega) (by omega)
  have c := sumW_le h.vz (j := v.toNat) (v + 1).toNat (by omega) (by omega)
  have e1 : sumW w (v + 1).toNat = sumW w v.toNat + nd w (w (282 + v)) 1 := by
    rw [show (v + 1).toNat = v.toNat + 1 from by omega, sumW_succ, show ((v.toNat : Nat) : Int) = v from by omega]
  have d := sumW_le h.vz (j := v.toNat) v.toNat (by omega) (by omega)
  unfold plc
  omega
theorem tot_rng {w : Int → Int} (h : WF w) : 1 ≤ tot w ∧ tot w ≤ 65536 := by
  have := p2_pos (sumW w (w 281).toNat)
  have := p2_le16 h.s16
  unfold tot
  omega
/-- values depend on the variables alone -/
theorem vl_env {w e1 e2 : Int → Int} (h : WF w) (he : ∀ v, 0 ≤ v → v < w 281 → e1 v = e2 v) : ∀ k : Nat, (k : Int) ≤ w 0 → ∀ n : Int, n < (k : Int) → vl w e1 n = vl w e2 n := by
  intro k
  induction k with
  | zero =>
    intro _ n hn
    unfold vl
    rw [vT_low _ _ _ (Or.inr (by omega)), vT_low _ _ _ (Or.inr (by omega))]
  | succ k ih =>
    intro hk n hn
    by_cases e : n = k
    · subst e
      have hw := h.node (n := k) (by omega) (by omega)
      rw [vl_eq' (by omega) hw, vl_eq' (by omega) hw, nV_use hw (fun m a b => ih (by omega) m b)]
      obtain ⟨-, -, -, -, p3, -⟩ := hw.o
      unfold nV opV
      by_cases e0 : nd w k 0 = 0
      · rw [if_pos e0, if_pos e0]
      rw [if_neg e0, if_neg e0]
      by_cases e1' : nd w k 0 = 1
      · rw [if_pos e1', if_pos e1']
        exact he _ (p3 e1').1 (p3 e1').2.1
      rw [if_neg e1', if_neg e1']
    · exact ih (by omega) n (by omega)
theorem vl_env' {w e1 e2 : Int → Int} (h : WF w) (he : ∀ v, 0 ≤ v → v < w 281 → e1 v = e2 v) {n : Int} (hn : n < w 0) : vl w e1 n = vl w e2 n :=
  vl_env h he (w 0).toNat (by have := h.nn; omega) n (by have := h.nn; omega)

/-! ===== the class: quotients and remainders in lanes ===== -/
theorem lw_split (P : Int → Int64) (l : Nat) (a : Int) {m : Int} (h0 : 0 ≤ m) : ∀ n : Nat, lw P l a (m + n).toNat = lw P l a m.toNat + p2 m * lw P l (a + m) n := by
  intro n
  induction n with
  | zero =>
    rw [show m + ((0 : Nat) : Int) = m by omega]
    show _ = _ + p2 m * 0
    rw [Int.mul_zero, Int.add_zero]
  | succ n ih =>
    rw [show m + ((n + 1 : Nat) : Int) = (m + n) + 1 by omega, lw_i P l a (show 0 ≤ m + (n : Int) by omega), ih, lw_s, Int.mul_add, p2_add h0 (by omega), show a + (m + (n : Int)) = a + m + n by omega, Int.mul_left_comm]
    omega
theorem lw_cut (P : Int → Int64) (l : Nat) (a : Int) {m k : Int} (h0 : 0 ≤ m) (h1 : m ≤ k) : lw P l a k.toNat = lw P l a m.toNat + p2 m * lw P l (a + m) (k - m).toNat := by
  have := lw_split P l a h0 (k - m).toNat
  rw [show m + (((k - m).toNat : Nat) : Int) = k by omega] at this
  exact this
theorem lw_zero {P : Int → Int64} {l : Nat} {a n : Int} (h0 : 0 ≤ n) : (∀ j, 0 ≤ j → j < n → lb (P (a + j)) l = false) ↔ lw P l a n.toNat = 0 := by
  constructor
  · intro h
    rw [lw_val (x := 0) h0 fun j a b => by rw [h j a b, Int.zero_ediv]; rfl, Int.zero_emod]
  · intro h j j0 j1
    have := lw_biti P l (j := j) (n := n) a j0 j1
    rw [h, Int.zero_ediv] at this
    cases e : lb (P (a + j)) l with
    | false => rfl
    | true => rw [e] at this; cases this
theorem lw_1 (P : Int → Int64) (l : Nat) (a : Int) : lw P l a (1 : Int).toNat = b2 (lb (P a) l) := by
  show (0 : Int) + b2 (lb (P (a + ((0 : Nat) : Int))) l) * p2 ((0 : Nat) : Int) = _
  rw [show ((0 : Nat) : Int) = 0 from rfl, Int.add_zero, p2_0, Int.mul_one, Int.zero_add]
/-- one step of a long division -/
theorem dv_step {A B i k R q : Int} {fits : Bool} (hA : 0 ≤ A) (hB : 0 ≤ B) (hi : 0 ≤ i) (hk : i < k) (h : R = A % (B * p2 (i + 1))) (hq : q = if B = 0 then p2 (k - (i + 1)) - 1 else A / (B * p2 (i + 1))) (hf : fits = decide (B * p2 i ≤ R)) :
    (if fits then R - B * p2 i else R) = A % (B * p2 i) ∧ b2 fits + 2 * q = if B = 0 then p2 (k - i) - 1 else A / (B * p2 i) := by
  have hp := p2_pos i
  by_cases e : B = 0
  · subst e
    rw [Int.zero_mul, Int.emod_zero] at h
    rw [if_pos rfl] at hq ⊢
    rw [Int.zero_mul] at hf ⊢
    rw [Int.emod_zero]
    have : fits = true := by rw [hf]; exact decide_eq_true (by omega)
    rw [this, hq, show k - i = k - (i + 1) + 1 by omega, p2_succ (by omega)]
    refine ⟨?_, ?_⟩
    · rw [if_pos rfl, h, Int.sub_zero]
    · show 1 + 2 * _ = _
      omega
  · rw [if_neg e] at hq ⊢
    have hM : 0 < B * p2 i := Int.mul_pos (by omega) hp
    have eM : B * p2 (i + 1) = B * p2 i * 2 := by rw [p2_succ hi, Int.mul_comm 2, Int.mul_assoc]
    rw [eM] at h hq
    rw [emod2 A hM] at h
    have r0 := Int.emod_nonneg A (show B * p2 i ≠ 0 by omega)
    have r1 := Int.emod_lt_of_pos A hM
    have e2 : A / (B * p2 i * 2) = A / (B * p2 i) / 2 := by rw [Int.ediv_ediv_of_nonneg (by omega)]
    rw [e2] at hq
    rcases Int.emod_two_eq (A / (B * p2 i)) with u | u
    · rw [u, Int.mul_zero, Int.add_zero] at h
      have : fits = false := by rw [hf]; exact decide_eq_false (by omega)
      rw [this]
      refine ⟨by simp; exact h, ?_⟩
      show 0 + 2 * q = _
      omega
    · rw [u, Int.mul_one] at h
      have : fits = true := by rw [hf]; exact decide_eq_true (by omega)
      rw [this, if_pos rfl]
      refine ⟨by omega, ?_⟩
      show 1 + 2 * q = _
      omega
/-- a long division as far as the place m -/
def DvL (P R Q : Int → Int64) (a b to m k : Int) : Prop := Box (∀ l, l < 64 → lw R l 0 k.toNat = lw P l a k.toNat % (lw P l b k.toNat * p2 m) ∧ lw Q l (to + m) (k - m).toNat = if lw P l b k.toNat = 0 then p2 (k - m) - 1 else lw P l a k.toNat / (lw P l b k.toNat * p2 m))
theorem DvL.z {P R Q : Int → Int64} {a b to k : Int} (h0 : 0 ≤ k) (h : Bt R 0 k (fun j l => lb (P (a + j)) l)) : DvL P R Q a b to k k := Box.i fun l hl => by
  have ra := lw_rngi P l a h0
  have rb := lw_rngi P l b h0
  have e : lw R l 0 k.toNat = lw P l a k.toNat := lw_cg k.toNat fun j x y => h.o j x (by omega) l hl
  rw [e, Int.sub_self]
  show lw P l a k.toNat = _ ∧ (0 : Int) = _
  by_cases z : lw P l b k.toNat = 0
  · rw [z, Int.zero_mul, Int.emod_zero, if_pos rfl]
    exact ⟨rfl, rfl⟩
  · have : p2 k * 1 ≤ p2 k * lw P l b k.toNat := Int.mul_le_mul_of_nonneg_left (by omega) (by omega)
    rw [Int.mul_comm (p2 k) (lw P l b k.toNat)] at this
    rw [if_neg z, Int.emod_eq_of_lt ra.1 (by omega), Int.ediv_eq_zero_of_lt ra.1 (by omega)]
    exact ⟨rfl, rfl⟩
theorem DvL.st {P R R' Q : Int → Int64} {a b to i k : Int} {c1 c2 w : Int64} (H : DvL P R Q a b to (i + 1) k) (hw : Wr P Q to k) (h0 : 0 ≤ i) (h1 : i < k) (h8 : k ≤ 8) (b1 : b + 8 ≤ to) (hb : BoI R Q i b (k - i) c1) (ha : AnI Q b (k - i) k c2) (hR : Wr R R' i (k - i)) (ew : w = (c1 ||| c2) ^^^ Int64.ofNat 18446744073709551615)
    (hL : Ln R' i (k - i) (fun l => if lb w l then (lw R l i (k - i).toNat - lw Q l b (k - i).toNat) % p2 (k - i) else lw R l i (k - i).toNat)) : DvL P R' (up Q (to + i) w) a b to i k := Box.i fun l hl => by
  obtain ⟨H1, H2⟩ := H.o l hl
  have rA := lw_rngi P l a (show 0 ≤ k by omega)
  have rB := lw_rngi P l b (show 0 ≤ k by omega)
  have eb : ∀ n : Int, 0 ≤ n → n ≤ 8 → lw Q l b n.toNat = lw P l b n.toNat := fun n x y => hw.re x (by omega)
  have e0 := lw_cut R l 0 (m := i) (k := k) h0 (by omega)
  have e0' := lw_cut R' l 0 (m := i) (k := k) h0 (by omega)
  rw [Int.zero_add] at e0 e0'
  have elo : lw R' l 0 i.toNat = lw R l 0 i.toNat := hR.re h0 (by omega)
  have rlo := lw_rngi R l 0 h0
  have rhi := lw_rngi R l i (show 0 ≤ k - i by omega)
  have rb := lw_rngi P l b (show 0 ≤ k - i by omega)
  have hp := p2_pos i
  have eB := lw_cut P l b (m := k - i) (k := k) (by omega) (by omega)
  have f1 := hb.o l hl
  rw [eb _ (by omega) (by omega)] at f1
  have f2 := ha.o l hl
  have f3 : (∀ j, k - i ≤ j → j < k → lb (Q (b + j)) l = false) ↔ lw P l (b + (k - i)) (k - (k - i)).toNat = 0 := by
    rw [← lw_zero (by omega)]
    constructor
    · intro q j x y
      have := q (k - i + j) (by omega) (by omega)
      rw [hw.o _ (by omega)] at this
      rw [show b + (k - i) + j = b + (k - i + j) by omega]; exact this
    · intro q j x y
      have := q (j - (k - i)) (by omega) (by omega)
      rw [hw.o _ (by omega)]
      rw [show b + (k - i) + (j - (k - i)) = b + j by omega] at this; exact this
  rw [f3] at f2
  have r3 := lw_rngi P l (b + (k - i)) (show 0 ≤ k - (k - i) by omega)
  generalize lw P l (b + (k - i)) (k - (k - i)).toNat = hi at *
  have ewl : lb w l = !(lb c1 l || lb c2 l) := by rw [ew, lb_not hl, lb_or]
  have hpk : p2 k = p2 (k - i) * p2 i := by rw [← p2_add (by omega) h0]; congr 1; omega
  have rW := lw_rngi R l 0 (show 0 ≤ k by omega)
  have fits : lb w l = decide (lw P l b k.toNat * p2 i ≤ lw R l 0 k.toNat) := by
    rw [ewl]
    cases e2 : lb c2 l with
    | true =>
      have n0 : hi ≠ 0 := fun q => by rw [f2.mpr q] at e2; cases e2
      have g1 : p2 (k - i) * 1 ≤ p2 (k - i) * hi := Int.mul_le_mul_of_nonneg_left (by omega) (by have := p2_pos (k - i); omega)
      have g2 : p2 (k - i) * p2 i ≤ lw P l b k.toNat * p2 i := Int.mul_le_mul_of_nonneg_right (by omega) (by omega)
      rw [Bool.or_true]
      exact (decide_eq_false (by omega)).symm
    | false =>
      have z0 : hi = 0 := f2.mp e2
      rw [z0, Int.mul_zero, Int.add_zero] at eB
      rw [Bool.or_false, eB]
      by_cases g : lw R l i (k - i).toNat < lw P l b (k - i).toNat
      · rw [if_pos g] at f1
        have c : lb c1 l = true := by
          cases q : lb c1 l with
          | true => rfl
          | false => rw [q] at f1; cases f1
        have g2 : p2 i * (lw R l i (k - i).toNat + 1) ≤ p2 i * lw P l b (k - i).toNat := Int.mul_le_mul_of_nonneg_left (by omega) (by omega)
        rw [Int.mul_add, Int.mul_one] at g2
        rw [c, Int.mul_comm (lw P l b (k - i).toNat)]
        exact (decide_eq_false (by omega)).symm
      · rw [if_neg g] at f1
        have c : lb c1 l = false := by
          cases q : lb c1 l with
          | true => rw [q] at f1; cases f1
          | false => rfl
        have g2 : p2 i * lw P l b (k - i).toNat ≤ p2 i * lw R l i (k - i).toNat := Int.mul_le_mul_of_nonneg_left (by omega) (by omega)
        rw [c, Int.mul_comm (lw P l b (k - i).toNat)]
        exact (decide_eq_true (by omega)).symm
  have D := dv_step (A := lw P l a k.toNat) (B := lw P l b k.toNat) (i := i) (k := k) (R := lw R l 0 k.toNat) (fits := lb w l) rA.1 rB.1 h0 h1 H1 H2 fits
  refine ⟨?_, ?_⟩
  · rw [← D.1, e0', elo, hL.o l hl]
    dsimp only
    rw [eb _ (by omega) (by omega)]
    by_cases e : lb w l = true
    · rw [if_pos e, if_pos e]
      have z0 : hi = 0 := f2.mp (by
        rw [ewl] at e
        cases q : lb c2 l with
        | false => rfl
        | true => rw [q] at e; simp at e)
      rw [z0, Int.mul_zero, Int.add_zero] at eB
      have g : lb c1 l = false := by
        rw [ewl] at e
        cases q : lb c1 l with
        | false => rfl
        | true => rw [q] at e; simp at e
      rw [g] at f1
      have g2 : ¬ lw R l i (k - i).toNat < lw P l b (k - i).toNat := fun q => by rw [if_pos q] at f1; cases f1
      rw [Int.emod_eq_of_lt (by omega) (by omega), e0, eB, Int.mul_sub, Int.mul_comm (lw P l b (k - i).toNat)]
      omega
    · rw [if_neg e, if_neg e, e0]
  · rw [← D.2]
    have q := lw_cut (up Q (to + i) w) l (to + i) (m := 1) (k := k - i) (by decide) (by omega)
    rw [q, lw_1, up_self, p2_1]
    congr 2
    rw [show k - i - 1 = k - (i + 1) by omega, show to + i + 1 = to + (i + 1) by omega]
    exact lw_up (by omega) (Or.inl (by omega))
/-- kinds 11 and 12 -/
def dvW (n A B k : Int) : Int := if n = 11 then (if B = 0 then p2 k - 1 else A / B) else (if B = 0 then A else A % B)
theorem DvL.fin {P R Q : Int → Int64} {a b to k n : Int} (H : DvL P R Q a b to 0 k) (hn : n = 11) : Ln Q to k (fun l => dvW n (lw P l a k.toNat) (lw P l b k.toNat) k) := Box.i fun l hl => by
  have := (H.o l hl).2
  rw [p2_0, Int.mul_one, Int.add_zero, Int.sub_zero] at this
  show _ = dvW n _ _ k
  unfold dvW
  rw [if_pos hn]
  exact this
theorem DvL.fin2 {P R Q Q' : Int → Int64} {a b to k n : Int} (H : DvL P R Q a b to 0 k) (hn : n ≠ 11) (h : Bt Q' to k (fun j l => lb (R j) l)) : Ln Q' to k (fun l => dvW n (lw P l a k.toNat) (lw P l b k.toNat) k) := Box.i fun l hl => by
  have := (H.o l hl).1
  rw [p2_0, Int.mul_one] at this
  show _ = dvW n _ _ k
  unfold dvW
  rw [if_neg hn]
  have e : lw Q' l to k.toNat = lw R l 0 k.toNat := lw_cg k.toNat fun j x y => by rw [h.o j x (by omega) l hl, Int.zero_add]
  rw [e, this]
  split
  · rename_i q; rw [q, Int.emod_zero]
  · rfl
theorem dv_hp (h : Hp) (R Q R' : Int → Int64) (k : Int) (x : Int64) : rJ (rJ (rJ (rJ h 45 R) 44 Q) 45 R') 44 (up (hJ (rJ (rJ (rJ h 45 R) 44 Q) 45 R') 44) k x) = rJ (rJ h 45 R') 44 (up Q k x) := by
  rw [rJ_comm (rJ h 45 R) (by decide : (44 : Nat) ≠ 45), rJ_rJ, rJ_rJ]
  rfl
theorem dv_45 (h : Hp) (R : Int → Int64) (k : Int) (x : Int64) : rJ (rJ h 45 R) 45 (up (hJ (rJ h 45 R) 45) k x) = rJ h 45 (up R k x) := rJ_45 h R k x
theorem dv_id (h : Hp) (R : Int → Int64) : rJ h 45 R = rJ (rJ h 45 R) 44 (hJ h 44) := (rJ_id (rJ h 45 R) 44).symm
def s_X3_divide : CS := (zc 2, ap [(3, 43), (0, 0), (0, 0), (0, 0), (0, 0), (0, 0)] (fun n to a b k h Rt X =>
Pl to a b k ∧ (1 ≤ k ∧ (n = 11 ∨ n = 12)) ∧ ∀ R Q, Wr (hJ h 44) Q to k → Ln Q to k (fun l => dvW n (lw (hJ h 44) l a k.toNat) (lw (hJ h 44) l b k.toNat) k) → Rt none (rJ (rJ h 45 R) 44 Q)))
set_option maxRecDepth 100000 in
set_option maxHeartbeats 4000000 in
theorem o_X3_divide : Obl true 0 9 (sp [(66, s_X3_borrowFromRest), (68, s_X3_anyBit), (67, s_X3_takeFromRest)]) [] code_X3_divide s_X3_divide := by
  refine oblL (by rfl) [(3, [0, 1, 2, 3, 4, 5, 6]), (38, [0, 1, 2, 4, 5, 6]), (105, [0, 1, 2, 5, 6])] ?_
  intro n r_n to r_to a r_a b r_b k r_k h Rt X hh hf hs
  obtain ⟨⟨a1, a2, a3, a4, a5, a6, a7, a8⟩, ⟨k1, n1⟩, h2⟩ := hs
  refine ⟨fun m pc vs g => ∃ (i : Int) (R Q : Int → Int64), ((pc = 3 ∧ g = rJ h 45 R ∧ 0 ≤ i ∧ i ≤ k ∧ vs = [.inr (.inr (some 43)), .inl n, .inl to, .inl a, .inl b, .inl k, .inl i] ∧ Bt R 0 i (fun j l => lb (hJ h 44 (a + j)) l) ∧ m = 2000 + (k - i).toNat) ∨
    (pc = 38 ∧ g = rJ (rJ h 45 R) 44 Q ∧ -1 ≤ i ∧ i < k ∧ vs = [.inr (.inr (some 43)), .inl n, .inl to, .inl b, .inl k, .inl i] ∧ Wr (hJ h 44) Q to k ∧ DvL (hJ h 44) R Q a b to (i + 1) k ∧ m = 1000 + (i + 1).toNat) ∨
    (pc = 105 ∧ g = rJ (rJ h 45 R) 44 Q ∧ 0 ≤ i ∧ i ≤ k ∧ vs = [.inr (.inr (some 43)), .inl n, .inl to, .inl k, .inl i] ∧ Wr (hJ h 44) Q to k ∧ (∃ Q0, DvL (hJ h 44) R Q0 a b to 0 k) ∧ (n = 11 → Ln Q to k (fun l => dvW n (lw (hJ h 44) l a k.toNat) (lw (hJ h 44) l b k.toNat) k)) ∧ (n = 12 → Bt Q to i (fun j l => lb (R j) l)) ∧ m = (k - i).toNat)), ?_, ?_⟩
  · repeat' (first | apply And.intro | (with_reducible assumption) | (intro h9; first | (exfalso; omega) | (simp only [rI_rI, rJ_rJ, hI_rI, hJ_rI, hI_rJ, hJ_rJ, hI_rR, hR_rI, hR_rJ, hN_rI, hN_rJ, svH_63, svH_66, rfH_63, wvH_63, wvH_62, wvH_67, wvH_68, wvH_69, sc_63, sc_n62, sc_n67, sc_n68, sc_n69, sc_n70, reduceIte, Nat.reduceEqDiff, eq_self, up_up, up_self, up_ne, ne_eq, not_false_eq_true, Int.reduceEq, Int.reduceNeg] at h9; first | (exfalso; omega) | skip) | skip) | exact Exists.intro _ ⟨0, hJ h 45, hJ h 44, Or.inl ⟨rfl, (rJ_id h 45).symm, by omega, by omega, rfl, Bt.z _ _ _, rfl⟩⟩ | exact h2 | exact h2 (by omega) | omega | exact True.intro | (simp only [rI_rI, rJ_rJ, hI_rI, hJ_rI, hI_rJ, hJ_rJ, hI_rR, hR_rI, hR_rJ, hN_rI, hN_rJ, svH_63, svH_66, rfH_63, wvH_63, wvH_62, wvH_67, wvH_68, wvH_69, sc_63, sc_n62, sc_n67, sc_n68, sc_n69, sc_n70, reduceIte, Nat.reduceEqDiff, eq_self, up_up, up_self, up_ne, ne_eq, not_false_eq_true, Int.reduceEq, Int.reduceNeg]; omega))
  · rintro m pc live vs g hl ⟨i, R, Q, ⟨rfl, rfl, i1, i2, rfl, i3, rfl⟩ | ⟨rfl, rfl, i1, i2, rfl, i3, i4, rfl⟩ | ⟨rfl, rfl, i1, i2, rfl, i3, ⟨Q0, i4⟩, i5, i6, rfl⟩⟩ hv hh1 hf1
    · rcases look3 hl with ⟨_, rfl⟩ | ⟨q, _⟩ | ⟨q, _⟩
      · by_cases z : i < k
        · have x : ∀ l, l < 64 → lb (hJ (rJ h 45 R) 44 (a + i)) l = lb (hJ h 44 (a + i)) l := fun l _ => rfl
          have i4 := i3.st x
          rw [Int.zero_add] at i4
          repeat' (first | apply And.intro | (with_reducible assumption) | (intro h9; first | (exfalso; omega) | (simp only [rI_rI, rJ_rJ, hI_rI, hJ_rI, hI_rJ, hJ_rJ, hI_rR, hR_rI, hR_rJ, hN_rI, hN_rJ, svH_63, svH_66, rfH_63, wvH_63, wvH_62, wvH_67, wvH_68, wvH_69, sc_63, sc_n62, sc_n67, sc_n68, sc_n69, sc_n70, reduceIte, Nat.reduceEqDiff, eq_self, up_up, up_self, up_ne, ne_eq, not_false_eq_true, Int.reduceEq, Int.reduceNeg] at h9; first | (exfalso; omega) | skip) | skip) | exact Exists.intro _ ⟨by omega, i + 1, _, Q, Or.inl ⟨rfl, rJ_45 _ _ _ _, by omega, by omega, rfl, i4, rfl⟩⟩ | exact h2 | exact h2 (by omega) | omega | exact True.intro | (simp only [rI_rI, rJ_rJ, hI_rI, hJ_rI, hI_rJ, hJ_rJ, hI_rR, hR_rI, hR_rJ, hN_rI, hN_rJ, svH_63, svH_66, rfH_63, wvH_63, wvH_62, wvH_67, wvH_68, wvH_69, sc_63, sc_n62, sc_n67, sc_n68, sc_n69, sc_n70, reduceIte, Nat.reduceEqDiff, eq_self, up_up, up_self, up_ne, ne_eq, not_false_eq_true, Int.reduceEq, Int.reduceNeg]; omega))
        · obtain rfl : i = k := by omega
          have i5 := DvL.z (Q := hJ h 44) (b := b) (to := to) i1 i3
          repeat' (first | apply And.intro | (with_reducible assumption) | (intro h9; first | (exfalso; omega) | (simp only [rI_rI, rJ_rJ, hI_rI, hJ_rI, hI_rJ, hJ_rJ, hI_rR, hR_rI, hR_rJ, hN_rI, hN_rJ, svH_63, svH_66, rfH_63, wvH_63, wvH_62, wvH_67, wvH_68, wvH_69, sc_63, sc_n62, sc_n67, sc_n68, sc_n69, sc_n70, reduceIte, Nat.reduceEqDiff, eq_self, up_up, up_self, up_ne, ne_eq, not_false_eq_true, Int.reduceEq, Int.reduceNeg] at h9; first | (exfalso; omega) | skip) | skip) | exact Exists.intro _ ⟨by omega, i - 1, R, hJ h 44, Or.inr (Or.inl ⟨rfl, dv_id _ _, by omega, by omega, rfl, Box.i (fun _ _ => rfl), (by rw [show i - 1 + 1 = i by omega]; exact i5), rfl⟩)⟩ | exact h2 | exact h2 (by omega) | omega | exact True.intro | (simp only [rI_rI, rJ_rJ, hI_rI, hJ_rI, hI_rJ, hJ_rJ, hI_rR, hR_rI, hR_rJ, hN_rI, hN_rJ, svH_63, svH_66, rfH_63, wvH_63, wvH_62, wvH_67, wvH_68, wvH_69, sc_63, sc_n62, sc_n67, sc_n68, sc_n69, sc_n70, reduceIte, Nat.reduceEqDiff, eq_self, up_up, up_self, up_ne, ne_eq, not_false_eq_true, Int.reduceEq, Int.reduceNeg]; omega))
      · cases q
      · cases q
    · rcases look3 hl with ⟨q, _⟩ | ⟨_, rfl⟩ | ⟨q, _⟩
      · cases q
      · by_cases z : 0 ≤ i
        · repeat' (first | apply And.intro | (with_reducible assumption) | (intro h9; first | (exfalso; omega) | (simp only [rI_rI, rJ_rJ, hI_rI, hJ_rI, hI_rJ, hJ_rJ, hI_rR, hR_rI, hR_rJ, hN_rI, hN_rJ, svH_63, svH_66, rfH_63, wvH_63, wvH_62, wvH_67, wvH_68, wvH_69, sc_63, sc_n62, sc_n67, sc_n68, sc_n69, sc_n70, reduceIte, Nat.reduceEqDiff, eq_self, up_up, up_self, up_ne, ne_eq, not_false_eq_true, Int.reduceEq, Int.reduceNeg] at h9; first | (exfalso; omega) | skip) | skip) | exact Exists.intro _ ⟨by omega, i + -1, _, _, Or.inr (Or.inl ⟨rfl, dv_hp _ _ _ _ _ _, by omega, by omega, rfl, i3.in _ z i2, (by rw [show i + -1 + 1 = i by omega]; exact i4.st i3 z i2 a2 a8 (by assumption) (by assumption) (by assumption) rfl (by assumption)), rfl⟩)⟩ | exact h2 | exact h2 (by omega) | omega | exact True.intro | (simp only [rI_rI, rJ_rJ, hI_rI, hJ_rI, hI_rJ, hJ_rJ, hI_rR, hR_rI, hR_rJ, hN_rI, hN_rJ, svH_63, svH_66, rfH_63, wvH_63, wvH_62, wvH_67, wvH_68, wvH_69, sc_63, sc_n62, sc_n67, sc_n68, sc_n69, sc_n70, reduceIte, Nat.reduceEqDiff, eq_self, up_up, up_self, up_ne, ne_eq, not_false_eq_true, Int.reduceEq, Int.reduceNeg]; omega))
        · obtain rfl : i = -1 := by omega
          have i5 : n = 11 → Ln Q to k (fun l => dvW n (lw (hJ h 44) l a k.toNat) (lw (hJ h 44) l b k.toNat) k) := fun e => i4.fin e
          repeat' (first | apply And.intro | (with_reducible assumption) | (intro h9; first | (exfalso; omega) | (simp only [rI_rI, rJ_rJ, hI_rI, hJ_rI, hI_rJ, hJ_rJ, hI_rR, hR_rI, hR_rJ, hN_rI, hN_rJ, svH_63, svH_66, rfH_63, wvH_63, wvH_62, wvH_67, wvH_68, wvH_69, sc_63, sc_n62, sc_n67, sc_n68, sc_n69, sc_n70, reduceIte, Nat.reduceEqDiff, eq_self, up_up, up_self, up_ne, ne_eq, not_false_eq_true, Int.reduceEq, Int.reduceNeg] at h9; first | (exfalso; omega) | skip) | skip) | exact Exists.intro _ ⟨by omega, 0, R, Q, Or.inr (Or.inr ⟨rfl, rfl, by omega, by omega, rfl, i3, ⟨Q, i4⟩, i5, fun _ => Bt.z _ _ _, rfl⟩)⟩ | exact h2 | exact h2 (by omega) | omega | exact True.intro | (simp only [rI_rI, rJ_rJ, hI_rI, hJ_rI, hI_rJ, hJ_rJ, hI_rR, hR_rI, hR_rJ, hN_rI, hN_rJ, svH_63, svH_66, rfH_63, wvH_63, wvH_62, wvH_67, wvH_68, wvH_69, sc_63, sc_n62, sc_n67, sc_n68, sc_n69, sc_n70, reduceIte, Nat.reduceEqDiff, eq_self, up_up, up_self, up_ne, ne_eq, not_false_eq_true, Int.reduceEq, Int.reduceNeg]; omega))
      · cases q
    · rcases look3 hl with ⟨q, _⟩ | ⟨q, _⟩ | ⟨_, rfl⟩
      · cases q
      · cases q
      · by_cases e : n = 12
        · by_cases z : i < k
          · have x : ∀ l, l < 64 → lb (hJ (rJ (rJ h 45 R) 44 Q) 45 i) l = lb (R i) l := fun l _ => rfl
            have i7 := (i6 e).st x
            repeat' (first | apply And.intro | (with_reducible assumption) | (intro h9; first | (exfalso; omega) | (simp only [rI_rI, rJ_rJ, hI_rI, hJ_rI, hI_rJ, hJ_rJ, hI_rR, hR_rI, hR_rJ, hN_rI, hN_rJ, svH_63, svH_66, rfH_63, wvH_63, wvH_62, wvH_67, wvH_68, wvH_69, sc_63, sc_n62, sc_n67, sc_n68, sc_n69, sc_n70, reduceIte, Nat.reduceEqDiff, eq_self, up_up, up_self, up_ne, ne_eq, not_false_eq_true, Int.reduceEq, Int.reduceNeg] at h9; first | (exfalso; omega) | skip) | skip) | exact Exists.intro _ ⟨by omega, i + 1, R, _, Or.inr (Or.inr ⟨rfl, rJ_44 _ _ _ _, by omega, by omega, rfl, i3.in _ i1 z, ⟨Q0, i4⟩, (fun q => by omega), fun _ => i7, rfl⟩)⟩ | exact h2 | exact h2 (by omega) | omega | exact True.intro | (simp only [rI_rI, rJ_rJ, hI_rI, hJ_rI, hI_rJ, hJ_rJ, hI_rR, hR_rI, hR_rJ, hN_rI, hN_rJ, svH_63, svH_66, rfH_63, wvH_63, wvH_62, wvH_67, wvH_68, wvH_69, sc_63, sc_n62, sc_n67, sc_n68, sc_n69, sc_n70, reduceIte, Nat.reduceEqDiff, eq_self, up_up, up_self, up_ne, ne_eq, not_false_eq_true, Int.reduceEq, Int.reduceNeg]; omega))
          · obtain rfl : i = k := by omega
            have k2 := h2 R Q i3 (i4.fin2 (by omega) (i6 e))
            repeat' (first | apply And.intro | (with_reducible assumption) | (intro h9; first | (exfalso; omega) | (simp only [rI_rI, rJ_rJ, hI_rI, hJ_rI, hI_rJ, hJ_rJ, hI_rR, hR_rI, hR_rJ, hN_rI, hN_rJ, svH_63, svH_66, rfH_63, wvH_63, wvH_62, wvH_67, wvH_68, wvH_69, sc_63, sc_n62, sc_n67, sc_n68, sc_n69, sc_n70, reduceIte, Nat.reduceEqDiff, eq_self, up_up, up_self, up_ne, ne_eq, not_false_eq_true, Int.reduceEq, Int.reduceNeg] at h9; first | (exfalso; omega) | skip) | skip) | exact k2 | exact h2 | exact h2 (by omega) | omega | exact True.intro | (simp only [rI_rI, rJ_rJ, hI_rI, hJ_rI, hI_rJ, hJ_rJ, hI_rR, hR_rI, hR_rJ, hN_rI, hN_rJ, svH_63, svH_66, rfH_63, wvH_63, wvH_62, wvH_67, wvH_68, wvH_69, sc_63, sc_n62, sc_n67, sc_n68, sc_n69, sc_n70, reduceIte, Nat.reduceEqDiff, eq_self, up_up, up_self, up_ne, ne_eq, not_false_eq_true, Int.reduceEq, Int.reduceNeg]; omega))
        · have k2 := h2 R Q i3 (i5 (by omega))
          repeat' (first | apply And.intro | (with_reducible assumption) | (intro h9; first | (exfalso; omega) | (simp only [rI_rI, rJ_rJ, hI_rI, hJ_rI, hI_rJ, hJ_rJ, hI_rR, hR_rI, hR_rJ, hN_rI, hN_rJ, svH_63, svH_66, rfH_63, wvH_63, wvH_62, wvH_67, wvH_68, wvH_69, sc_63, sc_n62, sc_n67, sc_n68, sc_n69, sc_n70, reduceIte, Nat.reduceEqDiff, eq_self, up_up, up_self, up_ne, ne_eq, not_false_eq_true, Int.reduceEq, Int.reduceNeg] at h9; first | (exfalso; omega) | skip) | skip) | exact k2 | exact h2 | exact h2 (by omega) | omega | exact True.intro | (simp only [rI_rI, rJ_rJ, hI_rI, hJ_rI, hI_rJ, hJ_rJ, hI_rR, hR_rI, hR_rJ, hN_rI, hN_rJ, svH_63, svH_66, rfH_63, wvH_63, wvH_62, wvH_67, wvH_68, wvH_69, sc_63, sc_n62, sc_n67, sc_n68, sc_n69, sc_n70, reduceIte, Nat.reduceEqDiff, eq_self, up_up, up_self, up_ne, ne_eq, not_false_eq_true, Int.reduceEq, Int.reduceNeg]; omega))
theorem m_X3_divide : MM 65 s_X3_divide := mm_of (own := 2) (by rfl) k_X3_divide (cl := [(66, s_X3_borrowFromRest), (68, s_X3_anyBit), (67, s_X3_takeFromRest)]) ⟨m_X3_borrowFromRest, m_X3_anyBit, m_X3_takeFromRest, trivial⟩ o_X3_divide

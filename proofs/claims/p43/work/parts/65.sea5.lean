/-! ===== the class: bits that are fixed ===== -/
theorem ib_lo {u v i j : Int} (h0 : 0 ≤ j) (h1 : j < i) : ib (u + v * p2 i) j = ib u j := by
  unfold ib
  have hj := p2_pos j
  have e : p2 i = 2 * p2 (i - j - 1) * p2 j := by rw [← p2_succ (by omega), ← p2_add (by omega) h0]; congr 1; omega
  rw [e, ← Int.mul_assoc, Int.add_mul_ediv_right _ _ (by omega), Int.mul_left_comm, Int.add_mul_emod_self_left]
theorem ib_hi {u i : Int} (h0 : 0 ≤ u) (h1 : u < p2 i) : ib (u + 1 * p2 i) i = true ∧ ib u i = false := by
  unfold ib
  have hi := p2_pos i
  rw [Int.add_mul_ediv_right _ _ (by omega), Int.ediv_eq_zero_of_lt h0 h1]
  exact ⟨rfl, rfl⟩
theorem ib_ext {x y k : Int} (hk : 0 ≤ k) (x0 : 0 ≤ x) (x1 : x < p2 k) (y0 : 0 ≤ y) (y1 : y < p2 k) (h : ∀ j, 0 ≤ j → j < k → ib x j = ib y j) : x = y := by
  have e : x.toNat = y.toNat := by
    apply Nat.eq_of_testBit_eq
    intro i
    by_cases z : (i : Int) < k
    · have := h i (by omega) z
      rw [ib_nat x0, ib_nat y0] at this
      exact this
    · have pk : p2 k ≤ p2 (i : Int) := p2_le (by omega)
      have e2 := p2_nat (i : Int)
      rw [Int.toNat_natCast] at e2
      rw [Nat.testBit_lt_two_pow (by omega), Nat.testBit_lt_two_pow (by omega)]
  omega
/-- bits that occur -/
def OcI (P : Int → Bool) (u i : Int) (Q : Int → Prop) : Prop := Box (0 ≤ u ∧ u < p2 i ∧ ∀ j, 0 ≤ j → j < i → (ib u j = true ↔ Q j))
theorem OcI.hit {P : Int → Bool} {u i : Int} {Q : Int → Prop} (h : OcI P u i Q) (h0 : 0 ≤ i) (h1 : i < 20) (q : Q i) : OcI P (bOr u (sShl 1 i)) (i + 1) Q := by
  obtain ⟨a, b, c⟩ := h.o
  have e := or_add h0 h1 a b (Or.inr rfl : (1 : Int) = 0 ∨ (1 : Int) = 1)
  have p := p2_succ h0
  refine Box.i ⟨by omega, by omega, fun j j0 j1 => ?_⟩
  rw [e]
  by_cases z : j = i
  · subst z
    rw [(ib_hi a b).1]
    exact ⟨fun _ => q, fun _ => rfl⟩
  · rw [ib_lo j0 (by omega)]
    exact c j j0 (by omega)
theorem OcI.miss {P : Int → Bool} {u i : Int} {Q : Int → Prop} (h : OcI P u i Q) (h0 : 0 ≤ i) (q : ¬ Q i) : OcI P u (i + 1) Q := by
  obtain ⟨a, b, c⟩ := h.o
  have p := p2_succ h0
  refine Box.i ⟨a, by omega, fun j j0 j1 => ?_⟩
  by_cases z : j = i
  · subst z
    rw [(ib_hi a b).2]
    exact ⟨fun r => (by cases r), fun r => absurd r q⟩
  · exact c j j0 (by omega)
/-- a bit of a node in one of these lanes, turned over or not -/
def occ (P : Int → Int64) (n : Int) (s t : Int64) (j : Int) : Prop := ∃ l, l < 64 ∧ lb s l = true ∧ (lb (P (n * 8 + j)) l ^^ lb t l) = true
theorem occ_0 {P : Int → Int64} {n : Int} {s t : Int64} {j : Int} (h : cmpL ((P (n * 8 + j) ^^^ t) &&& s) 0 = 0) : ¬ occ P n s t j := fun ⟨l, _, l2, l3⟩ => by
  have : lb ((P (n * 8 + j) ^^^ t) &&& s) l = false := by rw [cmpL_0.mp h, lb_0]
  rw [lb_and, lb_xor, l2, l3] at this
  cases this
theorem occ_1 {P : Int → Int64} {n : Int} {s t : Int64} {j : Int} (h : cmpL ((P (n * 8 + j) ^^^ t) &&& s) 0 ≠ 0) : occ P n s t j := by
  obtain ⟨l, l1, l2, -⟩ := low_ex (fun q => h (cmpL_0.mpr q))
  rw [lb_and, lb_xor, Bool.and_eq_true] at l2
  exact ⟨l, l1, l2.2, l2.1⟩
def s_X5_bitsThatOccur : CS := (zc 2, ap [(3, 46), (0, 0), (0, 0), (1, 0), (1, 0)] (fun n k s t h Rt X =>
(0 ≤ n ∧ n < 40 ∧ 0 ≤ k ∧ k ≤ 8) ∧ ∀ u, OcI (fun _ => true) u k (occ (hJ h 44) n s t) → Rt (some (.inl u)) h))
set_option maxRecDepth 100000 in
set_option maxHeartbeats 4000000 in
theorem o_X5_bitsThatOccur : Obl true 1 9 (sp [(47, s_X3_plane)]) [] code_X5_bitsThatOccur s_X5_bitsThatOccur := by
  refine oblL (by rfl) [(6, [0, 1, 2, 3, 5, 7, 8])] ?_
  intro n r_n k r_k s t h Rt X hh hf hs
  obtain ⟨⟨a1, a2, a3, a4⟩, h2⟩ := hs
  refine ⟨fun m pc vs g => ∃ (i u : Int), g = h ∧ vs = [.inr (.inr (some 46)), .inl n, .inl k, .inr (.inl s), .inr (.inl t), .inl u, .inl i] ∧ 0 ≤ i ∧ i ≤ k ∧ OcI (fun _ => true) u i (occ (hJ h 44) n s t) ∧ m = (k - i).toNat, ?_, ?_⟩
  · have z : OcI (fun _ => true) 0 0 (occ (hJ h 44) n s t) := Box.i ⟨by omega, (show (0 : Int) < p2 0 by decide), fun j a b => by omega⟩
    repeat' (first | apply And.intro | (with_reducible assumption) | (intro h9; first | (exfalso; omega) | (simp only [rI_rI, rJ_rJ, hI_rI, hJ_rI, hI_rJ, hJ_rJ, hI_rR, hR_rI, hR_rJ, hN_rI, hN_rJ, svH_63, svH_66, rfH_63, wvH_63, wvH_62, wvH_67, wvH_68, wvH_69, sc_63, sc_n62, sc_n67, sc_n68, sc_n69, sc_n70, reduceIte, Nat.reduceEqDiff, eq_self, up_up, up_self, up_ne, ne_eq, not_false_eq_true, Int.reduceEq, Int.reduceNeg] at h9; first | (exfalso; omega) | skip) | skip) | exact Exists.intro _ ⟨0, 0, rfl, rfl, by omega, by omega, z, rfl⟩ | exact h2 | exact h2 (by omega) | omega | exact True.intro | (simp only [rI_rI, rJ_rJ, hI_rI, hJ_rI, hI_rJ, hJ_rJ, hI_rR, hR_rI, hR_rJ, hN_rI, hN_rJ, svH_63, svH_66, rfH_63, wvH_63, wvH_62, wvH_67, wvH_68, wvH_69, sc_63, sc_n62, sc_n67, sc_n68, sc_n69, sc_n70, reduceIte, Nat.reduceEqDiff, eq_self, up_up, up_self, up_ne, ne_eq, not_false_eq_true, Int.reduceEq, Int.reduceNeg]; omega))
  · rintro m pc live vs g hl ⟨i, u, rfl, rfl, i1, i2, i3, rfl⟩ hv hh1 hf1
    obtain ⟨rfl, rfl⟩ := look1 hl
    by_cases z : i < k
    · repeat' (first | apply And.intro | (with_reducible assumption) | (intro h9; first | (exfalso; omega) | (simp only [rI_rI, rJ_rJ, hI_rI, hJ_rI, hI_rJ, hJ_rJ, hI_rR, hR_rI, hR_rJ, hN_rI, hN_rJ, svH_63, svH_66, rfH_63, wvH_63, wvH_62, wvH_67, wvH_68, wvH_69, sc_63, sc_n62, sc_n67, sc_n68, sc_n69, sc_n70, reduceIte, Nat.reduceEqDiff, eq_self, up_up, up_self, up_ne, ne_eq, not_false_eq_true, Int.reduceEq, Int.reduceNeg] at h9; first | (exfalso; omega) | skip) | skip) | exact Exists.intro _ ⟨by omega, i + 1, _, rfl, rfl, by omega, by omega, i3.hit i1 (by omega) (occ_1 (by assumption)), rfl⟩ | exact Exists.intro _ ⟨by omega, i + 1, _, rfl, rfl, by omega, by omega, i3.miss i1 (occ_0 (by assumption)), rfl⟩ | exact h2 | exact h2 (by omega) | omega | exact True.intro | (simp only [rI_rI, rJ_rJ, hI_rI, hJ_rI, hI_rJ, hJ_rJ, hI_rR, hR_rI, hR_rJ, hN_rI, hN_rJ, svH_63, svH_66, rfH_63, wvH_63, wvH_62, wvH_67, wvH_68, wvH_69, sc_63, sc_n62, sc_n67, sc_n68, sc_n69, sc_n70, reduceIte, Nat.reduceEqDiff, eq_self, up_up, up_self, up_ne, ne_eq, not_false_eq_true, Int.reduceEq, Int.reduceNeg]; omega))
    · obtain rfl : i = k := by omega
      have k2 := h2 u i3
      repeat' (first | apply And.intro | (with_reducible assumption) | (intro h9; first | (exfalso; omega) | (simp only [rI_rI, rJ_rJ, hI_rI, hJ_rI, hI_rJ, hJ_rJ, hI_rR, hR_rI, hR_rJ, hN_rI, hN_rJ, svH_63, svH_66, rfH_63, wvH_63, wvH_62, wvH_67, wvH_68, wvH_69, sc_63, sc_n62, sc_n67, sc_n68, sc_n69, sc_n70, reduceIte, Nat.reduceEqDiff, eq_self, up_up, up_self, up_ne, ne_eq, not_false_eq_true, Int.reduceEq, Int.reduceNeg] at h9; first | (exfalso; omega) | skip) | skip) | exact k2 | exact h2 | exact h2 (by omega) | omega | exact True.intro | (simp only [rI_rI, rJ_rJ, hI_rI, hJ_rI, hI_rJ, hJ_rJ, hI_rR, hR_rI, hR_rJ, hN_rI, hN_rJ, svH_63, svH_66, rfH_63, wvH_63, wvH_62, wvH_67, wvH_68, wvH_69, sc_63, sc_n62, sc_n67, sc_n68, sc_n69, sc_n70, reduceIte, Nat.reduceEqDiff, eq_self, up_up, up_self, up_ne, ne_eq, not_false_eq_true, Int.reduceEq, Int.reduceNeg]; omega))
theorem m_X5_bitsThatOccur : MM 111 s_X5_bitsThatOccur := mm_of (own := 4) (by rfl) k_X5_bitsThatOccur (cl := [(47, s_X3_plane)]) ⟨m_X3_plane, trivial⟩ o_X5_bitsThatOccur
/-- a bit that a node has in one of the models below m -/
def hasB (w : Int → Int) (n : Int) (v : Bool) (m j : Int) : Prop := ∃ N, 0 ≤ N ∧ N < m ∧ mdT w N = true ∧ ib (vl w (asg w N) n) j = v
theorem fxO_ib {w : Int → Int} (hW : WF w) {n : Int} (h0 : 0 ≤ n) (h1 : n < w 0) : ∀ k : Nat, 0 ≤ fxO w n k ∧ fxO w n k < p2 (nd w n 1) ∧ ∀ j, (ib (fxO w n k) j = true ↔ ∃ N, 0 ≤ N ∧ N < (k : Int) ∧ mdl w N = true ∧ ib (vl w (asg w N) n) j = true) := by
  have wd := hW.wd h0 h1
  have p8 := p2_le8 wd.2
  intro k
  induction k with
  | zero => exact ⟨Int.le_refl _, p2_pos _, fun j => ⟨fun a => by
      have : fxO w n 0 = 0 := rfl
      rw [this] at a
      unfold ib at a
      rw [Int.zero_ediv] at a
      exact absurd a (by decide), fun ⟨N, a, b, _⟩ => by omega⟩⟩
  | succ k ih =>
    obtain ⟨i1, i2, i3⟩ := ih
    rw [fxO_s]
    have v := hW.vr (asg_ev w k) h0 h1
    by_cases e : mdl w k = true
    · rw [if_pos e]
      have r := or_rng i1 i2 v.1 v.2 wd.2
      refine ⟨r.1, r.2, fun j => ?_⟩
      rw [ib_or i1 (by omega) v.1 (by omega), Bool.or_eq_true, i3 j]
      constructor
      · rintro (⟨N, a, b, c, d⟩ | d)
        · exact ⟨N, a, by omega, c, d⟩
        · exact ⟨k, by omega, by omega, e, d⟩
      · rintro ⟨N, a, b, c, d⟩
        by_cases z : N = k
        · subst z; exact Or.inr d
        · exact Or.inl ⟨N, a, by omega, c, d⟩
    · rw [if_neg e]
      refine ⟨i1, i2, fun j => ?_⟩
      rw [i3 j]
      constructor
      · rintro ⟨N, a, b, c, d⟩
        exact ⟨N, a, by omega, c, d⟩
      · rintro ⟨N, a, b, c, d⟩
        by_cases z : N = k
        · subst z; exact absurd c e
        · exact ⟨N, a, by omega, c, d⟩
theorem fxA_ib {w : Int → Int} (hW : WF w) {n : Int} (h0 : 0 ≤ n) (h1 : n < w 0) : ∀ k : Nat, 0 ≤ fxA w n k ∧ fxA w n k < p2 (nd w n 1) ∧ ∀ j, 0 ≤ j → j < nd w n 1 → (ib (fxA w n k) j = true ↔ ∀ N, 0 ≤ N → N < (k : Int) → mdl w N = true → ib (vl w (asg w N) n) j = true) := by
  have wd := hW.wd h0 h1
  have p8 := p2_le8 wd.2
  intro k
  induction k with
  | zero =>
    have hp := p2_pos (nd w n 1)
    have e : fxA w n 0 = p2 (nd w n 1) - 1 := rfl
    rw [e]
    refine ⟨by omega, by omega, fun j j0 j1 => ⟨fun _ N a b => by omega, fun _ => ?_⟩⟩
    rw [ib_nat (by omega), show (p2 (nd w n 1) - 1).toNat = 2 ^ (nd w n 1).toNat - 1 by have := p2_nat (nd w n 1); omega, Nat.testBit_two_pow_sub_one]
    exact decide_eq_true (by omega)
  | succ k ih =>
    obtain ⟨i1, i2, i3⟩ := ih
    rw [fxA_s]
    have v := hW.vr (asg_ev w k) h0 h1
    by_cases e : mdl w k = true
    · rw [if_pos e]
      have r := and_rng i1 i2 v.1 v.2 wd.2
      refine ⟨r.1, r.2, fun j j0 j1 => ?_⟩
      rw [ib_and i1 (by omega) v.1 (by omega), Bool.and_eq_true, i3 j j0 j1]
      constructor
      · rintro ⟨a, b⟩ N n0 n1 c
        by_cases z : N = k
        · subst z; exact b
        · exact a N n0 (by omega) c
      · intro a
        exact ⟨fun N n0 n1 c => a N n0 (by omega) c, a k (by omega) (by omega) e⟩
    · rw [if_neg e]
      refine ⟨i1, i2, fun j j0 j1 => ?_⟩
      rw [i3 j j0 j1]
      constructor
      · intro a N n0 n1 c
        by_cases z : N = k
        · subst z; exact absurd c e
        · exact a N n0 (by omega) c
      · intro a N n0 n1 c
        exact a N n0 (by omega) c
theorem hasB_all {w : Int → Int} {n m j : Int} {v : Bool} (hm : tot w ≤ m) : hasB w n v m j ↔ ∃ N, 0 ≤ N ∧ N < tot w ∧ mdl w N = true ∧ ib (vl w (asg w N) n) j = v := by
  constructor
  · rintro ⟨N, a, b, c, d⟩
    unfold mdT at c
    rw [Bool.and_eq_true] at c
    exact ⟨N, a, of_decide_eq_true c.1, c.2, d⟩
  · rintro ⟨N, a, b, c, d⟩
    refine ⟨N, a, by omega, ?_, d⟩
    unfold mdT
    rw [decide_eq_true b, c]; rfl
/-- bits that occur as 1 (v true) or as 0 in the models below m -/
def FxI (w : Int → Int) (n : Int) (v : Bool) (u m : Int) : Prop := Box (0 ≤ u ∧ u < p2 (nd w n 1) ∧ ∀ j, 0 ≤ j → j < nd w n 1 → (ib u j = true ↔ hasB w n v m j))
theorem FxI.st {w : Int → Int} {L Q : Int → Int64} {n u u' i : Int} {v : Bool} {s t : Int64} (hW : WF w) (h0 : 0 ≤ n) (h1 : n < w 0) (h : FxI w n v u (64 * i)) (i0 : 0 ≤ i) (i1 : i < blk w) (hm : MdB w L (blk w)) (hv : VlL w Q i s (w 0)) (hs : lb s n.toNat = true) (ht : ∀ l, l < 64 → lb t l = !v) (ho : OcI (fun _ => true) u' (nd w n 1) (occ Q n (L i) t)) : FxI w n v (bOr u u') (64 * (i + 1)) := by
  obtain ⟨a, b, c⟩ := h.o
  obtain ⟨a', b', c'⟩ := ho.o
  have wd := hW.wd h0 h1
  have p8 := p2_le8 wd.2
  have r := or_rng a b a' b' wd.2
  refine Box.i ⟨r.1, r.2, fun j j0 j1 => ?_⟩
  rw [ib_or a (by omega) a' (by omega), Bool.or_eq_true, c j j0 j1, c' j j0 j1]
  have ev : ∀ l, l < 64 → ib (vl w (asg w (lane i l)) n) j = lb (Q (n * 8 + j)) l := fun l hl => by
    have q := hv.o n h0 h1 hs l hl
    have q2 : vl w (asg w (lane i l)) n = lv w Q l n := q.symm
    rw [q2]
    exact ib_lw Q l (n * 8) j0 j1
  constructor
  · rintro (⟨N, x1, x2, x3, x4⟩ | ⟨l, x1, x2, x3⟩)
    · exact ⟨N, x1, by omega, x3, x4⟩
    · refine ⟨lane i l, by unfold lane; omega, by unfold lane; omega, ?_, ?_⟩
      · rw [← hm.o i i0 i1 l x1]; exact x2
      · rw [ev l x1]
        rw [ht l x1] at x3
        cases v <;> cases e : lb (Q (n * 8 + j)) l <;> rw [e] at x3 <;> first | rfl | cases x3
  · rintro ⟨N, x1, x2, x3, x4⟩
    by_cases z : N < 64 * i
    · exact Or.inl ⟨N, x1, z, x3, x4⟩
    · obtain ⟨e, e2⟩ := lane_of (N := N) (i := i) (by omega) (by omega)
      rw [e] at x3 x4
      generalize (N - 64 * i).toNat = l at *
      rw [← hm.o i i0 i1 l e2] at x3
      rw [ev l e2] at x4
      refine Or.inr ⟨l, e2, x3, ?_⟩
      rw [ht l e2, x4]
      cases v <;> rfl
theorem FxI.miss {w : Int → Int} {L : Int → Int64} {n u i : Int} {v : Bool} (h : FxI w n v u (64 * i)) (i0 : 0 ≤ i) (i1 : i < blk w) (hm : MdB w L (blk w)) (e : L i = 0) : FxI w n v u (64 * (i + 1)) := by
  obtain ⟨a, b, c⟩ := h.o
  refine Box.i ⟨a, b, fun j j0 j1 => ?_⟩
  rw [c j j0 j1]
  constructor
  · rintro ⟨N, x1, x2, x3, x4⟩
    exact ⟨N, x1, by omega, x3, x4⟩
  · rintro ⟨N, x1, x2, x3, x4⟩
    refine ⟨N, x1, ?_, x3, x4⟩
    by_cases z : N < 64 * i
    · exact z
    · obtain ⟨q, q2⟩ := lane_of (N := N) (i := i) (by omega) (by omega)
      rw [q, ← hm.o i i0 i1 _ q2, e, lb_0] at x3
      cases x3
theorem un_not {z : Int} (h0 : 0 ≤ z) (h1 : z < 2147483648) : un (bXor z (-1)) = 2 ^ 32 - (z.toNat + 1) := by
  rw [bXor_m1 ⟨by omega, h1⟩]
  have := un_eq (-z - 1)
  omega
theorem ib_andn {x z k j : Int} (x0 : 0 ≤ x) (x1 : x < p2 k) (hk : k ≤ 8) (z0 : 0 ≤ z) (z1 : z < 2147483648) (j0 : 0 ≤ j) (j1 : j < 32) : 0 ≤ bAnd x (bXor z (-1)) ∧ bAnd x (bXor z (-1)) < p2 k ∧ ib (bAnd x (bXor z (-1))) j = (ib x j && !ib z j) := by
  have p8 := p2_le8 hk
  have le : un x &&& un (bXor z (-1)) ≤ un x := Nat.and_le_left
  have ux : un x = x.toNat := un_pos x0 (by omega)
  have e := bAnd_nat (x := x) (y := bXor z (-1)) (by omega)
  rw [e]
  refine ⟨by omega, by omega, ?_⟩
  rw [ib_nat (by omega), ib_nat x0, ib_nat z0, Int.toNat_natCast, Nat.testBit_and, ux, un_not z0 z1, Nat.testBit_two_pow_sub_succ (by omega)]
  rw [decide_eq_true (by omega), Bool.true_and]
theorem fx_fin {w : Int → Int} (hW : WF w) {n x z : Int} (h0 : 0 ≤ n) (h1 : n < w 0) (hx : FxI w n true x (64 * blk w)) (hz : FxI w n false z (64 * blk w)) (hm : nxt w 0 ≠ -1) :
    bAnd x (bXor z (-1)) = fxA w n (tot w).toNat ∧ bAnd x z = bXor (fxA w n (tot w).toNat) (fxO w n (tot w).toNat) := by
  have wd := hW.wd h0 h1
  have p8 := p2_le8 wd.2
  have tt := tot_rng hW
  have bt := (blk_tot hW).1
  have A := fxA_ib hW h0 h1 (tot w).toNat
  have O := fxO_ib hW h0 h1 (tot w).toNat
  rw [show (((tot w).toNat : Nat) : Int) = tot w by omega] at A O
  obtain ⟨A1, A2, A3⟩ := A
  obtain ⟨O1, O2, O3⟩ := O
  obtain ⟨X1, X2, X3⟩ := hx.o
  obtain ⟨Z1, Z2, Z3⟩ := hz.o
  obtain ⟨m1, -, m2, m3, -⟩ := nxt_some hm
  have eO : ∀ j, 0 ≤ j → j < nd w n 1 → ib (fxO w n (tot w).toNat) j = ib x j := fun j j0 j1 => by
    apply Bool.eq_iff_iff.mpr
    rw [O3 j, X3 j j0 j1, hasB_all bt]
  have eA : ∀ j, 0 ≤ j → j < nd w n 1 → ib (fxA w n (tot w).toNat) j = !ib z j := fun j j0 j1 => by
    apply Bool.eq_iff_iff.mpr
    rw [A3 j j0 j1, Bool.not_eq_true', ← Bool.not_eq_true, Z3 j j0 j1, hasB_all bt]
    constructor
    · rintro q ⟨N, a, b, c, d⟩
      rw [q N a b c] at d
      cases d
    · intro q N a b c
      cases d : ib (vl w (asg w N) n) j with
      | true => rfl
      | false => exact absurd ⟨N, a, b, c, d⟩ q
  have eS : ∀ j, 0 ≤ j → j < nd w n 1 → ib (fxA w n (tot w).toNat) j = true → ib (fxO w n (tot w).toNat) j = true := fun j j0 j1 q => (O3 j).mpr ⟨_, m1, m2, m3, (A3 j j0 j1).mp q _ m1 m2 m3⟩
  refine ⟨ib_ext (k := nd w n 1) (by omega) (ib_andn X1 X2 wd.2 Z1 (by omega) (j := 0) (by decide) (by decide)).1 (ib_andn X1 X2 wd.2 Z1 (by omega) (j := 0) (by decide) (by decide)).2.1 A1 A2 fun j j0 j1 => ?_, ?_⟩
  · rw [(ib_andn X1 X2 wd.2 Z1 (by omega) (j := j) j0 (by omega)).2.2, ← eO j j0 j1, ← eA j j0 j1]
    have := eS j j0 j1
    cases a : ib (fxA w n (tot w).toNat) j <;> cases b : ib (fxO w n (tot w).toNat) j <;> rw [a, b] at this <;> first | rfl | (exact absurd (this rfl) (by decide))
  · have r1 := and_rng X1 X2 Z1 Z2 wd.2
    have r2 := xor_rng A1 A2 O1 O2 wd.2
    refine ib_ext (k := nd w n 1) (by omega) r1.1 r1.2 r2.1 r2.2 fun j j0 j1 => ?_
    rw [ib_and X1 (by omega) Z1 (by omega), ib_xor A1 (by omega) O1 (by omega), ← eO j j0 j1]
    have e3 := eA j j0 j1
    have := eS j j0 j1
    cases a : ib (fxA w n (tot w).toNat) j <;> cases b : ib (fxO w n (tot w).toNat) j <;> cases c : ib z j <;> rw [a, c] at e3 <;> rw [a, b] at this <;> first | rfl | (exact absurd (this rfl) (by decide)) | (exact absurd e3 (by decide))
def s_X5_fixedBits : CS := (zc 6, ap [(3, 46), (0, 0), (0, 0)] (fun n g h Rt X =>
∃ w, GH h w ∧ WF w ∧ St0 (hI h) 5 w ∧ SK w (hI h 46) (hJ h 47) ∧ (0 ≤ n ∧ n < w 0) ∧ (nxt w 0 = -1 → ∀ F R Q L, FM w (hI h 46) F L → Rt (some (.inl (-1))) (se h F R Q L)) ∧ (nxt w 0 ≠ -1 → g ≠ 0 → ∀ F R Q L, FM w (hI h 46) F L → Rt (some (.inl (fxA w n (tot w).toNat))) (se h F R Q L)) ∧
(nxt w 0 ≠ -1 → g = 0 → ∀ F R Q L, FM w (hI h 46) F L → Rt (some (.inl (bAnd (p2 (nd w n 1) - 1) (bXor (bXor (fxA w n (tot w).toNat) (fxO w n (tot w).toNat)) (-1))))) (se h F R Q L))))
set_option maxRecDepth 100000 in
set_option maxHeartbeats 4000000 in
theorem o_X5_fixedBits : Obl true 1 9 (sp [(98, s_X5_findModels), (6, s_X0_width), (25, s_X0_cone), (29, s_X0_blockCount), (45, s_X3_run), (111, s_X5_bitsThatOccur), (187, s_X9_fullWord)]) [] code_X5_fixedBits s_X5_fixedBits := by
  refine oblL (by rfl) [(42, [0, 1, 2, 3, 4, 6, 7, 8])] ?_
  intro n r_n g r_g h Rt X hh hf hs
  obtain ⟨w, hG, hW, hS, hK, ⟨n0, n1⟩, h2, h3, h4⟩ := hs
  have br := blk_rng hW
  have g0 := hG.n
  have nn := hW.nn
  have c1 := hG.k1 n0 n1
  have wd := hW.wd n0 n1
  have cc := cone_clo hW n0 n1
  have t1 : ∀ l, l < 64 → lb 0 l = !true := fun l _ => lb_0 l
  have t0 : ∀ l, l < 64 → lb (Int64.ofNat 18446744073709551615) l = !false := fun l hl => lb_m1 hl
  have f5 : ∀ F L, FM w (hI h 46) F L → F 5 = nxt w 0 := fun F L hf => hf.o.2.1
  refine ⟨fun m pc vs q => ∃ (i x z : Int) (F : Int → Int) (R Q L : Int → Int64), q = se h F R Q L ∧ vs = [.inr (.inr (some 46)), .inl n, .inl g, .inl (nd w n 1), .inr (.inl (coneW w n)), .inl x, .inl z, .inl i] ∧ 0 ≤ i ∧ i ≤ blk w ∧ nxt w 0 ≠ -1 ∧ FM w (hI h 46) F L ∧ FxI w n true x (64 * i) ∧ FxI w n false z (64 * i) ∧ m = (blk w - i).toNat, ?_, ?_⟩
  · have f0 : ∀ v, FxI w n v 0 (64 * 0) := fun v => Box.i ⟨by omega, p2_pos _, fun j j0 j1 => ⟨fun a => by unfold ib at a; rw [Int.zero_ediv] at a; exact absurd a (by decide), fun ⟨N, a, b, _⟩ => by omega⟩⟩
    repeat' (first | apply And.intro | (with_reducible assumption) | (intro h9; first | (exfalso; omega) | (simp only [rI_rI, rJ_rJ, hI_rI, hJ_rI, hI_rJ, hJ_rJ, hI_rR, hR_rI, hR_rJ, hN_rI, hN_rJ, svH_63, svH_66, rfH_63, wvH_63, wvH_62, wvH_67, wvH_68, wvH_69, sc_63, sc_n62, sc_n67, sc_n68, sc_n69, sc_n70, reduceIte, Nat.reduceEqDiff, eq_self, up_up, up_self, up_ne, ne_eq, not_false_eq_true, Int.reduceEq, Int.reduceNeg, se_aI, se_aJ] at h9; first | (exfalso; omega) | skip) | skip) | refine Exists.intro w ?_ | exact hG | exact hW | exact hS | exact hK | exact h2 ((f5 _ _ (by assumption)).symm.trans (by assumption)) _ _ _ _ (by assumption) | exact Exists.intro _ ⟨0, 0, 0, _, _, _, _, rfl, (by rw [← c1] <;> rfl), by omega, by omega, (fun q => absurd ((f5 _ _ (by assumption)).trans q) (by assumption)), by assumption, f0 _, f0 _, rfl⟩ | exact h2 | exact h2 (by omega) | exact h3 | exact h3 (by omega) | exact h4 | exact h4 (by omega) | omega | exact True.intro | (simp only [rI_rI, rJ_rJ, hI_rI, hJ_rI, hI_rJ, hJ_rJ, hI_rR, hR_rI, hR_rJ, hN_rI, hN_rJ, svH_63, svH_66, rfH_63, wvH_63, wvH_62, wvH_67, wvH_68, wvH_69, sc_63, sc_n62, sc_n67, sc_n68, sc_n69, sc_n70, reduceIte, Nat.reduceEqDiff, eq_self, up_up, up_self, up_ne, ne_eq, not_false_eq_true, Int.reduceEq, Int.reduceNeg, se_aI, se_aJ]; omega))
  · rintro m pc live vs q hl ⟨i, x, z, F, R, Q, L, rfl, rfl, i1, i2, i3, i4, i5, i6, rfl⟩ hv hh1 hf1
    obtain ⟨rfl, rfl⟩ := look1 hl
    have m4 := i4.o.2.2.1
    by_cases y : i < blk w
    · repeat' (first | apply And.intro | (with_reducible assumption) | (intro h9; first | (exfalso; omega) | (simp only [rI_rI, rJ_rJ, hI_rI, hJ_rI, hI_rJ, hJ_rJ, hI_rR, hR_rI, hR_rJ, hN_rI, hN_rJ, svH_63, svH_66, rfH_63, wvH_63, wvH_62, wvH_67, wvH_68, wvH_69, sc_63, sc_n62, sc_n67, sc_n68, sc_n69, sc_n70, reduceIte, Nat.reduceEqDiff, eq_self, up_up, up_self, up_ne, ne_eq, not_false_eq_true, Int.reduceEq, Int.reduceNeg, se_aI, se_aJ] at h9; first | (exfalso; omega) | skip) | skip) | refine Exists.intro w ?_ | exact hG | exact hW | exact cc.1 | exact Exists.intro _ ⟨by omega, i + 1, _, _, F, R, Q, L, rfl, rfl, by omega, by omega, i3, i4, i5.miss i1 y m4 (cmpL_0.mp (by assumption)), i6.miss i1 y m4 (cmpL_0.mp (by assumption)), rfl⟩ | exact Exists.intro _ ⟨by omega, i + 1, _, _, F, _, _, L, se_run _ _ _ _ _ _ _, rfl, by omega, by omega, i3, i4, i5.st hW n0 n1 i1 y m4 (by assumption) cc.2 t1 (by assumption), i6.st hW n0 n1 i1 y m4 (by assumption) cc.2 t0 (by assumption), rfl⟩ | exact h2 | exact h2 (by omega) | exact h3 | exact h3 (by omega) | exact h4 | exact h4 (by omega) | omega | exact True.intro | (simp only [rI_rI, rJ_rJ, hI_rI, hJ_rI, hI_rJ, hJ_rJ, hI_rR, hR_rI, hR_rJ, hN_rI, hN_rJ, svH_63, svH_66, rfH_63, wvH_63, wvH_62, wvH_67, wvH_68, wvH_69, sc_63, sc_n62, sc_n67, sc_n68, sc_n69, sc_n70, reduceIte, Nat.reduceEqDiff, eq_self, up_up, up_self, up_ne, ne_eq, not_false_eq_true, Int.reduceEq, Int.reduceNeg, se_aI, se_aJ]; omega))
    · obtain rfl : i = blk w := by omega
      have e := fx_fin hW n0 n1 i5 i6 i3
      have k3 := fun u => h3 i3 u F R Q L i4
      have k4 := fun u => h4 i3 u F R Q L i4
      rw [← e.1] at k3
      rw [← e.2] at k4
      repeat' (first | apply And.intro | (with_reducible assumption) | (intro h9; first | (exfalso; omega) | (simp only [rI_rI, rJ_rJ, hI_rI, hJ_rI, hI_rJ, hJ_rJ, hI_rR, hR_rI, hR_rJ, hN_rI, hN_rJ, svH_63, svH_66, rfH_63, wvH_63, wvH_62, wvH_67, wvH_68, wvH_69, sc_63, sc_n62, sc_n67, sc_n68, sc_n69, sc_n70, reduceIte, Nat.reduceEqDiff, eq_self, up_up, up_self, up_ne, ne_eq, not_false_eq_true, Int.reduceEq, Int.reduceNeg, se_aI, se_aJ] at h9; first | (exfalso; omega) | skip) | skip) | refine Exists.intro w ?_ | exact hG | exact hW | exact k3 (by assumption) | exact k4 (by assumption) | exact h2 | exact h2 (by omega) | exact h3 | exact h3 (by omega) | exact h4 | exact h4 (by omega) | omega | exact True.intro | (simp only [rI_rI, rJ_rJ, hI_rI, hJ_rI, hI_rJ, hJ_rJ, hI_rR, hR_rI, hR_rJ, hN_rI, hN_rJ, svH_63, svH_66, rfH_63, wvH_63, wvH_62, wvH_67, wvH_68, wvH_69, sc_63, sc_n62, sc_n67, sc_n68, sc_n69, sc_n70, reduceIte, Nat.reduceEqDiff, eq_self, up_up, up_self, up_ne, ne_eq, not_false_eq_true, Int.reduceEq, Int.reduceNeg, se_aI, se_aJ]; omega))
theorem m_X5_fixedBits : MM 110 s_X5_fixedBits := mm_of (own := 4) (by rfl) k_X5_fixedBits (cl := [(98, s_X5_findModels), (6, s_X0_width), (25, s_X0_cone), (29, s_X0_blockCount), (45, s_X3_run), (111, s_X5_bitsThatOccur), (187, s_X9_fullWord)]) ⟨m_X5_findModels, m_X0_width, m_X0_cone, m_X0_blockCount, m_X3_run, m_X5_bitsThatOccur, m_X9_fullWord, trivial⟩ o_X5_fixedBits

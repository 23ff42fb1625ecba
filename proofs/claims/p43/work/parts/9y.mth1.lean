/-! ===== the property's mathematics: best models, values in order, fixed bits ===== -/
theorem isB_all (P : Int → Bool) (g : Int → Int) : ∀ k : Nat, ∃ r, isB P g k r := by
  intro k
  induction k with
  | zero => exact ⟨-1, isB_0 P g⟩
  | succ k ih =>
    obtain ⟨r, h⟩ := ih
    rw [show (((k + 1 : Nat)) : Int) = (k : Int) + 1 by omega]
    cases p : P (k : Int) with
    | true =>
      by_cases z : r = -1
      · exact ⟨k, isB_new h (by omega) p (Or.inl z)⟩
      · by_cases y : g r < g k
        · exact ⟨k, isB_new h (by omega) p (Or.inr y)⟩
        · exact ⟨r, isB_keep h (by omega) z (by omega)⟩
    | false => exact ⟨r, isB_gap h (by omega) (fun N a b c => by rw [show N = (k : Int) by omega]; exact p)⟩
theorem isB_tot {w : Int → Int} (hW : WF w) (g : Int → Int) : ∃ r, isB (mdl w) g (tot w) r := by
  have t := tot_rng hW
  obtain ⟨r, h⟩ := isB_all (mdl w) g (tot w).toNat
  rw [show (((tot w).toNat : Nat) : Int) = tot w by omega] at h
  exact ⟨r, h⟩
theorem isB_max {P : Int → Bool} {g : Int → Int} {m r N : Int} (h : isB P g m r) (h0 : 0 ≤ N) (h1 : N < m) (p : P N = true) : g N ≤ g r := by
  rcases h.o with ⟨_, q⟩ | ⟨_, _, _, q⟩
  · rw [q N h0 h1] at p; cases p
  · exact (q N h0 h1 p).1
/-- the values that a node has in models below m -/
def mtF (w : Int → Int) (n : Int) (m : Nat) : Int → Int := fun k => if fst (fun N => mdl w N && decide (vl w (asg w N) n = k)) m = -1 then 0 else 1
theorem mtF_ok (w : Int → Int) (n : Int) (m : Nat) : Mets w n (mtF w n m) m := Box.i fun k k0 k1 => by
  unfold mtF
  by_cases e : fst (fun N => mdl w N && decide (vl w (asg w N) n = k)) m = -1
  · rw [if_pos e]
    refine Or.inl ⟨rfl, fun N n0 n1 p q => ?_⟩
    have z := fst_none.mp e N.toNat (by omega)
    rw [show ((N.toNat : Nat) : Int) = N by omega, p, Bool.true_and, decide_eq_false_iff_not] at z
    exact z q
  · rw [if_neg e]
    obtain ⟨d0, d1, d2, d3⟩ := fst_some e
    rw [Bool.and_eq_true, decide_eq_true_iff] at d2
    exact Or.inr ⟨rfl, _, d0, d1, d2.1, d2.2⟩
theorem Mets_tot {w : Int → Int} (hW : WF w) (n : Int) : ∃ f, Mets w n f (tot w) := by
  have t := tot_rng hW
  have h := mtF_ok w n (tot w).toNat
  rw [show (((tot w).toNat : Nat) : Int) = tot w by omega] at h
  exact ⟨_, h⟩
theorem Mets.f01 {w f : Int → Int} {n m : Int} (h : Mets w n f m) : F01 f := Box.i fun _ a b => h.b01 a b
theorem smF_z {f : Int → Int} : ∀ k : Nat, (∀ v, 0 ≤ v → v < (k : Int) → f v = 0) → smF f k = 0 := by
  intro k
  induction k with
  | zero => intro _; rfl
  | succ k ih =>
    intro h
    rw [smF_s, ih fun v a b => h v a (by omega), h k (by omega) (by omega)]
    rfl
theorem smF_cg {f g : Int → Int} : ∀ k : Nat, (∀ v, 0 ≤ v → v < (k : Int) → f v = g v) → smF f k = smF g k := by
  intro k
  induction k with
  | zero => intro _; rfl
  | succ k ih =>
    intro h
    rw [smF_s, smF_s, ih fun v a b => h v a (by omega), h k (by omega) (by omega)]
theorem smF_mn {f : Int → Int} (h : F01 f) {j : Nat} : ∀ k : Nat, j ≤ k → k ≤ 256 → smF f j ≤ smF f k := by
  intro k
  induction k with
  | zero => intro a _; rw [show j = 0 by omega]; exact Int.le_refl _
  | succ k ih =>
    intro a b
    by_cases e : j = k + 1
    · rw [e]; exact Int.le_refl _
    · have q := ih (by omega) (by omega)
      have r := h.o k (by omega) (by omega)
      rw [smF_s]
      omega
/-- a value that is one: the sums below it and behind it -/
theorem smF_at {f : Int → Int} (h : F01 f) {v u : Int} (v0 : 0 ≤ v) (vu : v < u) (u1 : u ≤ 256) (fv : f v = 1) : smF f v.toNat + 1 ≤ smF f u.toNat := by
  have a := smF_i f v0
  have b := smF_mn h (j := (v + 1).toNat) u.toNat (by omega) (by omega)
  omega
section Mt
variable {w f : Int → Int} {n r : Int}
theorem Mets.one (h : Mets w n f (tot w)) {N : Int} (n0 : 0 ≤ N) (n1 : N < tot w) (p : mdl w N = true) (v0 : 0 ≤ vl w (asg w N) n) (v1 : vl w (asg w N) n < 256) : f (vl w (asg w N) n) = 1 := by
  rcases h.o _ v0 v1 with ⟨_, q⟩ | ⟨q, _⟩
  · exact absurd rfl (q N n0 n1 p)
  · exact q
theorem Mets.lo (h : Mets w n f (tot w)) (r0 : 0 ≤ r) (r1 : r < tot w) (p : mdl w r = true) (v0 : 0 ≤ vl w (asg w r) n) (v1 : vl w (asg w r) n < 256) (m : ∀ N, 0 ≤ N → N < tot w → mdl w N = true → vl w (asg w r) n ≤ vl w (asg w N) n) : kthW f 0 = vl w (asg w r) n := by
  have fv := h.one r0 r1 p v0 v1
  have z : ∀ u, 0 ≤ u → u < vl w (asg w r) n → f u = 0 := fun u u0 u1 => by
    rcases h.o u u0 (by omega) with ⟨q, _⟩ | ⟨_, N, a, b, c, d⟩
    · exact q
    · have := m N a b c
      omega
  have e : smF f (vl w (asg w r) n).toNat = 0 := smF_z _ fun u u0 u1 => z u u0 (by omega)
  refine fst_hit (N := 256) v0 v1 (fst_none.mpr fun k hk => decide_eq_false fun q => ?_) (decide_eq_true ⟨fv, e⟩)
  rw [z k (by omega) (by omega)] at q
  exact absurd q.1 (by decide)
theorem Mets.hi (h : Mets w n f (tot w)) (r0 : 0 ≤ r) (r1 : r < tot w) (p : mdl w r = true) (v0 : 0 ≤ vl w (asg w r) n) (v1 : vl w (asg w r) n < 256) (m : ∀ N, 0 ≤ N → N < tot w → mdl w N = true → vl w (asg w N) n ≤ vl w (asg w r) n) : kthW f (smF f 256 - 1) = vl w (asg w r) n := by
  have fv := h.one r0 r1 p v0 v1
  have z : ∀ u, vl w (asg w r) n < u → u < 256 → f u = 0 := fun u u0 u1 => by
    rcases h.o u (by omega) u1 with ⟨q, _⟩ | ⟨_, N, a, b, c, d⟩
    · exact q
    · have := m N a b c
      omega
  have t := smF_tail (f := f) (j := (vl w (asg w r) n + 1).toNat) (fun v a b => z v (by omega) b) 256 (by omega) (by omega)
  have i := smF_i f v0
  have e : smF f (vl w (asg w r) n).toNat = smF f 256 - 1 := by omega
  refine fst_hit (N := 256) v0 v1 (fst_none.mpr fun k hk => decide_eq_false fun q => ?_) (decide_eq_true ⟨fv, e⟩)
  have s := smF_at h.f01 (v := k) (u := vl w (asg w r) n) (by omega) (by omega) (by omega) q.1
  have q2 := q.2
  omega
/-- one value is there -/
theorem Mets.pos (h : Mets w n f (tot w)) (r0 : 0 ≤ r) (r1 : r < tot w) (p : mdl w r = true) (v0 : 0 ≤ vl w (asg w r) n) (v1 : vl w (asg w r) n < 256) : 1 ≤ smF f 256 ∧ smF f 256 ≤ 256 := by
  have s := smF_at h.f01 (v := vl w (asg w r) n) (u := 256) v0 v1 (by decide) (h.one r0 r1 p v0 v1)
  have l := smF_lo h.f01 (vl w (asg w r) n).toNat (by omega)
  have l2 := smF_lo h.f01 256 (by decide)
  have s : smF f (vl w (asg w r) n).toNat + 1 ≤ smF f 256 := s
  exact ⟨by omega, l2.2⟩
theorem Mets.same (h : Mets w n f (tot w)) (c : smF f 256 = 1) (hv : ∀ N, 0 ≤ vl w (asg w N) n ∧ vl w (asg w N) n < 256) {N M : Int} (n0 : 0 ≤ N) (n1 : N < tot w) (p : mdl w N = true) (m0 : 0 ≤ M) (m1 : M < tot w) (q : mdl w M = true) : vl w (asg w N) n = vl w (asg w M) n := by
  have lt : ∀ A B, 0 ≤ A → A < tot w → mdl w A = true → 0 ≤ B → B < tot w → mdl w B = true → ¬ vl w (asg w A) n < vl w (asg w B) n := fun A B a0 a1 a2 b0 b1 b2 z => by
    have va := hv A
    have vb := hv B
    have s := smF_at h.f01 (v := vl w (asg w A) n) (u := vl w (asg w B) n) va.1 z (by omega) (h.one a0 a1 a2 va.1 va.2)
    have t := smF_at h.f01 (v := vl w (asg w B) n) (u := 256) vb.1 vb.2 (by decide) (h.one b0 b1 b2 vb.1 vb.2)
    have l := smF_lo h.f01 (vl w (asg w A) n).toNat (by omega)
    have t : smF f (vl w (asg w B) n).toNat + 1 ≤ smF f 256 := t
    omega
  have a := lt N M n0 n1 p m0 m1 q
  have b := lt M N m0 m1 q n0 n1 p
  omega
theorem Mets.uni (h : Mets w n f (tot w)) (r0 : 0 ≤ r) (r1 : r < tot w) (p : mdl w r = true) (v0 : 0 ≤ vl w (asg w r) n) (v1 : vl w (asg w r) n < 256) (m : ∀ N, 0 ≤ N → N < tot w → mdl w N = true → vl w (asg w N) n = vl w (asg w r) n) : smF f 256 = 1 := by
  have fv := h.one r0 r1 p v0 v1
  have z : ∀ u, 0 ≤ u → u < 256 → u ≠ vl w (asg w r) n → f u = 0 := fun u u0 u1 u2 => by
    rcases h.o u u0 u1 with ⟨q, _⟩ | ⟨_, N, a, b, c, d⟩
    · exact q
    · have := m N a b c
      omega
  have t := smF_tail (f := f) (j := (vl w (asg w r) n + 1).toNat) (fun v a b => z v (by omega) b (by omega)) 256 (by omega) (by omega)
  have i := smF_i f v0
  have e : smF f (vl w (asg w r) n).toNat = 0 := smF_z _ fun u u0 u1 => z u u0 (by omega) (by omega)
  omega
end Mt
theorem Mets.un {w f g : Int → Int} {n m : Int} (h : Mets w n f m) (k : Mets w n g m) : smF f 256 = smF g 256 := smF_cg 256 fun v v0 v1 => by
  rcases h.o v v0 v1 with ⟨a, b⟩ | ⟨a, N, b0, b1, b2, b3⟩ <;> rcases k.o v v0 v1 with ⟨c, d⟩ | ⟨c, M, d0, d1, d2, d3⟩
  · rw [a, c]
  · exact absurd d3 (b M d0 d1 d2)
  · exact absurd b3 (d N b0 b1 b2)
  · rw [a, c]
/-- no more values than models -/
theorem Mets_cnt {w : Int → Int} {n : Int} (hv : ∀ N, 0 ≤ vl w (asg w N) n ∧ vl w (asg w N) n < 256) : ∀ k : Nat, ∃ f, Mets w n f k ∧ smF f 256 ≤ cntB (mdl w) k := by
  intro k
  induction k with
  | zero => exact ⟨fun _ => 0, Box.i fun v _ _ => Or.inl ⟨rfl, fun N a b => by omega⟩, by rw [smF_z 256 fun _ _ _ => rfl]; exact Int.le_refl _⟩
  | succ k ih =>
    obtain ⟨f, h, c⟩ := ih
    have e : (((k + 1 : Nat)) : Int) = (k : Int) + 1 := by omega
    rw [cntB_s, e]
    cases p : mdl w (k : Int) with
    | true =>
      have v := hv k
      refine ⟨up f (vl w (asg w k) n) 1, Box.i fun x x0 x1 => ?_, ?_⟩
      · by_cases z : x = vl w (asg w k) n
        · rw [z, up_self]
          exact Or.inr ⟨rfl, k, by omega, by omega, p, rfl⟩
        · rw [up_ne z]
          rcases h.o x x0 x1 with ⟨a, b⟩ | ⟨a, N, b0, b1, b2, b3⟩
          · refine Or.inl ⟨a, fun N n0 n1 q => ?_⟩
            by_cases y : N = k
            · rw [y]; exact fun q => z q.symm
            · exact b N n0 (by omega) q
          · exact Or.inr ⟨a, N, b0, by omega, b2, b3⟩
      · have b := h.b01 v.1 v.2
        rw [smF_up, if_pos ⟨v.1, v.2⟩]
        show _ ≤ cntB (mdl w) k + 1
        omega
    | false =>
      refine ⟨f, Box.i fun x x0 x1 => ?_, ?_⟩
      · rcases h.o x x0 x1 with ⟨a, b⟩ | ⟨a, N, b0, b1, b2, b3⟩
        · refine Or.inl ⟨a, fun N n0 n1 q => ?_⟩
          by_cases y : N = k
          · rw [y, p] at q; cases q
          · exact b N n0 (by omega) q
        · exact Or.inr ⟨a, N, b0, by omega, b2, b3⟩
      · show _ ≤ cntB (mdl w) k + 0
        omega
theorem vl_256 {w : Int → Int} (hW : WF w) {n : Int} (n0 : 0 ≤ n) (n1 : n < w 0) (N : Int) : 0 ≤ vl w (asg w N) n ∧ vl w (asg w N) n < 256 := by
  have a := hW.vr (asg_ev w N) n0 n1
  have b := hW.wd n0 n1
  have c := p2_le8 b.2
  exact ⟨a.1, by omega⟩
theorem Mets.cn {w f : Int → Int} {n : Int} (hW : WF w) (n0 : 0 ≤ n) (n1 : n < w 0) (h : Mets w n f (tot w)) : smF f 256 ≤ cntB (mdl w) (tot w).toNat := by
  have t := tot_rng hW
  obtain ⟨g, k, c⟩ := Mets_cnt (w := w) (n := n) (vl_256 hW n0 n1) (tot w).toNat
  rw [show (((tot w).toNat : Nat) : Int) = tot w by omega] at k
  rw [h.un k]
  exact c
/-! fixed bits -/
def fxB (w : Int → Int) (n : Int) : Int := bAnd (p2 (nd w n 1) - 1) (bXor (bXor (fxA w n (tot w).toNat) (fxO w n (tot w).toNat)) (-1))
section Fx
variable {w : Int → Int} {n : Int}
theorem fxB_ib (hW : WF w) (n0 : 0 ≤ n) (n1 : n < w 0) : 0 ≤ fxB w n ∧ fxB w n < p2 (nd w n 1) ∧ ∀ j, 0 ≤ j → j < nd w n 1 → ib (fxB w n) j = !(ib (fxA w n (tot w).toNat) j ^^ ib (fxO w n (tot w).toNat) j) := by
  have wd := hW.wd n0 n1
  have p8 := p2_le8 wd.2
  have hp := p2_pos (nd w n 1)
  obtain ⟨a0, a1, -⟩ := fxA_ib hW n0 n1 (tot w).toNat
  obtain ⟨o0, o1, -⟩ := fxO_ib hW n0 n1 (tot w).toNat
  have x := xor_rng a0 a1 o0 o1 wd.2
  have q := fun j (j0 : 0 ≤ j) (j1 : j < 32) => ib_andn (x := p2 (nd w n 1) - 1) (z := bXor (fxA w n (tot w).toNat) (fxO w n (tot w).toNat)) (k := nd w n 1) (j := j) (by omega) (by omega) wd.2 x.1 (by omega) j0 j1
  refine ⟨(q 0 (by decide) (by decide)).1, (q 0 (by decide) (by decide)).2.1, fun j j0 j1 => ?_⟩
  have e := (q j j0 (by omega)).2.2
  unfold fxB
  rw [e, ib_xor a0 (by omega) o0 (by omega)]
  have f : ib (p2 (nd w n 1) - 1) j = true := by
    rw [ib_nat (by omega), show (p2 (nd w n 1) - 1).toNat = 2 ^ (nd w n 1).toNat - 1 by have := p2_nat (nd w n 1); omega, Nat.testBit_two_pow_sub_one]
    exact decide_eq_true (by omega)
  rw [f, Bool.true_and]
theorem fxB_val (hW : WF w) (n0 : 0 ≤ n) (n1 : n < w 0) {N : Int} (N0 : 0 ≤ N) (N1 : N < tot w) (p : mdl w N = true) : bAnd (vl w (asg w N) n) (fxB w n) = fxA w n (tot w).toNat := by
  have wd := hW.wd n0 n1
  have p8 := p2_le8 wd.2
  obtain ⟨a0, a1, a2⟩ := fxA_ib hW n0 n1 (tot w).toNat
  obtain ⟨o0, o1, o2⟩ := fxO_ib hW n0 n1 (tot w).toNat
  obtain ⟨b0, b1, b2⟩ := fxB_ib hW n0 n1
  have v := hW.vr (asg_ev w N) n0 n1
  have r := and_rng v.1 v.2 b0 b1 wd.2
  have t := tot_rng hW
  refine ib_ext (k := nd w n 1) (by omega) r.1 r.2 a0 a1 fun j j0 j1 => ?_
  rw [ib_and v.1 (by omega) b0 (by omega), b2 j j0 j1]
  have a2 := a2 j j0 j1
  have o2 := o2 j
  cases ea : ib (fxA w n (tot w).toNat) j with
  | true =>
    have q := a2.mp ea N N0 (by omega) p
    rw [q, o2.mpr ⟨N, N0, by omega, p, q⟩]
    rfl
  | false =>
    cases ev : ib (vl w (asg w N) n) j with
    | true =>
      rw [o2.mpr ⟨N, N0, by omega, p, ev⟩]
      rfl
    | false => rfl
theorem fxB_one (hW : WF w) (n0 : 0 ≤ n) (n1 : n < w 0) {f : Int → Int} (h : Mets w n f (tot w)) {r : Int} (r0 : 0 ≤ r) (r1 : r < tot w) (p : mdl w r = true) : fxB w n = p2 (nd w n 1) - 1 ↔ smF f 256 = 1 := by
  have wd := hW.wd n0 n1
  have p8 := p2_le8 wd.2
  have hp := p2_pos (nd w n 1)
  obtain ⟨a0, a1, a2⟩ := fxA_ib hW n0 n1 (tot w).toNat
  obtain ⟨o0, o1, o2⟩ := fxO_ib hW n0 n1 (tot w).toNat
  obtain ⟨b0, b1, b2⟩ := fxB_ib hW n0 n1
  have t := tot_rng hW
  have V := vl_256 hW n0 n1
  have f1 : ∀ j, 0 ≤ j → j < nd w n 1 → ib (p2 (nd w n 1) - 1) j = true := fun j j0 j1 => by
    rw [ib_nat (by omega), show (p2 (nd w n 1) - 1).toNat = 2 ^ (nd w n 1).toNat - 1 by have := p2_nat (nd w n 1); omega, Nat.testBit_two_pow_sub_one]
    exact decide_eq_true (by omega)
  constructor
  · intro e
    have m : ∀ N, 0 ≤ N → N < tot w → mdl w N = true → vl w (asg w N) n = fxA w n (tot w).toNat := fun N N0 N1 q => by
      have v := hW.vr (asg_ev w N) n0 n1
      refine ib_ext (k := nd w n 1) (by omega) v.1 v.2 a0 a1 fun j j0 j1 => ?_
      have b := b2 j j0 j1
      rw [e, f1 j j0 j1] at b
      have a2 := a2 j j0 j1
      have o2 := o2 j
      cases ea : ib (fxA w n (tot w).toNat) j with
      | true => exact a2.mp ea N N0 (by omega) q
      | false =>
        cases ev : ib (vl w (asg w N) n) j with
        | false => rfl
        | true =>
          rw [ea, o2.mpr ⟨N, N0, by omega, q, ev⟩] at b
          cases b
    exact h.uni r0 r1 p (V r).1 (V r).2 fun N N0 N1 q => by rw [m N N0 N1 q, m r r0 r1 p]
  · intro c
    refine ib_ext (k := nd w n 1) (by omega) b0 b1 (by omega) (by omega) fun j j0 j1 => ?_
    rw [b2 j j0 j1, f1 j j0 j1]
    have a2 := a2 j j0 j1
    have o2 := o2 j
    have m : ∀ N, 0 ≤ N → N < tot w → mdl w N = true → vl w (asg w N) n = vl w (asg w r) n := fun N N0 N1 q => h.same c V N0 N1 q r0 r1 p
    cases ev : ib (vl w (asg w r) n) j with
    | true =>
      rw [a2.mpr fun N N0 N1 q => by rw [m N N0 (by omega) q]; exact ev, o2.mpr ⟨r, r0, by omega, p, ev⟩]
      rfl
    | false =>
      have ea : ib (fxA w n (tot w).toNat) j = false := by
        cases z : ib (fxA w n (tot w).toNat) j with
        | false => rfl
        | true =>
          have := a2.mp z r r0 (by omega) p
          rw [ev] at this
          cases this
      have eo : ib (fxO w n (tot w).toNat) j = false := by
        cases z : ib (fxO w n (tot w).toNat) j with
        | false => rfl
        | true =>
          obtain ⟨N, N0, N1, q, s⟩ := o2.mp z
          rw [m N N0 (by omega) q, ev] at s
          cases s
      rw [ea, eo]
      rfl
end Fx
/-! pairs, conflicts, gains, the highest variable -/
theorem dfM_sym (w : Int → Int) (a b : Int) : dfM w a b = dfM w b a := by
  unfold dfM
  refine fst_congr fun j j0 j1 => ?_
  have e : decide (vl w (asg w j) a ≠ vl w (asg w j) b) = decide (vl w (asg w j) b ≠ vl w (asg w j) a) := decide_eq_decide.mpr ⟨fun q z => q z.symm, fun q z => q z.symm⟩
  rw [e]
theorem dfM_self (w : Int → Int) (a : Int) : dfM w a a = -1 := df_none fun _ _ _ _ => rfl
theorem dfM_at {w : Int → Int} {a b : Int} (h : dfM w a b ≠ -1) (t0 : 0 ≤ tot w) : 0 ≤ dfM w a b ∧ dfM w a b < tot w ∧ mdl w (dfM w a b) = true := by
  obtain ⟨d0, d1, d2, d3⟩ := fst_some h
  rw [Bool.and_eq_true] at d2
  exact ⟨d0, by unfold dfM; omega, d2.1⟩
theorem nxt_le {w : Int → Int} {N : Int} (h0 : 0 ≤ N) (h1 : N < tot w) (p : mdl w N = true) : nxt w 0 ≠ -1 ∧ nxt w 0 ≤ N := by
  have z : nxt w 0 ≠ -1 := fun e => by
    rw [nxt_none e N h0 h0 h1] at p
    cases p
  refine ⟨z, ?_⟩
  obtain ⟨a, b, c, d, f⟩ := nxt_some z
  by_cases l : N < nxt w 0
  · rw [f N h0 h0 l] at p
    cases p
  · omega
theorem coreF_nn {w : Int → Int} (hW : WF w) : ∀ k : Nat, (k : Int) ≤ w 290 → 0 ≤ coreF w k ∧ coreF w k < p2 (w 290) := by
  have cn := hW.cn
  have hp := p2_pos (w 290)
  have hq := p2_le20 cn.2
  intro k
  induction k with
  | zero =>
    intro _
    show 0 ≤ p2 (w 290) - 1 ∧ p2 (w 290) - 1 < p2 (w 290)
    omega
  | succ k ih =>
    intro hk
    have i := ih (by omega)
    have e := coreF_s w (k := (k : Int)) (by omega)
    rw [show ((k : Int) + 1).toNat = k + 1 by omega, show ((k : Int)).toNat = k by omega] at e
    rw [e]
    split
    · unfold coreS
      have s1 : sShl 1 (k : Int) = p2 k := by
        have pk := p2_le20 (k := (k : Int)) (by omega)
        rw [sShl_eq (by omega) (by omega) (by decide) (by omega)]
        omega
      rw [s1]
      have r : 0 ≤ bAnd (coreF w k) (bXor (p2 k) (-1)) ∧ bAnd (coreF w k) (bXor (p2 k) (-1)) ≤ coreF w k := by
        have pk := p2_le20 (k := (k : Int)) (by omega)
        have pp := p2_pos (k : Int)
        have u1 := un_pos i.1 (show coreF w k < 4294967296 by omega)
        have le : un (coreF w k) &&& un (bXor (p2 k) (-1)) ≤ un (coreF w k) := Nat.and_le_left
        rw [bAnd_nat (by omega)]
        omega
      omega
    · exact i
theorem gnA_rng {w : Int → Int} (hW : WF w) (N : Int) : 0 ≤ gnA w N ∧ gnA w N ≤ 72 := by
  have wn := hW.wn
  have g := gnW_rng hW N (w 332).toNat (by omega)
  unfold gnA
  omega
theorem asg_hi {w : Int → Int} (hW : WF w) (hv : 0 < w 281) {N : Int} (h0 : 0 ≤ N) (h1 : N < tot w) : asg w N 0 = N / p2 (plc w 0) := by
  have pr := plc_rng hW (v := 0) (by decide) hv
  have wv := hW.wv (v := 0) (by decide) hv
  have e : tot w = p2 (nd w (w (282 + 0)) 1) * p2 (plc w 0) := by
    rw [← p2_add (by omega) pr.1]
    unfold tot plc
    have s : sumW w (0 + 1 : Int).toNat = nd w (w (282 + 0)) 1 := by
      have := sumW_i w (i := 0) (by decide)
      rw [this]
      show 0 + _ = _
      omega
    rw [s]
    congr 1
    omega
  have pp := p2_pos (plc w 0)
  have d0 : 0 ≤ N / p2 (plc w 0) := Int.ediv_nonneg h0 (by omega)
  have d1 : N / p2 (plc w 0) < p2 (nd w (w (282 + 0)) 1) := Int.ediv_lt_of_lt_mul pp (by rw [← e]; exact h1)
  unfold asg
  exact Int.emod_eq_of_lt d0 d1
theorem asg_mono {w : Int → Int} (hW : WF w) (hv : 0 < w 281) {N M : Int} (h0 : 0 ≤ N) (h1 : N ≤ M) (h2 : M < tot w) : asg w N 0 ≤ asg w M 0 := by
  rw [asg_hi hW hv h0 (by omega), asg_hi hW hv (by omega) h2]
  exact Int.ediv_le_ediv (p2_pos _) h1
theorem asg_nn {w : Int → Int} (N v : Int) : 0 ≤ asg w N v := emod_rng.1

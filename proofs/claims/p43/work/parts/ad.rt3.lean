/-! ===== a description read, whole ===== -/
def RdN (T : Int → Int) (M : Int) (F : Rw) (w : Int → Int) (n : Int) : Prop := ∀ r, Rs T M F r → wtS r → ¬ whS r → Tp T (pP r) (dsc w n) → ¬ isD (T (pP r + ((dsc w n).length : Int))) → Bk w r → ∃ s, Rs T M F s ∧ pP s = pP r + ((dsc w n).length : Int) ∧ Nd w n r s
/-- some operands are read -/
def OpR (w : Int → Int) (n : Int) (r s : Rw) (i : Nat) : Prop := pO s = pO r + 1 ∧ (∀ j, 0 ≤ j → j < pO r → s 55 j = r 55 j ∧ s 57 j = r 57 j ∧ s 58 j = r 58 j ∧ s 56 j = r 56 j) ∧ (s 55 (pO r) = nd w n 0 ∧ s 56 (pO r) = opc (nd w n 0) - i ∧ s 57 (pO r) = dgc (nd w n 0) ∧ s 58 (pO r) = 0) ∧ pS r ≤ pS s ∧ Bk w s ∧ zS s = zS r + i ∧ (∀ j : Nat, j < i → stk w s (zS r + (j : Int)) = nd w n (2 + (j : Int))) ∧ ∀ j, j < zS r → stk w s j = stk w r j
/-- all operands are read, e digits are wanted, d is the number so far -/
def TopR (w : Int → Int) (n : Int) (r s : Rw) (e d : Int) : Prop := pO s = pO r + 1 ∧ (∀ j, 0 ≤ j → j < pO r → s 55 j = r 55 j ∧ s 57 j = r 57 j ∧ s 58 j = r 58 j ∧ s 56 j = r 56 j) ∧ (s 55 (pO r) = nd w n 0 ∧ s 56 (pO r) = 0 ∧ s 57 (pO r) = e ∧ s 58 (pO r) = d) ∧ pS r ≤ pS s ∧ Bk w s ∧ zS s = zS r + opc (nd w n 0) ∧ (∀ j : Nat, (j : Int) < opc (nd w n 0) → stk w s (zS r + (j : Int)) = nd w n (2 + (j : Int))) ∧ ∀ j, j < zS r → stk w s j = stk w r j
section Rd
variable {T : Int → Int} {M : Int} {F : Rw} {w : Int → Int} {n : Int} {r : Rw}
theorem op_lp {q : Rw} (hq : Rs T M F q) (o0 : OpR w n r q 0) (p0 : 0 ≤ pO r) : ∀ i : Nat, (i : Int) ≤ opc (nd w n 0) → (∀ j : Nat, j < i → RdN T M F w (nd w n (2 + (j : Int)))) → ∀ (c : Int) (B : List Int), ¬ isD c → Tp T (pP q) (opsL (dsc w) w n i ++ c :: B) → ∃ s, Rs T M F s ∧ pP s = pP q + ((opsL (dsc w) w n i).length : Int) ∧ OpR w n r s i := by
  intro i
  induction i with
  | zero => intro _ _ c B _ _; exact ⟨q, hq, by show pP q = pP q + ((0 : Nat) : Int); omega, o0⟩
  | succ i ih =>
    intro hi hr c B hc hT
    have e : opsL (dsc w) w n (i + 1) ++ c :: B = opsL (dsc w) w n i ++ (32 :: (dsc w (nd w n (2 + (i : Int))) ++ c :: B)) := by
      show (opsL (dsc w) w n i ++ (32 :: dsc w (nd w n (2 + (i : Int))))) ++ c :: B = _
      rw [List.append_assoc]
      rfl
    rw [e] at hT
    obtain ⟨s, hs, ps, os⟩ := ih (by omega) (fun j hj => hr j (by omega)) 32 _ (by decide) hT
    have t := (Tp.app _ hT).2
    rw [← ps] at t
    obtain ⟨s1, h1, p1, ss1, so1⟩ := rd_sp hs t.hd
    have t1 := t.tl
    rw [← p1] at t1
    obtain ⟨a1, a2, ⟨a3, a4, a5, a6⟩, a7, a8, a9, a10, a11⟩ := os
    obtain ⟨e1, e2, e3⟩ := ss1.ev w
    have es := ss1.2.2.2
    obtain ⟨b1, b2, b3, b4, b5⟩ := so1
    have w1 : wtS s1 := Or.inr (by rw [b1, a1, b3, show pO r + 1 - 1 = pO r by omega, a4]; omega)
    have n1 : ¬ whS s1 := fun z => by have := z.1; omega
    obtain ⟨s2, h2, p2, c1, c2, c3, c4, c5, c6, c7⟩ := hr i (by omega) s1 h1 w1 n1 (Tp.app _ t1).1 (by rw [Tp.end _ t1]; exact hc) (e3 a8)
    have l : ((opsL (dsc w) w n (i + 1)).length : Int) = ((opsL (dsc w) w n i).length : Int) + 1 + ((dsc w (nd w n (2 + (i : Int)))).length : Int) := by
      show ((opsL (dsc w) w n i ++ (32 :: dsc w (nd w n (2 + (i : Int))))).length : Int) = _
      rw [List.length_append, List.length_cons]
      omega
    refine ⟨s2, h2, by omega, by omega, fun j j0 j1 => ?_, ?_, by omega, c4, by omega, fun j hj => ?_, fun j hj => ?_⟩
    · obtain ⟨d1, d2, d3, d4⟩ := c2 j j0 (by omega)
      obtain ⟨f1, f2, f3, f4⟩ := a2 j j0 j1
      rw [if_neg (by omega)] at d4
      rw [d1, d2, d3, d4, b2, b3, b4, b5, f1, f2, f3, f4]
      exact ⟨rfl, rfl, rfl, by omega⟩
    · obtain ⟨d1, d2, d3, d4⟩ := c2 (pO r) p0 (by omega)
      rw [if_pos (by omega)] at d4
      rw [d1, d2, d3, d4, b2, b3, b4, b5, a3, a4, a5, a6]
      exact ⟨rfl, by omega, rfl, rfl⟩
    · by_cases z : j < i
      · rw [c7 _ (by omega), e2]
        exact a10 j z
      · have hj' : j = i := by omega
        subst hj'
        have q : zS r + (j : Int) = zS s1 := by omega
        rw [q]
        exact c6
    · rw [c7 j (by omega), e2]
      exact a11 j hj
theorem top_dg {s : Rw} {e d x : Int} (hs : Rs T M F s) (t : TopR w n r s e d) (p0 : 0 ≤ pO r) (e0 : 0 < e) (x0 : 0 ≤ x) (x9 : x ≤ 9) (c0 : T (pP s) = 32) (c1 : T (pP s + 1) = 48 + x) (c2 : ¬ isD (T (pP s + 2))) : ∃ s', Rs T M F s' ∧ pP s' = pP s + 2 ∧ TopR w n r s' (e - 1) (10 * d + x) := by
  obtain ⟨a1, a2, ⟨a3, a4, a5, a6⟩, a7, a8, a9, a10, a11⟩ := t
  obtain ⟨s1, h1, p1, ss1, b1, b2, b3, b4, b5⟩ := rd_sp hs c0
  have tp : pO s1 - 1 = pO r := by omega
  have nw : ¬ wtS s1 := fun z => by
    rcases z with z | z
    · omega
    · rw [tp, b3, a4] at z
      omega
  obtain ⟨s2, h2, p2, ss2, q1, q2, q3, q4, q5⟩ := rd_dig h1 nw (by rw [tp, b4, a5]; exact e0) x0 x9 (by rw [p1]; exact c1) (by rw [p1, show pP s + 1 + 1 = pP s + 2 by omega]; exact c2)
  obtain ⟨e1, e2, e3⟩ := ss1.ev w
  obtain ⟨f1, f2, f3⟩ := ss2.ev w
  have es := ss1.2.2.2
  have es2 := ss2.2.2.2
  rw [tp] at q4 q5
  refine ⟨s2, h2, by omega, by omega, fun j j0 j1 => ?_, ?_, by omega, f3 (e3 a8), by omega, fun j hj => ?_, fun j hj => ?_⟩
  · obtain ⟨g1, g2, g3, g4⟩ := a2 j j0 j1
    rw [q2, q3, q4, q5, up_ne (by omega), up_ne (by omega), b2, b3, b4, b5]
    exact ⟨g1, g2, g3, g4⟩
  · rw [q2, q3, q4, q5, up_self, up_self, b2, b3, b4, b5, a3, a4, a5, a6]
    exact ⟨rfl, rfl, rfl, rfl⟩
  · rw [f2, e2]
    exact a10 j hj
  · rw [f2, e2]
    exact a11 j hj
theorem top_cl {s : Rw} (hs : Rs T M F s) (hW : WF w) (hU : Uq w) (n0 : 0 ≤ n) (n1 : n < w 0) (k2 : 2 ≤ nd w n 0) (t : TopR w n r s 0 (stN w n)) (p0 : 0 ≤ pO r) (c0 : T (pP s) = 41) : ∃ s', Rs T M F s' ∧ pP s' = pP s + 1 ∧ Nd w n r s' := by
  obtain ⟨a1, a2, ⟨a3, a4, a5, a6⟩, a7, a8, a9, a10, a11⟩ := t
  have tp : pO s - 1 = pO r := by omega
  have nw : ¬ wtS s := fun z => by
    rcases z with z | z
    · omega
    · rw [tp, a4] at z
      omega
  obtain ⟨q, h1, p1, ss1, b1, b2, b3, b4, b5⟩ := rd_cls hs nw (by rw [tp, a5]; omega) c0
  rw [tp, a3, a6] at h1 p1
  rw [tp] at b1
  obtain ⟨e1, e2, e3⟩ := ss1.ev w
  have es := ss1.2.2.2
  have sx : stX w n = -1 := if_neg (by omega)
  have s0 := hs.s0
  have m : mk2 w (nd w n 0) (stN w n) (-1) (stk w q (zS q - opc (nd w n 0))) (stk w q (zS q - opc (nd w n 0) + 1)) (stk w q (zS q - opc (nd w n 0) + 2)) = (n, w) := by
    rw [← sx, show zS q - opc (nd w n 0) = zS r by omega, e2]
    refine mk2_self hW hU n0 n1 (fun z => ?_) (fun z => ?_) (fun z => ?_)
    · have := a10 0 z
      rw [show zS r + ((0 : Nat) : Int) = zS r by omega] at this
      exact this
    · exact a10 1 z
    · exact a10 2 z
  obtain ⟨v1, v2, v3, v4⟩ := ad_ev (r := q) (k := nd w n 0) (x := stN w n) (y := -1) (by omega) (e3 a8) m (by omega)
  rw [show zS q - opc (nd w n 0) = zS r by omega] at v2 v4
  refine ⟨_, h1, p1, (adS_F _ _ _ _ (by decide)).trans b1, fun i i0 i1 => ?_, by omega, v3, v2, ?_, fun i hi => ?_⟩
  · obtain ⟨g1, g2, g3, g4⟩ := a2 i i0 i1
    refine ⟨?_, ?_, ?_, ?_⟩
    · rw [adS_ne q _ _ _ (by decide), b2]
      exact g1
    · rw [adS_ne q _ _ _ (by decide), b4]
      exact g2
    · rw [adS_ne q _ _ _ (by decide), b5]
      exact g3
    · rw [adS_56, if_pos (by omega), b1, b3]
      by_cases z : i = pO r - 1
      · rw [z, up_self, if_pos rfl, ← z, g4]
      · rw [up_ne z, if_neg z, g4]
        omega
  · rw [v4, up_self]
  · rw [v4, up_ne (by omega), e2]
    exact a11 i hi
theorem ops_hd (D : Int → List Int) (w : Int → Int) (n : Int) : ∀ (c : Nat) (X : List Int), ∃ B, opsL D w n (c + 1) ++ X = 32 :: B := by
  intro c
  induction c with
  | zero => intro X; exact ⟨D (nd w n (2 + ((0 : Nat) : Int))) ++ X, rfl⟩
  | succ c ih =>
    intro X
    obtain ⟨B, e⟩ := ih ((32 :: D (nd w n (2 + ((c + 1 : Nat) : Int)))) ++ X)
    refine ⟨B, ?_⟩
    rw [← e]
    show (opsL D w n (c + 1) ++ (32 :: D (nd w n (2 + ((c + 1 : Nat) : Int))))) ++ X = _
    rw [List.append_assoc]
theorem rd_all (hW : WF w) (hU : Uq w) : ∀ m : Nat, ∀ n : Int, 0 ≤ n → n < (m : Int) → n < w 0 → RdN T M F w n := by
  intro m
  induction m with
  | zero => intro n a b; omega
  | succ m ih =>
    intro n n0 nm n1 r h hw hn hT hnd hb
    have wn := hW.node n0 n1
    obtain ⟨⟨k1, k24, w1, w8⟩, _, g1, g2, g3, g4, _, _, _, _, _, _, _, _, _, g12, g13, _⟩ := wn.o
    have vn := hW.vn
    have s0 := h.s0
    have wk := fun a b c => mk2_self hW hU n0 n1 (a := a) (b := b) (c := c)
    rw [dsc_eq hW n0 n1] at hT hnd ⊢
    unfold dsB at hT hnd ⊢
    by_cases z1 : nd w n 0 = 1
    · rw [if_pos z1] at hT hnd ⊢
      have v := g3 z1
      have c2 : ¬ isD (T (pP r + 2)) := hnd
      obtain ⟨q, hq, pq, sq, oq⟩ := rd_var h hw hn v.1 (by omega) hT.hd hT.tl.hd c2
      have o1 : opc (nd w n 0) = 0 := by rw [z1]; rfl
      refine ⟨_, hq, pq, leaf_nd sq oq s0.1 hb rfl (fun a b c => ?_) (by omega)⟩
      have e := wk a b c (by omega) (by omega) (by omega)
      rw [show stN w n = nd w n 5 from if_pos (by omega), show stX w n = -1 from if_neg (by omega), z1] at e
      exact e
    rw [if_neg z1] at hT hnd ⊢
    by_cases z0 : nd w n 0 = 0
    · rw [if_pos z0] at hT hnd ⊢
      have v := g2 z0
      have p8 := p2_le8 w8
      have l : (((numL (nd w n 5) ++ [58, 48 + nd w n 1]).length : Nat) : Int) = ((numL (nd w n 5)).length : Int) + 2 := by
        rw [List.length_append]
        show (((numL (nd w n 5)).length + 2 : Nat) : Int) = _
        omega
      rw [l] at hnd ⊢
      obtain ⟨q, hq, pq, sq, oq⟩ := rd_con h hw hn v.1 (by omega) (by omega) (by omega) hT (by rw [show pP r + ((numL (nd w n 5)).length : Int) + 2 = pP r + (((numL (nd w n 5)).length : Int) + 2) by omega]; exact hnd)
      have o1 : opc (nd w n 0) = 0 := by rw [z0]; rfl
      refine ⟨_, hq, by omega, leaf_nd sq oq s0.1 hb rfl (fun a b c => ?_) (by omega)⟩
      have e := wk a b c (by omega) (by omega) (by omega)
      rw [show stN w n = nd w n 5 from if_pos (by omega), show stX w n = nd w n 1 from if_pos z0, z0] at e
      exact e
    rw [if_neg z0] at hT hnd ⊢
    have k2 : 2 ≤ nd w n 0 := by omega
    have oc := opc_rng (nd w n 0)
    have oc1 := oc.2.2.1 k2
    have wr := wlen_rng k2 k24
    obtain ⟨B, eB⟩ := ops_hd (dsc w) w n ((opc (nd w n 0)).toNat - 1) (digL w n ++ [41])
    rw [show (opc (nd w n 0)).toNat - 1 + 1 = (opc (nd w n 0)).toNat by omega] at eB
    have hTo := hT
    rw [eB] at hTo
    obtain ⟨q, hq, pq, sq, q1, q2, q3, q4, q5⟩ := rd_open h hw hn k2 k24 hTo
    obtain ⟨e1, e2, e3⟩ := sq.ev w
    have es := sq.2.2.2
    have O0 : OpR w n r q 0 := by
      refine ⟨q1, fun j j0 j1 => ?_, ?_, by omega, e3 hb, by omega, fun j hj => absurd hj (Nat.not_lt_zero _), fun j _ => by rw [e2]⟩
      · rw [q2, q3, q4, q5, up_ne (by omega), up_ne (by omega), up_ne (by omega), up_ne (by omega)]
        exact ⟨rfl, rfl, rfl, rfl⟩
      · rw [q2, q3, q4, q5, up_self, up_self, up_self, up_self]
        exact ⟨rfl, by omega, rfl, rfl⟩
    have hT1 := (Tp.app _ hT.tl).2
    rw [wdU_len, show pP r + 1 + (((wlen (nd w n 0)).toNat : Nat) : Int) = pP q by omega] at hT1
    have R : ∀ j : Nat, j < (opc (nd w n 0)).toNat → RdN T M F w (nd w n (2 + (j : Int))) := fun j hj => by
      have o := op_lt wn (i := j) (by omega)
      exact ih _ o.1 (by omega) (by omega)
    have LP := op_lp hq O0 s0.2 (opc (nd w n 0)).toNat (by omega) R
    have ln : (((40 :: (wdU (nd w n 0) (wlen (nd w n 0)).toNat ++ (opsL (dsc w) w n (opc (nd w n 0)).toNat ++ (digL w n ++ [41])))).length : Nat) : Int) = 1 + wlen (nd w n 0) + ((opsL (dsc w) w n (opc (nd w n 0)).toNat).length : Int) + ((digL w n).length : Int) + 1 := by
      rw [List.length_cons, List.length_append, List.length_append, List.length_append, wdU_len]
      show (((wlen (nd w n 0)).toNat + ((opsL (dsc w) w n (opc (nd w n 0)).toNat).length + ((digL w n).length + 1)) + 1 : Nat) : Int) = _
      omega
    rw [ln]
    have TR : ∀ s, OpR w n r s (opc (nd w n 0)).toNat → TopR w n r s (dgc (nd w n 0)) 0 := fun s o => by
      obtain ⟨a1, a2, ⟨a3, a4, a5, a6⟩, a7, a8, a9, a10, a11⟩ := o
      exact ⟨a1, a2, ⟨a3, by omega, a5, a6⟩, a7, a8, by omega, fun j hj => a10 j (by omega), a11⟩
    by_cases d21 : nd w n 0 = 21
    · have ed : digL w n = [32, 48 + nd w n 5, 32, 48 + nd w n 6] := if_pos d21
      have sn : stN w n = 10 * nd w n 5 + nd w n 6 := by
        unfold stN
        rw [if_neg (by omega), if_pos d21]
      have v := g12 d21
      have wa := hW.wd (n := nd w n 2) (by have := g4 k2; omega) (by have := (op_lt wn (i := 0) (by omega)).2; have : nd w n (2 + ((0 : Nat) : Int)) = nd w n 2 := rfl; omega)
      rw [ed] at hT1 ⊢
      obtain ⟨s, hs, ps, os⟩ := LP 32 _ (by decide) hT1
      have t := (Tp.app _ hT1).2
      rw [← ps] at t
      have t : Tp T (pP s) [32, 48 + nd w n 5, 32, 48 + nd w n 6, 41] := t
      have c0 := t.hd
      have c1 := t.tl.hd
      have c2 := t.tl.tl.hd
      have c3 := t.tl.tl.tl.hd
      have c4 := t.tl.tl.tl.tl.hd
      rw [show pP s + 1 + 1 = pP s + 2 by omega] at c2 c3 c4
      rw [show pP s + 2 + 1 = pP s + 3 by omega] at c3 c4
      have dg : dgc (nd w n 0) = 2 := by rw [d21]; rfl
      have tr := TR s os
      rw [dg] at tr
      obtain ⟨s1, h1, p1, tr1⟩ := top_dg hs tr s0.2 (by decide) (x := nd w n 5) (by omega) (by omega) c0 c1 (by rw [c2]; decide)
      obtain ⟨s2, h2, p2, tr2⟩ := top_dg h1 tr1 s0.2 (by decide) (x := nd w n 6) (by omega) (by omega) (by rw [p1]; exact c2) (by rw [p1, show pP s + 2 + 1 = pP s + 3 by omega]; exact c3) (by rw [p1, show pP s + 2 + 2 = pP s + 3 + 1 by omega, c4]; decide)
      rw [show 10 * (10 * 0 + nd w n 5) + nd w n 6 = stN w n by rw [sn]; omega] at tr2
      obtain ⟨s3, h3, p3, fin3⟩ := top_cl h2 hW hU n0 n1 k2 tr2 s0.2 (by rw [p2, p1, show pP s + 2 + 2 = pP s + 3 + 1 by omega]; exact c4)
      exact ⟨s3, h3, by show pP s3 = pP r + (1 + wlen (nd w n 0) + ((opsL (dsc w) w n (opc (nd w n 0)).toNat).length : Int) + (4 : Int) + 1); omega, fin3⟩
    by_cases d22 : nd w n 0 = 22 ∨ nd w n 0 = 23
    · have ed : digL w n = [32, 48 + nd w n 1] := by
        unfold digL
        rw [if_neg d21, if_pos d22]
      have sn : stN w n = nd w n 1 := by
        unfold stN
        rw [if_neg (by omega), if_neg d21, if_pos d22]
      rw [ed] at hT1 ⊢
      obtain ⟨s, hs, ps, os⟩ := LP 32 _ (by decide) hT1
      have t := (Tp.app _ hT1).2
      rw [← ps] at t
      have t : Tp T (pP s) [32, 48 + nd w n 1, 41] := t
      have c0 := t.hd
      have c1 := t.tl.hd
      have c2 := t.tl.tl.hd
      rw [show pP s + 1 + 1 = pP s + 2 by omega] at c2
      have dg : dgc (nd w n 0) = 1 := by
        unfold dgc
        rw [if_neg d21, if_pos d22]
      have tr := TR s os
      rw [dg] at tr
      obtain ⟨s1, h1, p1, tr1⟩ := top_dg hs tr s0.2 (by decide) (x := nd w n 1) (by omega) (by omega) c0 c1 (by rw [c2]; decide)
      rw [show 10 * 0 + nd w n 1 = stN w n by rw [sn]; omega] at tr1
      obtain ⟨s3, h3, p3, fin3⟩ := top_cl h1 hW hU n0 n1 k2 tr1 s0.2 (by rw [p1]; exact c2)
      exact ⟨s3, h3, by show pP s3 = pP r + (1 + wlen (nd w n 0) + ((opsL (dsc w) w n (opc (nd w n 0)).toNat).length : Int) + (2 : Int) + 1); omega, fin3⟩
    · have ed : digL w n = [] := by
        unfold digL
        rw [if_neg d21, if_neg d22]
      have sn : stN w n = 0 := by
        unfold stN
        rw [if_neg (by omega), if_neg d21, if_neg d22]
      rw [ed] at hT1 ⊢
      obtain ⟨s, hs, ps, os⟩ := LP 41 _ (by decide) hT1
      have t := (Tp.app _ hT1).2
      rw [← ps] at t
      have dg : dgc (nd w n 0) = 0 := by
        unfold dgc
        rw [if_neg d21, if_neg d22]
      have tr := TR s os
      rw [dg] at tr
      have tr : TopR w n r s 0 (stN w n) := by rw [sn]; exact tr
      obtain ⟨s3, h3, p3, fin3⟩ := top_cl hs hW hU n0 n1 k2 tr s0.2 t.hd
      exact ⟨s3, h3, by show pP s3 = pP r + (1 + wlen (nd w n 0) + ((opsL (dsc w) w n (opc (nd w n 0)).toNat).length : Int) + (0 : Int) + 1); omega, fin3⟩
end Rd
/-- the description of a node is read as the node, and nothing is made -/
theorem rd_whole {w : Int → Int} {n : Int} {r : Rw} (hW : WF w) (hU : Uq w) (n0 : 0 ≤ n) (n1 : n < w 0) (h : TxL r (dsc w n)) : rdA (fin (stR r)) = -1 ∧ Bk w (fin (stR r)) ∧ stk w (fin (stR r)) 0 = n := by
  obtain ⟨h1, h2, h3⟩ := h.o
  have g := stR_G (r := r) (by omega) (by omega)
  have e49 : stR r 49 1 = ((dsc w n).length : Int) := h1
  have hr : Rs (tA (stR r)) (stR r 49 1) (fin (stR r)) (stR r) := ⟨g, rfl, rfl, rfl⟩
  have p0 : pP (stR r) = 0 := rfl
  have o0 : pO (stR r) = 0 := rfl
  have s0 : pS (stR r) = 0 := rfl
  have tp : Tp (tA (stR r)) (pP (stR r)) (dsc w n) := fun i hi => by
    rw [p0, show (0 : Int) + (i : Int) = i by omega]
    show (if 0 ≤ (i : Int) ∧ (i : Int) < r 49 1 then r 50 i else -1) = _
    rw [if_pos (by omega)]
    exact h3 i hi
  have nd : ¬ isD (tA (stR r) (pP (stR r) + ((dsc w n).length : Int))) := fun q => by
    have := (tA_rng q).2
    omega
  have bk : Bk w (stR r) := ⟨rfl, Box.i fun s hs => absurd hs (Nat.not_lt_zero _)⟩
  obtain ⟨s, hs, ps, c1, c2, c3, c4, c5, c6, c7⟩ := rd_all (T := tA (stR r)) (M := stR r 49 1) (F := fin (stR r)) hW hU (n.toNat + 1) n n0 (by omega) n1 (stR r) hr (Or.inl o0) (fun q => by have := q.2; omega) tp nd bk
  have m49 := hs.2.2.2
  have fs : fin s = s := fin_stop (Or.inr (by omega))
  have e : fin (stR r) = s := hs.2.1.symm.trans fs
  rw [e]
  have zr : zS (stR r) = 0 := rfl
  refine ⟨?_, c4, by rw [zr] at c6; exact c6⟩
  unfold rdA
  rw [if_neg (fun q => q hs.e), if_pos ⟨by omega, by omega⟩]
/-- the empty text -/
theorem rd_empty {r : Rw} (h : r 49 1 = 0) : rdA (fin (stR r)) = 0 := by
  have e49 : stR r 49 1 = 0 := h
  have p0 : pP (stR r) = 0 := rfl
  have fs : fin (stR r) = stR r := fin_stop (Or.inr (by omega))
  rw [fs]
  unfold rdA
  rw [if_neg (fun q => q rfl), if_neg (fun q => by
    have : (0 : Int) < pS (stR r) := q.2
    have z : pS (stR r) = 0 := rfl
    omega)]
  exact e49

/-! ===== a description read: leaves, parentheses, digits ===== -/
section Rd
variable {T : Int → Int} {M : Int} {F r : Rw}
theorem rd_sp (h : Rs T M F r) (c : T (pP r) = 32) : ∃ s, Rs T M F s ∧ pP s = pP r + 1 ∧ Ss r s ∧ Os r s := by
  have e : tnS r = avS r := if_pos (by rw [h.t]; exact c)
  exact ⟨avS r, h.st (by omega) e h.e, up_self (r 51) 1 _, ⟨rfl, rfl, rfl, rfl⟩, ⟨rfl, rfl, rfl, rfl, rfl⟩⟩
theorem dg_ok {q : Rw} (h1 : isD (tA q (pP q))) (h2 : ¬ isD (tA q (pP q + 1))) : dgS q = avS q ∧ dgV q = tA q (pP q) - 48 := by
  unfold dgS dgV
  rw [if_pos h1, if_neg h2, if_pos h1]
  exact ⟨rfl, rfl⟩
theorem rd_var (h : Rs T M F r) (hw : wtS r) (hn : ¬ whS r) {v : Int} (v0 : 0 ≤ v) (v9 : v ≤ 9) (c0 : T (pP r) = 118) (c1 : T (pP r + 1) = 48 + v) (c2 : ¬ isD (T (pP r + 2))) : ∃ q, Rs T M F (adS q 1 v (-1)) ∧ pP (adS q 1 v (-1)) = pP r + 2 ∧ Ss r q ∧ Os r q := by
  have t0 := h.t (pP r)
  have t1 := h.t (pP r + 1)
  have t2 := h.t (pP r + 2)
  have p1 : pP (avS r) = pP r + 1 := up_self (r 51) 1 _
  have p2 : pP (avS (avS r)) = pP r + 2 := by rw [show pP (avS (avS r)) = pP (avS r) + 1 from up_self (avS r 51) 1 _]; omega
  have dv : tA (avS r) (pP (avS r)) = 48 + v := by
    show tA r (pP (avS r)) = _
    rw [p1, t1, c1]
  have dn : tA (avS r) (pP (avS r) + 1) = T (pP r + 2) := by
    show tA r (pP (avS r) + 1) = _
    rw [p1, ← t2, show pP r + 1 + 1 = pP r + 2 by omega]
  have d := dg_ok (q := avS r) (by rw [dv]; omega) (by rw [dn]; exact c2)
  have e : tnS r = adS (avS (avS r)) 1 v (-1) := by
    unfold tnS
    rw [if_neg (by omega), if_neg hn, if_neg (fun q => by omega), if_pos hw]
    unfold lfS
    rw [if_pos ⟨by omega, by omega⟩, d.1, d.2, dv, show 48 + v - 48 = v by omega]
  exact ⟨avS (avS r), h.st (by omega) e ((adS_F _ _ _ _ (by decide)).trans h.e), (adS_F _ _ _ _ (by decide)).trans p2, ⟨rfl, rfl, rfl, rfl⟩, ⟨rfl, rfl, rfl, rfl, rfl⟩⟩
theorem cn_num (t : tA r = T) {p x d : Int} (x0 : 0 ≤ x) (x1 : x ≤ 999) (hT : Tp T p (numL x ++ [58, d])) : cnS r 3 p 0 = (p + ((numL x).length : Int), x) := by
  unfold numL at *
  by_cases a : 100 ≤ x
  · rw [if_pos a, if_pos (by omega)] at hT ⊢
    have hT : Tp T p [48 + x / 100, 48 + x / 10 % 10, 48 + x % 10, 58, d] := hT
    have a0 := hT.hd
    have a1 := hT.tl.hd
    have a2 := hT.tl.tl.hd
    rw [← t] at a0 a1 a2
    rw [cnS_s (by omega), cnS_s (by omega), cnS_s (by omega)]
    show (p + 1 + 1 + 1, _) = (p + (3 : Int), x)
    rw [a0, a1, a2]
    exact Prod.ext (by show p + 1 + 1 + 1 = p + 3; omega) (by show 10 * (10 * (10 * 0 + (48 + x / 100) - 48) + (48 + x / 10 % 10) - 48) + (48 + x % 10) - 48 = x; omega)
  · rw [if_neg a] at hT ⊢
    by_cases b : 10 ≤ x
    · rw [if_pos b] at hT ⊢
      have hT : Tp T p [48 + x / 10 % 10, 48 + x % 10, 58, d] := hT
      have a0 := hT.hd
      have a1 := hT.tl.hd
      have a2 := hT.tl.tl.hd
      rw [← t] at a0 a1 a2
      rw [cnS_s (by omega), cnS_s (by omega), cnS_z (by omega)]
      show (p + 1 + 1, _) = (p + (2 : Int), x)
      rw [a0, a1]
      exact Prod.ext (by show p + 1 + 1 = p + 2; omega) (by show 10 * (10 * 0 + (48 + x / 10 % 10) - 48) + (48 + x % 10) - 48 = x; omega)
    · rw [if_neg b] at hT ⊢
      have hT : Tp T p [48 + x % 10, 58, d] := hT
      have a0 := hT.hd
      have a1 := hT.tl.hd
      rw [← t] at a0 a1
      rw [cnS_s (by omega), cnS_z (by omega)]
      show (p + 1, _) = (p + (1 : Int), x)
      rw [a0]
      exact Prod.ext rfl (by show 10 * 0 + (48 + x % 10) - 48 = x; omega)
theorem num_hd {x : Int} (x0 : 0 ≤ x) (x1 : x ≤ 999) {p : Int} {B : List Int} (hT : Tp T p (numL x ++ B)) : isD (T p) := by
  unfold numL at hT
  by_cases a : 100 ≤ x
  · rw [if_pos a] at hT
    have := Tp.hd (L := ((if 10 ≤ x then [48 + x / 10 % 10] else []) ++ [48 + x % 10]) ++ B) hT
    omega
  · rw [if_neg a] at hT
    by_cases b : 10 ≤ x
    · rw [if_pos b] at hT
      have := Tp.hd (L := [48 + x % 10] ++ B) hT
      omega
    · rw [if_neg b] at hT
      have := Tp.hd (L := B) hT
      omega
theorem rd_con (h : Rs T M F r) (hw : wtS r) (hn : ¬ whS r) {x d : Int} (x0 : 0 ≤ x) (x1 : x ≤ 999) (d0 : 0 ≤ d) (d9 : d ≤ 9) (hT : Tp T (pP r) (numL x ++ [58, 48 + d])) (c2 : ¬ isD (T (pP r + (numL x).length + 2))) : ∃ q, Rs T M F (adS q 0 x d) ∧ pP (adS q 0 x d) = pP r + (numL x).length + 2 ∧ Ss r q ∧ Os r q := by
  have t0 := h.t (pP r)
  have hd := num_hd x0 x1 hT
  have cn := cn_num h.2.2.1 x0 x1 hT
  have b := (Tp.app (numL x) hT).2
  generalize hp : pP r + ((numL x).length : Int) = p' at cn b c2 ⊢
  have b0 := b.hd
  have b1 := b.tl.hd
  have u0 := h.t p'
  have u1 := h.t (p' + 1)
  have u2 := h.t (p' + 2)
  have p1 : pP (sF r 1 p') = p' := up_self (r 51) 1 _
  have k1 : skS (sF r 1 p') = sF r 1 p' := skS_id (fun q => by
    have q2 : tA r (sF r 1 p' 51 1) = 32 := q.2
    rw [show sF r 1 p' 51 1 = p' from p1] at q2
    omega)
  have p2 : pP (avS (sF r 1 p')) = p' + 1 := by rw [show pP (avS (sF r 1 p')) = pP (sF r 1 p') + 1 from up_self (sF r 1 p' 51) 1 _, p1]
  have k2 : skS (avS (sF r 1 p')) = avS (sF r 1 p') := skS_id (fun q => by
    have q2 : tA r (avS (sF r 1 p') 51 1) = 32 := q.2
    rw [show avS (sF r 1 p') 51 1 = p' + 1 from p2] at q2
    omega)
  have dv : tA (avS (sF r 1 p')) (pP (avS (sF r 1 p'))) = 48 + d := by
    show tA r (pP (avS (sF r 1 p'))) = _
    rw [p2, u1, b1]
  have dn : tA (avS (sF r 1 p')) (pP (avS (sF r 1 p')) + 1) = T (p' + 2) := by
    show tA r (pP (avS (sF r 1 p')) + 1) = _
    rw [p2, ← u2, show p' + 1 + 1 = p' + 2 by omega]
  have dg := dg_ok (q := avS (sF r 1 p')) (by rw [dv]; omega) (by rw [dn]; exact c2)
  have p3 : pP (avS (avS (sF r 1 p'))) = p' + 2 := by rw [show pP (avS (avS (sF r 1 p'))) = pP (avS (sF r 1 p')) + 1 from up_self (avS (sF r 1 p') 51) 1 _, p2]; omega
  have e : tnS r = adS (avS (avS (sF r 1 p'))) 0 x d := by
    unfold tnS
    rw [if_neg (by omega), if_neg hn, if_neg (fun q => by omega), if_pos hw]
    unfold lfS
    rw [if_neg (fun q => by omega), if_pos (by rw [t0]; exact hd)]
    unfold ctS
    rw [cn]
    unfold ctB
    dsimp only
    rw [if_neg (by omega), k1]
    unfold ctC
    rw [if_pos (by show tA r (pP (sF r 1 p')) = 58; rw [p1, u0, b0]), k2]
    unfold ctD
    rw [dg.1, dg.2, dv, show 48 + d - 48 = d by omega]
  exact ⟨avS (avS (sF r 1 p')), h.st (by omega) e ((adS_F _ _ _ _ (by decide)).trans h.e), (adS_F _ _ _ _ (by decide)).trans p3, ⟨rfl, rfl, rfl, rfl⟩, ⟨rfl, rfl, rfl, rfl, rfl⟩⟩
/-! words -/
theorem wl_l : ∀ j : Nat, j < 23 → ∀ i : Nat, i < 6 → ((i : Int) < wlen ((j : Int) + 2) → 97 ≤ wl ((j : Int) + 2) i ∧ wl ((j : Int) + 2) i ≤ 122) ∧ (wlen ((j : Int) + 2) ≤ i → i < 5 → wl ((j : Int) + 2) i = 32) := by decide +kernel
def wlB (j i : Int) : Bool := decide (wl j 0 = wl i 0 ∧ wl j 1 = wl i 1 ∧ wl j 2 = wl i 2 ∧ wl j 3 = wl i 3 ∧ wl j 4 = wl i 4)
theorem wl_u : ∀ j : Nat, j < 23 → ∀ i : Nat, i < 23 → wlB ((j : Int) + 2) ((i : Int) + 2) = true → j = i := by decide +kernel
theorem wl_at {k : Int} (k0 : 2 ≤ k) (k1 : k ≤ 24) {i : Nat} (hi : i < 6) : ((i : Int) < wlen k → 97 ≤ wl k i ∧ wl k i ≤ 122) ∧ (wlen k ≤ i → i < 5 → wl k i = 32) := by
  have := wl_l (k - 2).toNat (by omega) i hi
  rw [show (((k - 2).toNat : Nat) : Int) + 2 = k by omega] at this
  exact this
theorem wdU_at (k : Int) : ∀ (m i : Nat), i < m → (wdU k m).getD i 0 = wl k i := by
  intro m
  induction m with
  | zero => intro i hi; exact absurd hi (Nat.not_lt_zero _)
  | succ m ih =>
    intro i hi
    show (wdU k m ++ [wl k m]).getD i 0 = _
    have l := wdU_len k m
    rw [List.getD_eq_getElem?_getD]
    by_cases z : i < m
    · rw [List.getElem?_append_left (by omega), ← List.getD_eq_getElem?_getD]
      exact ih i z
    · rw [show i = m by omega, List.getElem?_append_right (by omega), l, Nat.sub_self]
      rfl
theorem opE_w {q : Rw} : ∀ (m : Nat) (a : Int), (∀ i : Nat, i < m → isL q (a + (i : Int))) → ¬ isL q (a + (m : Int)) → a + (m : Int) ≤ q 49 1 → opE q a = a + (m : Int) := by
  intro m
  induction m with
  | zero =>
    intro a _ h _
    rw [show a + ((0 : Nat) : Int) = a by omega] at h ⊢
    exact opE_f (Or.inr h)
  | succ m ih =>
    intro a h1 h2 h3
    have e := h1 0 (by omega)
    rw [show a + ((0 : Nat) : Int) = a by omega] at e
    rw [opE_t (by omega) e, ih (a + 1) (fun i hi => by
      have := h1 (i + 1) (by omega)
      rw [show a + ((i + 1 : Nat) : Int) = a + 1 + (i : Int) by omega] at this
      exact this) (by rw [show a + 1 + (m : Int) = a + ((m + 1 : Nat) : Int) by omega]; exact h2) (by omega)]
    omega
theorem kdF_w {q : Rw} {a n k : Int} (k0 : 2 ≤ k) (k1 : k ≤ 24) (n5 : n ≤ 5) (hc : ∀ i : Nat, i < 5 → chW q a n i = wl k i) : kdF q a n = k := by
  have c0 := hc 0 (by decide)
  have c1 := hc 1 (by decide)
  have c2 := hc 2 (by decide)
  have c3 := hc 3 (by decide)
  have c4 := hc 4 (by decide)
  have q : fst (kdP q a n) 23 = k - 2 := by
    refine fst_hit (N := 23) (by omega) (by omega) (fst_none.mpr fun j hj => decide_eq_false fun z => ?_) (decide_eq_true ?_)
    · obtain ⟨_, z0, z1, z2, z3, z4⟩ := z
      have e := wl_u (k - 2).toNat (by omega) j (by omega)
      rw [show (((k - 2).toNat : Nat) : Int) + 2 = k by omega] at e
      have := e (decide_eq_true ⟨c0.symm.trans z0.symm, c1.symm.trans z1.symm, c2.symm.trans z2.symm, c3.symm.trans z3.symm, c4.symm.trans z4.symm⟩)
      omega
    · rw [show k - 2 + 2 = k by omega]
      exact ⟨n5, c0.symm, c1.symm, c2.symm, c3.symm, c4.symm⟩
  unfold kdF
  rw [q, if_neg (by omega)]
  omega
theorem rd_open (h : Rs T M F r) (hw : wtS r) (hn : ¬ whS r) {k : Int} (k0 : 2 ≤ k) (k1 : k ≤ 24) {B : List Int} (hT : Tp T (pP r) (40 :: (wdU k (wlen k).toNat ++ 32 :: B))) : ∃ s, Rs T M F s ∧ pP s = pP r + 1 + wlen k ∧ Ss r s ∧ pO s = pO r + 1 ∧ s 55 = up (r 55) (pO r) k ∧ s 56 = up (r 56) (pO r) (opc k) ∧ s 57 = up (r 57) (pO r) (dgc k) ∧ s 58 = up (r 58) (pO r) 0 := by
  have wr := wlen_rng k0 k1
  have c0 := hT.hd
  have hA := Tp.app (wdU k (wlen k).toNat) hT.tl
  have cE := hA.2.hd
  rw [wdU_len, show (((wlen k).toNat : Nat) : Int) = wlen k by omega] at cE
  have cA : ∀ i : Nat, (i : Int) < wlen k → T (pP r + 1 + (i : Int)) = wl k i := fun i hi => by
    rw [hA.1 i (by rw [wdU_len]; omega)]
    exact wdU_at k _ i (by omega)
  have p1 : pP (avS r) = pP r + 1 := up_self (r 51) 1 _
  have l0 := (wl_at k0 k1 (i := 0) (by decide)).1 (by show (0 : Int) < wlen k; omega)
  have f0 := cA 0 (by show (0 : Int) < wlen k; omega)
  rw [show pP r + 1 + ((0 : Nat) : Int) = pP r + 1 by omega] at f0
  have ks : skS (avS r) = avS r := skS_id (fun q => by
    have q2 : tA r (avS r 51 1) = 32 := q.2
    rw [show avS r 51 1 = pP r + 1 from p1, h.t, f0] at q2
    omega)
  have tt : ∀ x, tA (avS r) x = T x := fun x => h.t x
  have m49 : avS r 49 1 = M := h.2.2.2
  have inE : pP r + 1 + wlen k < r 49 1 := (tA_in (r := r) (k := pP r + 1 + wlen k) (by rw [h.t, cE]; decide)).2
  have eE : opE (avS r) (pP (avS r)) = pP r + 1 + wlen k := by
    have e := opE_w (q := avS r) (wlen k).toNat (pP r + 1) (fun i hi => by
      have li := (wl_at k0 k1 (i := i) (by omega)).1 (by omega)
      have fi := cA i (by omega)
      have nx : ¬ isD (T (pP r + 1 + (i : Int) + 1)) := by
        by_cases z : (i : Int) + 1 < wlen k
        · have l2 := (wl_at k0 k1 (i := i + 1) (by omega)).1 (by omega)
          have f2 := cA (i + 1) (by omega)
          rw [show pP r + 1 + ((i + 1 : Nat) : Int) = pP r + 1 + (i : Int) + 1 by omega] at f2
          rw [f2]
          omega
        · rw [show pP r + 1 + (i : Int) + 1 = pP r + 1 + wlen k by omega, cE]
          decide
      show 97 ≤ tA (avS r) _ ∧ tA (avS r) _ ≤ 122 ∧ (tA (avS r) _ = 118 → ¬ isD (tA (avS r) _))
      rw [tt, tt, fi]
      exact ⟨li.1, li.2, fun _ => nx⟩) (fun q => by
      have q1 : 97 ≤ tA (avS r) (pP r + 1 + (((wlen k).toNat : Nat) : Int)) := q.1
      rw [tt, show pP r + 1 + (((wlen k).toNat : Nat) : Int) = pP r + 1 + wlen k by omega, cE] at q1
      omega) (by show pP r + 1 + (((wlen k).toNat : Nat) : Int) ≤ r 49 1; omega)
    rw [p1, e]
    omega
  have p2 : pP (sF (avS r) 1 (pP r + 1 + wlen k)) = pP r + 1 + wlen k := up_self (avS r 51) 1 _
  have eK : kdF (sF (avS r) 1 (pP r + 1 + wlen k)) (pP r + 1) (pP r + 1 + wlen k - (pP r + 1)) = k := by
    rw [show pP r + 1 + wlen k - (pP r + 1) = wlen k by omega]
    refine kdF_w k0 k1 wr.2 fun i hi => ?_
    unfold chW
    by_cases z : (i : Int) < wlen k
    · rw [if_pos z]
      show tA r _ = _
      rw [h.t]
      exact cA i z
    · rw [if_neg z]
      exact ((wl_at k0 k1 (i := i) (by omega)).2 (by omega) hi).symm
  have e : tnS r = opD (sF (avS r) 1 (pP r + 1 + wlen k)) k := by
    unfold tnS
    rw [if_neg (by rw [h.t, c0]; decide), if_neg hn, if_pos ⟨by rw [h.t, c0], hw⟩]
    unfold opS
    rw [ks]
    unfold opB
    rw [eE, p1]
    unfold opC
    rw [p2, eK, if_neg (by omega)]
  refine ⟨_, h.st (by rw [c0]; decide) e h.e, ?_, ⟨rfl, rfl, rfl, rfl⟩, up_self (r 51) 11 _, rfl, rfl, rfl, rfl⟩
  exact p2
theorem rd_dig (h : Rs T M F r) (hw : ¬ wtS r) (hd : 0 < r 57 (pO r - 1)) {d : Int} (d0 : 0 ≤ d) (d9 : d ≤ 9) (c0 : T (pP r) = 48 + d) (c1 : ¬ isD (T (pP r + 1))) : ∃ s, Rs T M F s ∧ pP s = pP r + 1 ∧ Ss r s ∧ pO s = pO r ∧ s 55 = r 55 ∧ s 56 = r 56 ∧ s 57 = up (r 57) (pO r - 1) (r 57 (pO r - 1) - 1) ∧ s 58 = up (r 58) (pO r - 1) (10 * r 58 (pO r - 1) + d) := by
  have t0 := h.t (pP r)
  have dg := dg_ok (q := r) (by rw [t0, c0]; omega) (by rw [h.t]; exact c1)
  have hn : ¬ whS r := fun q => hw (Or.inl q.1)
  have e : tnS r = wdS r := by
    unfold tnS
    rw [if_neg (by omega), if_neg hn, if_neg (fun q => hw q.2), if_neg hw, if_pos hd]
  have q51 : ∀ j, wdS r 51 j = avS r 51 j := fun j => by
    show dgS r 51 j = _
    rw [dg.1]
  refine ⟨wdS r, h.st (by omega) e ((q51 2).trans h.e), (q51 1).trans (up_self (r 51) 1 _), ⟨?_, ?_, ?_, q51 6⟩, q51 11, ?_, ?_, ?_, ?_⟩
  · exact dgS_ne r (by decide)
  · exact dgS_ne r (by decide)
  · exact dgS_ne r (by decide)
  · exact dgS_ne r (by decide)
  · exact dgS_ne r (by decide)
  · show up (dgS r 57) _ _ = _
    rw [dgS_ne r (show (57 : Nat) ≠ 51 by decide)]
  · show up (dgS r 58) _ _ = _
    rw [dgS_ne r (show (58 : Nat) ≠ 51 by decide), dg.2, t0, c0, show 48 + d - 48 = d by omega]
theorem rd_cls (h : Rs T M F r) (hw : ¬ wtS r) (hd : ¬ 0 < r 57 (pO r - 1)) (c0 : T (pP r) = 41) : ∃ q, Rs T M F (adS q (r 55 (pO r - 1)) (r 58 (pO r - 1)) (-1)) ∧ pP (adS q (r 55 (pO r - 1)) (r 58 (pO r - 1)) (-1)) = pP r + 1 ∧ Ss r q ∧ pO q = pO r - 1 ∧ q 55 = r 55 ∧ q 56 = r 56 ∧ q 57 = r 57 ∧ q 58 = r 58 := by
  have t0 := h.t (pP r)
  have hn : ¬ whS r := fun q => hw (Or.inl q.1)
  have e : tnS r = adS (sF (avS r) 11 (pO r - 1)) (r 55 (pO r - 1)) (r 58 (pO r - 1)) (-1) := by
    unfold tnS
    rw [if_neg (by omega), if_neg hn, if_neg (fun q => hw q.2), if_neg hw, if_neg hd]
    unfold clS
    rw [if_pos (by rw [t0, c0])]
  refine ⟨sF (avS r) 11 (pO r - 1), h.st (by omega) e ((adS_F _ _ _ _ (by decide)).trans h.e), (adS_F _ _ _ _ (by decide)).trans ?_, ⟨rfl, rfl, rfl, rfl⟩, up_self (avS r 51) 11 _, rfl, rfl, rfl, rfl⟩
  exact up_self (r 51) 1 _
end Rd

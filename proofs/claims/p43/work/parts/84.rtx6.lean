/-! ===== the reference goes with the reader ===== -/
/-- a token of the reference and a step -/
def TkE (k' x y k n w : Int) : Prop := Box (k' = k ∧ (k = 0 → x = n ∧ y = w) ∧ (k = 1 → x = n) ∧ (dgc k = 1 → x = n) ∧ (dgc k = 2 → n = 10 * x + y ∧ 0 ≤ x ∧ x ≤ 9 ∧ 0 ≤ y ∧ y ≤ 9))
/-- the reference's rows and the reader's; the top has got d less than the reader says -/
def CrR (H r : Rw) (d : Int) : Prop := Box (TeQ H r ∧ H 62 19 = pP r ∧ H 62 18 = pO r ∧ H 62 15 = pS r ∧ (∀ i, 0 ≤ i → i < pO r → H 72 i = r 55 i ∧ H 73 i = opc (r 55 i) - r 56 i - (if i = pO r - 1 then d else 0)) ∧ ∀ t, 0 ≤ t → t < pS r → TkE (H 71 (3 * t)) (H 71 (3 * t + 1)) (H 71 (3 * t + 2)) (r 52 t) (r 53 t) (r 54 t))
/-- what the reference's reading leaves as it is -/
def FrT (H H' : Rw) : Prop := Box ((∀ a, a ≠ 62 → a ≠ 71 → a ≠ 72 → a ≠ 73 → H' a = H a) ∧ ∀ j, j ≠ 15 → j ≠ 18 → j ≠ 19 → j ≠ 20 → H' 62 j = H 62 j)
theorem FrT.rf (H : Rw) : FrT H H := Box.i ⟨fun _ _ _ _ _ => rfl, fun _ _ _ _ _ => rfl⟩
theorem FrT.tr {H K L : Rw} (h : FrT H K) (g : FrT K L) : FrT H L := Box.i ⟨fun a h1 h2 h3 h4 => (g.o.1 a h1 h2 h3 h4).trans (h.o.1 a h1 h2 h3 h4), fun j h1 h2 h3 h4 => (g.o.2 j h1 h2 h3 h4).trans (h.o.2 j h1 h2 h3 h4)⟩
theorem FrT.z {H : Rw} {F : Int → Int} {p : Int} (h : Pz (H 62) p F) : FrT H (ur H 62 F) := Box.i ⟨fun a h1 h2 h3 h4 => ur_ne h1, fun j h1 h2 h3 h4 => by rw [ur_self]; exact h.o.2 j h3 h4⟩
theorem CrR.cg {H H' r s : Rw} {d : Int} (h : CrR H r d) (hs : s 49 = r 49 ∧ s 50 = r 50 ∧ s 52 = r 52 ∧ s 53 = r 53 ∧ s 54 = r 54 ∧ s 55 = r 55 ∧ s 56 = r 56 ∧ pO s = pO r ∧ pS s = pS r) (hH : H' 62 6 = H 62 6 ∧ H' 66 = H 66 ∧ H' 71 = H 71 ∧ H' 72 = H 72 ∧ H' 73 = H 73 ∧ H' 62 18 = H 62 18 ∧ H' 62 15 = H 62 15) (hp : H' 62 19 = pP s) : CrR H' s d := by
  obtain ⟨c1, c2, c3, c4, c5, c6⟩ := h.o
  obtain ⟨t1, t2, t3, t4⟩ := c1.o
  obtain ⟨s1, s2, s3, s4, s5, s6, s7, s8, s9⟩ := hs
  obtain ⟨g1, g2, g3, g4, g5, g6, g7⟩ := hH
  unfold CrR TeQ
  rw [s1, s2, s3, s4, s5, s6, s7, s8, s9, g1, g2, g3, g4, g5, g6, g7]
  exact Box.i ⟨Box.i ⟨t1, t2, t3, t4⟩, hp, c3, c4, c5, c6⟩
/-- place and digit are others -/
theorem CrR.z {H r : Rw} {d p : Int} {F : Int → Int} (h : CrR H r d) (hF : Pz (H 62) p F) {s : Rw} (hs : s 49 = r 49 ∧ s 50 = r 50 ∧ s 52 = r 52 ∧ s 53 = r 53 ∧ s 54 = r 54 ∧ s 55 = r 55 ∧ s 56 = r 56 ∧ pO s = pO r ∧ pS s = pS r) (hp : pP s = p) : CrR (ur H 62 F) s d := by
  refine h.cg hs ⟨?_, ur_ne (by decide), ur_ne (by decide), ur_ne (by decide), ur_ne (by decide), ?_, ?_⟩ ?_
  · rw [ur_self]; exact hF.o.2 6 (by decide) (by decide)
  · rw [ur_self]; exact hF.o.2 18 (by decide) (by decide)
  · rw [ur_self]; exact hF.o.2 15 (by decide) (by decide)
  · rw [ur_self, hF.o.1, hp]
/-- a token and a step more -/
theorem CrR.ad {H H' r : Rw} {k n w x y : Int} (h : CrR H r 0) (s0 : 0 ≤ pS r) (hk : TkE k x y k n w) (hH : H' 62 6 = H 62 6 ∧ H' 66 = H 66 ∧ H' 71 = tkF (H 71) (pS r) k x y ∧ H' 72 = H 72 ∧ H' 73 = H 73 ∧ H' 62 18 = H 62 18 ∧ H' 62 15 = pS r + 1) (hp : H' 62 19 = pP r) : CrR H' (adS r k n w) 1 := by
  obtain ⟨c1, c2, c3, c4, c5, c6⟩ := h.o
  obtain ⟨t1, t2, t3, t4⟩ := c1.o
  obtain ⟨g1, g2, g3, g4, g5, g6, g7⟩ := hH
  have e1 : pP (adS r k n w) = pP r := adS_F _ _ _ _ (by decide)
  have e2 : pO (adS r k n w) = pO r := adS_F _ _ _ _ (by decide)
  have e3 : pS (adS r k n w) = pS r + 1 := adS_6 _ _ _ _
  have e4 : adS r k n w 55 = r 55 := adS_ne r k n w (by decide)
  unfold CrR TeQ
  rw [e1, e2, e3, e4, adS_49, adS_50, adS_52, adS_53, adS_54, adS_56, g1, g2, g3, g4, g5, g6, g7]
  refine Box.i ⟨Box.i ⟨t1, t2, t3, t4⟩, hp, c3, rfl, fun i i0 i1 => ?_, fun t t0 t1 => ?_⟩
  · have c := c5 i i0 i1
    refine ⟨c.1, c.2.trans ?_⟩
    have z : 0 < pO r := by omega
    rw [if_pos z]
    by_cases q : i = pO r - 1
    · subst q
      rw [if_pos rfl, if_pos rfl, up_self]
      omega
    · rw [if_neg q, if_neg q, up_ne q]
  · unfold tkF
    by_cases q : t = pS r
    · subst q
      rw [up_self, up_self, up_self, up_self, up_ne (by omega), up_ne (by omega), up_self, up_ne (by omega), up_self]
      exact hk
    · rw [up_ne q, up_ne q, up_ne q, up_ne (by omega), up_ne (by omega), up_ne (by omega), up_ne (by omega), up_ne (by omega), up_ne (by omega), up_ne (by omega), up_ne (by omega), up_ne (by omega)]
      exact c6 t t0 (by omega)
/-- what is got is counted -/
theorem CrR.got {H r : Rw} (h : CrR H r 1) (o1 : 0 < pO r) : CrR (ur H 73 (up (H 73) (pO r - 1) (H 73 (pO r - 1) + 1))) r 0 := by
  obtain ⟨c1, c2, c3, c4, c5, c6⟩ := h.o
  refine Box.i ⟨c1, c2, c3, c4, fun i i0 i1 => ?_, c6⟩
  have c := c5 i i0 i1
  refine ⟨c.1, ?_⟩
  rw [ur_self]
  by_cases q : i = pO r - 1
  · subst q
    rw [up_self, c.2, if_pos rfl, if_pos rfl]
    omega
  · rw [up_ne q, c.2, if_neg q, if_neg q]
theorem CrR.got0 {H r : Rw} (h : CrR H r 1) (o1 : ¬ 0 < pO r) : CrR H r 0 := by
  obtain ⟨c1, c2, c3, c4, c5, c6⟩ := h.o
  exact Box.i ⟨c1, c2, c3, c4, fun i i0 i1 => by omega, c6⟩
/-! the reader: spaces, ends, errors -/
theorem fin_av : ∀ (n : Nat) (r : Rw), Gd r → (spk r (pP r) - pP r).toNat = n → Gd (skS r) ∧ fin (skS r) = fin r := by
  intro n
  induction n with
  | zero =>
    intro r hr e
    have := (spk_rng r hr.o.2.2.2.2.1).1
    have q : spk r (pP r) = pP r := by omega
    have q2 : skS r = r := by
      unfold skS
      rw [show whl (fun k => decide (tA r k = 32)) (r 49 1) (pP r) = pP r from q, sF_P]
    rw [q2]
    exact ⟨hr, rfl⟩
  | succ n ih =>
    intro r hr e
    have s := spk_rng r hr.o.2.2.2.2.1
    by_cases t : tA r (pP r) = 32
    · have lt := (tA_in (tAn t (by decide))).2
      have p1 : pP (avS r) = pP r + 1 := up_self (r 51) 1 _
      have tn : tnS r = avS r := if_pos t
      have st : spk (avS r) (pP (avS r)) = spk r (pP r) := by rw [p1, spk_t t]; rfl
      have q := ih (avS r) (hr.av lt) (by omega)
      have f := fin_tn hr lt
      have k : skS (avS r) = skS r := by
        show sF (avS r) 1 (spk (avS r) (pP (avS r))) = sF r 1 (spk r (pP r))
        rw [st]
        exact sF_sF r 1 _ _
      rw [k] at q
      rw [tn] at f
      exact ⟨q.1, q.2.trans f.symm⟩
    · have := spk_id t
      omega
theorem fin_sk {r : Rw} (h : Gd r) : Gd (skS r) ∧ fin (skS r) = fin r := fin_av _ r h rfl
theorem end1 {r : Rw} (h : Gd r) (t : tA r (pP r) = -1) (hn : ¬ whS r) (hz : ∀ k, 0 ≤ k → k < r 49 1 → r 50 k ≠ -1) : rdA (fin r) = pP r := by
  obtain ⟨g1, g2, g3, g4, g5, g6, g7⟩ := h.o
  have q : ¬ pP r < r 49 1 := fun q => by
    unfold tA at t
    rw [if_pos ⟨g4, q⟩] at t
    exact hz _ g4 q t
  rw [fin_stop (Or.inr q)]
  unfold rdA
  rw [if_neg (fun z => z g1), if_neg hn]
  omega
theorem err1 {r : Rw} (h : Gd r) (lt : pP r < r 49 1) {e : Int} (he : pE (tnS r) = e) (n1 : 0 ≤ e) : rdA (fin r) = e := by
  have q : pE (tnS r) ≠ -1 := by omega
  rw [fin_tn h lt, fin_stop (Or.inl q)]
  unfold rdA
  rw [if_pos q, he]

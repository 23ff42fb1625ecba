/-! ===== the reference: what begins a node ===== -/
/-- the reader wants a node -/
def Bgn (r : Rw) : Prop := Box (Gd r ∧ wtS r ∧ ¬ whS r ∧ TxO r)
/-- the same rows but for the place -/
abbrev SmR (r s : Rw) : Prop := s 49 = r 49 ∧ s 50 = r 50 ∧ s 52 = r 52 ∧ s 53 = r 53 ∧ s 54 = r 54 ∧ s 55 = r 55 ∧ s 56 = r 56 ∧ pO s = pO r ∧ pS s = pS r
theorem CrR.ad2 {H H' r s : Rw} {k n w x y : Int} (h : CrR H r 0) (s0 : 0 ≤ pS r) (hs : SmR r s) (hk : TkE k x y k n w) (hH : H' 62 6 = H 62 6 ∧ H' 66 = H 66 ∧ H' 71 = tkF (H 71) (pS r) k x y ∧ H' 72 = H 72 ∧ H' 73 = H 73 ∧ H' 62 18 = H 62 18 ∧ H' 62 15 = pS r + 1) (hp : H' 62 19 = pP s) : CrR H' (adS s k n w) 1 := by
  obtain ⟨g1, g2, g3, g4, g5, g6, g7⟩ := hH
  have z := h.z (Pz.up (H 62) (pP s)) hs rfl
  have e := hs.2.2.2.2.2.2.2.2
  refine z.ad (by rw [e]; exact s0) hk ⟨g1.trans ?_, g2.trans ?_, ?_, g4.trans ?_, g5.trans ?_, g6.trans ?_, by rw [e]; exact g7⟩ hp
  · rw [ur_self]; exact (up_ne (show (6 : Int) ≠ 19 by decide)).symm
  · exact (ur_ne (by decide)).symm
  · rw [e, ur_ne (show (71 : Nat) ≠ 62 by decide)]; exact g3
  · exact (ur_ne (by decide)).symm
  · exact (ur_ne (by decide)).symm
  · rw [ur_self]; exact (up_ne (show (18 : Int) ≠ 19 by decide)).symm
theorem lf_heap {H r s : Rw} {F X : Int → Int} {k n w x y p q q' : Int} (hC : CrR H r 0) (hF : Pz (H 62) p F) (hs : SmR r s) (hp : pP s = p) (hk : TkE k x y k n w) (s0 : 0 ≤ pS r) (hq : q = H 62 15) (hq' : q' = H 62 15) :
    CrR (ur (ur (ur H 62 X) 71 (tkF (H 71) q k x y)) 62 (up F 15 (q' + 1))) (adS s k n w) 1 ∧ FrT H (ur (ur (ur H 62 X) 71 (tkF (H 71) q k x y)) 62 (up F 15 (q' + 1))) := by
  have c4 := hC.o.2.2.2.1
  constructor
  · refine hC.ad2 s0 hs hk ⟨?_, ?_, ?_, ?_, ?_, ?_, ?_⟩ ?_
    · rw [ur_self, up_ne (by decide)]; exact hF.o.2 6 (by decide) (by decide)
    · rw [ur_ne (by decide), ur_ne (by decide), ur_ne (by decide)]
    · rw [ur_ne (by decide), ur_self, hq, c4]
    · rw [ur_ne (by decide), ur_ne (by decide), ur_ne (by decide)]
    · rw [ur_ne (by decide), ur_ne (by decide), ur_ne (by decide)]
    · rw [ur_self, up_ne (by decide)]; exact hF.o.2 18 (by decide) (by decide)
    · rw [ur_self, up_self, hq', c4]
    · rw [ur_self, up_ne (by decide), hF.o.1, hp]
  · refine Box.i ⟨fun a h1 h2 h3 h4 => ?_, fun j h1 h2 h3 h4 => ?_⟩
    · rw [ur_ne h1, ur_ne h2, ur_ne h1]
    · rw [ur_self, up_ne h1]; exact hF.o.2 j h3 h4
theorem Dt_lf {r s : Rw} (hg : Gd r) (hw : wtS r) (e1 : pO s = pO r) (e2 : s 55 = r 55) (e3 : s 57 = r 57) : Dt s := Box.i fun o1 => by
  rw [e1] at o1
  rw [e1, e2, e3]
  obtain ⟨g1, g2, g3, g4, g5, g6, g7⟩ := hg.o
  obtain ⟨s0, o0, h3, h4, h5, h6⟩ := g7.o
  have t := (h3 (pO r - 1) (by omega) (by omega)).o
  rcases hw with w | w
  · omega
  · exact t.2.2.2.2.2.2.1 w
/-- a leaf is read -/
def NdB (H r s : Rw) : Prop := Box (Gd s ∧ fin s = fin r ∧ pP r < pP s ∧ pO s = pO r ∧ CrR H s 1 ∧ 0 < pS s ∧ Dt s)
/-- a parenthesis is read -/
def NdA (H r s : Rw) : Prop := Box (Gd s ∧ fin s = fin r ∧ pP r < pP s ∧ pO s = pO r + 1 ∧ CrR H s 0 ∧ wtS s)
theorem NdB.i {H' r s : Rw} {k n w : Int} (hg : Gd r) (hw : wtS r) (hs : SmR r s) (e7 : s 57 = r 57) (hG : Gd (adS s k n w) ∧ fin (adS s k n w) = fin r ∧ pP r < pP (adS s k n w)) (hC : CrR H' (adS s k n w) 1) : NdB H' r (adS s k n w) := by
  have e1 : pO (adS s k n w) = pO r := (adS_F _ _ _ _ (by decide)).trans hs.2.2.2.2.2.2.2.1
  have e2 : pS (adS s k n w) = pS r + 1 := (adS_6 _ _ _ _).trans (by rw [show s 51 6 = pS s from rfl, hs.2.2.2.2.2.2.2.2])
  have s0 := hg.o.2.2.2.2.2.2.o.1
  exact Box.i ⟨hG.1, hG.2.1, hG.2.2, e1, hC, by omega, Dt_lf hg hw e1 ((adS_ne s k n w (by decide)).trans hs.2.2.2.2.2.1) ((adS_ne s k n w (by decide)).trans e7)⟩
/-- the numbers that a caller needs -/
theorem NdB.n {H r s : Rw} (h : NdB H r s) : H 62 18 = pO r ∧ H 62 18 < 60 ∧ (0 < H 62 18 → -1 ≤ H 73 (H 62 18 - 1) ∧ H 73 (H 62 18 - 1) ≤ 3) := by
  obtain ⟨n1, n2, n3, n4, n5, n6, n7⟩ := h.o
  obtain ⟨g1, g2, g3, g4, g5, g6, g7⟩ := n1.o
  obtain ⟨s0, o0, q3, q4, q5, q6⟩ := g7.o
  have e := n5.o.2.2.1
  refine ⟨by omega, by omega, fun q => ?_⟩
  have c := (n5.o.2.2.2.2.1 (pO s - 1) (by omega) (by omega)).2
  rw [if_pos rfl] at c
  have t := (q3 (pO s - 1) (by omega) (by omega)).o
  have w := opc_rng (s 55 (pO s - 1))
  rw [e]
  omega
/-! constants -/
def uS (r : Rw) (p : Int) : Rw := skS (avS (skS (sF (skS r) 1 p)))
theorem u0P (r : Rw) (p : Int) : pP (skS (sF (skS r) 1 p)) = spk r p := by
  show spk r (pP (sF (skS r) 1 p)) = _
  rw [show pP (sF (skS r) 1 p) = p from up_self (skS r 51) 1 p]
theorem uP (r : Rw) (p : Int) : pP (uS r p) = spk r (spk r p + 1) := by
  show spk r (pP (avS (skS (sF (skS r) 1 p)))) = _
  rw [avP, u0P]
theorem nd_ct {r : Rw} (hg : Gd r) (hw : wtS r) (hn : ¬ whS r) (y : isD (tA r (spk r (pP r)))) : tnS (skS r) = ctB (skS r) (cnS r 3 (spk r (pP r)) 0) := by
  rw [nd_lf hg hw hn (by omega)]
  have x : ¬ (tA r (spk r (pP r)) = 118 ∧ isD (tA r (spk r (pP r) + 1))) := fun q => by omega
  have e : lfS (skS r) = ctS (skS r) := by
    show (if tA r (spk r (pP r)) = 118 ∧ isD (tA r (spk r (pP r) + 1)) then _ else if isD (tA r (spk r (pP r))) then ctS (skS r) else _) = _
    rw [if_neg x, if_pos y]
  rw [e]
  unfold ctS
  rw [cnS_c (r := r) (s := skS r) rfl]
  rfl
theorem nd_B0 {r : Rw} (hg : Gd r) (hw : wtS r) (hn : ¬ whS r) (y : isD (tA r (spk r (pP r)))) {e : Int} (hx : ctX r (spk r (pP r)) e) : Er r e := by
  have rg := nd_rng hg
  have g4 := hg.o.2.2.2.1
  have c := cnS_rng y
  have t := hx.o
  have nd := nd_ct hg hw hn y
  generalize cnS r 3 (spk r (pP r)) 0 = q at c t nd
  obtain ⟨p, n⟩ := q
  dsimp only at c t
  have s1 := spk_rng r (p := p) c.2.1
  have e1 := u0P r p
  rcases t with ⟨t1, e9⟩ | ⟨t1, t2, e9⟩ | ⟨t1, t2, t3⟩
  · refine nd_err hg (by omega) ?_ (by omega)
    rw [nd]
    unfold ctB
    rw [if_pos (show isD (tA (skS r) p) from t1)]
    exact ((bdE _).trans (up_self (skS r 51) 1 _)).trans e9.symm
  · refine nd_err hg (by omega) ?_ (by omega)
    rw [nd]
    unfold ctB
    rw [if_neg (show ¬ isD (tA (skS r) p) from t1)]
    unfold ctC
    rw [if_neg (show ¬ tA (skS (sF (skS r) 1 p)) (pP (skS (sF (skS r) 1 p))) = 58 from by rw [e1]; exact t2)]
    exact ((bdE _).trans e1).trans e9.symm
  · have t2' := tA_in (tAn t2 (by decide))
    have s2 := spk_rng r (p := spk r p + 1) (by omega)
    have k : pE (ctD (uS r p) n) = e := by
      show adS (dgS (uS r p)) 0 n _ 51 2 = _
      rw [adS_F _ _ _ _ (by decide)]
      rcases t3.o with ⟨d1, rfl⟩ | ⟨d1, d2, rfl⟩
      · rw [dgS_0 (r := uS r p) (by rw [uP]; exact d1)]
        exact (bdE _).trans (uP r p)
      · rw [dgS_2 (r := uS r p) (by rw [uP]; exact d1) (by rw [uP]; exact d2)]
        exact (bdE _).trans ((avP _).trans (by rw [uP]))
    have e0 : 0 ≤ e := by
      rcases t3.o with ⟨d1, rfl⟩ | ⟨d1, d2, rfl⟩ <;> omega
    refine nd_err hg (by omega) ?_ e0
    rw [nd]
    unfold ctB
    rw [if_neg (show ¬ isD (tA (skS r) p) from t1)]
    unfold ctC
    rw [if_pos (show tA (skS (sF (skS r) 1 p)) (pP (skS (sF (skS r) 1 p))) = 58 from by rw [e1]; exact t2)]
    exact k
def cT (r : Rw) (p n : Int) : Rw := adS (avS (uS r p)) 0 n (tA r (spk r (spk r p + 1)) - 48)
theorem nd_B1 {r : Rw} (hg : Gd r) (hw : wtS r) (hn : ¬ whS r) (y : isD (tA r (spk r (pP r)))) {p n : Int} (hq : cnS r 3 (spk r (pP r)) 0 = (p, n)) (t1 : ¬ isD (tA r p)) (t2 : tA r (spk r p) = 58) (t3 : isD (tA r (spk r (spk r p + 1)))) (t4 : ¬ isD (tA r (spk r (spk r p + 1) + 1))) :
    Gd (cT r p n) ∧ fin (cT r p n) = fin r ∧ pP r < pP (cT r p n) := by
  have rg := nd_rng hg
  have nd := nd_ct hg hw hn y
  rw [hq] at nd
  have e1 := u0P r p
  have e : tnS (skS r) = cT r p n := by
    rw [nd]
    unfold ctB
    rw [if_neg (show ¬ isD (tA (skS r) p) from t1)]
    unfold ctC
    rw [if_pos (show tA (skS (sF (skS r) 1 p)) (pP (skS (sF (skS r) 1 p))) = 58 from by rw [e1]; exact t2)]
    show adS (dgS (uS r p)) 0 n (dgV (uS r p)) = _
    rw [dgS_1 (r := uS r p) (by rw [uP]; exact t3) (by rw [uP]; exact t4), dgV_1 (r := uS r p) (by rw [uP]; exact t3), uP]
    rfl
  have e2 : pE (cT r p n) = -1 := (adS_F _ _ _ _ (by decide)).trans hg.o.1
  have q := nd_gs hg (by omega) e e2
  exact ⟨q.1, q.2.1, by omega⟩
/-! parentheses -/
def oA (r : Rw) : Int := spk r (spk r (pP r) + 1)
def oS (r : Rw) (k : Int) : Rw := opD (sF (skS (avS (skS r))) 1 (opE r (oA r))) k
theorem oP (r : Rw) : pP (skS (avS (skS r))) = oA r := by
  show spk r (pP (avS (skS r))) = _
  rw [avP]
  rfl
theorem nd_C {r : Rw} (hg : Gd r) (hw : wtS r) (hn : ¬ whS r) (x : tA r (spk r (pP r)) = 40) : tnS (skS r) = if kdF r (oA r) (opE r (oA r) - oA r) = -1 then sF (sF (skS (avS (skS r))) 1 (opE r (oA r))) 2 (oA r) else oS r (kdF r (oA r) (opE r (oA r) - oA r)) := by
  rw [nd_op hg hw hn x]
  show opC (sF (skS (avS (skS r))) 1 (opE (skS (avS (skS r))) (pP (skS (avS (skS r)))))) (pP (skS (avS (skS r)))) = _
  rw [oP]
  unfold opC
  rw [show pP (sF (skS (avS (skS r))) 1 (opE (skS (avS (skS r))) (oA r))) = opE r (oA r) from up_self (skS (avS (skS r)) 51) 1 _, kdF_c (r := r) (s := sF (skS (avS (skS r))) 1 (opE (skS (avS (skS r))) (oA r))) rfl]
  rfl
theorem nd_C0 {r : Rw} (hg : Gd r) (hw : wtS r) (hn : ¬ whS r) (x : tA r (spk r (pP r)) = 40) (z : kdF r (oA r) (opE r (oA r) - oA r) = -1) : Er r (oA r) := by
  have rg := nd_rng hg
  have g4 := hg.o.2.2.2.1
  have x2 := tA_in (tAn x (by decide))
  have s2 := spk_rng r (p := spk r (pP r) + 1) (by omega)
  refine nd_err hg (by omega) ?_ (by unfold oA; omega)
  rw [nd_C hg hw hn x, if_pos z]
  exact up_self (sF (skS (avS (skS r))) 1 (opE r (oA r)) 51) 2 _
theorem nd_C1 {r : Rw} (hg : Gd r) (hw : wtS r) (hn : ¬ whS r) (x : tA r (spk r (pP r)) = 40) (z : kdF r (oA r) (opE r (oA r) - oA r) ≠ -1) :
    Gd (oS r (kdF r (oA r) (opE r (oA r) - oA r))) ∧ fin (oS r (kdF r (oA r) (opE r (oA r) - oA r))) = fin r ∧ pP r < pP (oS r (kdF r (oA r) (opE r (oA r) - oA r))) ∧ wtS (oS r (kdF r (oA r) (opE r (oA r) - oA r))) := by
  have rg := nd_rng hg
  have e := nd_C hg hw hn x
  rw [if_neg z] at e
  have k := kdF_rng r (oA r) (opE r (oA r) - oA r)
  generalize kdF r (oA r) (opE r (oA r) - oA r) = kk at *
  have q := nd_gs hg (by omega) e hg.o.1
  refine ⟨q.1, q.2.1, by omega, Or.inr ?_⟩
  have e1 : pO (oS r kk) = pO r + 1 := up_self (sF (skS (avS (skS r))) 1 (opE r (oA r)) 51) 11 _
  have e2 : oS r kk 56 = up (r 56) (pO r) (opc kk) := rfl
  rw [e1, e2, show pO r + 1 - 1 = pO r by omega, up_self]
  have := (opc_rng kk).2.2.1 (by omega)
  omega
theorem op_heap {H r s : Rw} {F X : Int → Int} {k p p' q q' q'' : Int} (hC : CrR H r 0) (hF : Pz (H 62) p' F) (hs : SmR r s) (hq : q = H 62 18) (hq' : q' = H 62 18) (hq'' : q'' = H 62 18) (hk : 2 ≤ k) :
    CrR (ur (ur (ur (ur H 62 X) 72 (up (H 72) q k)) 73 (up (H 73) q' 0)) 62 (up (up F 19 p) 18 (q'' + 1))) (opD (sF s 1 p) k) 0 ∧ FrT H (ur (ur (ur (ur H 62 X) 72 (up (H 72) q k)) 73 (up (H 73) q' 0)) 62 (up (up F 19 p) 18 (q'' + 1))) := by
  obtain ⟨c1, c2, c3, c4, c5, c6⟩ := hC.o
  obtain ⟨t1, t2, t3, t4⟩ := c1.o
  obtain ⟨s1, s2, s3, s4, s5, s6, s7, s8, s9⟩ := hs
  rw [c3] at hq hq' hq''
  subst hq hq' hq''
  constructor
  · have d1 : opD (sF s 1 p) k 49 = r 49 := s1
    have d2 : opD (sF s 1 p) k 50 = r 50 := s2
    have d3 : opD (sF s 1 p) k 52 = r 52 := s3
    have d4 : opD (sF s 1 p) k 53 = r 53 := s4
    have d5 : opD (sF s 1 p) k 54 = r 54 := s5
    have d6 : opD (sF s 1 p) k 55 = up (r 55) (pO r) k := by
      show up (s 55) (pO s) k = _
      rw [s6, s8]
    have d7 : opD (sF s 1 p) k 56 = up (r 56) (pO r) (opc k) := by
      show up (s 56) (pO s) (opc k) = _
      rw [s7, s8]
    have d8 : pO (opD (sF s 1 p) k) = pO r + 1 := (up_self (sF s 1 p 51) 11 (pO s + 1)).trans (by rw [s8])
    have d9 : pS (opD (sF s 1 p) k) = pS r := s9
    have d10 : pP (opD (sF s 1 p) k) = p := up_self (s 51) 1 p
    unfold CrR TeQ
    rw [d1, d2, d3, d4, d5, d6, d7, d8, d9, d10]
    refine Box.i ⟨Box.i ⟨?_, t2, t3, ?_⟩, ?_, ?_, ?_, fun i i0 i1 => ?_, ?_⟩
    · rw [ur_self, up_ne (by decide), up_ne (by decide), hF.o.2 6 (by decide) (by decide)]; exact t1
    · rw [ur_ne (by decide), ur_ne (by decide), ur_ne (by decide), ur_ne (by decide)]; exact t4
    · rw [ur_self, up_ne (by decide), up_self]
    · rw [ur_self, up_self]
    · rw [ur_self, up_ne (by decide), up_ne (by decide), hF.o.2 15 (by decide) (by decide)]; exact c4
    · rw [ur_ne (by decide), ur_ne (by decide), ur_self, ur_ne (by decide), ur_self]
      by_cases y : i = pO r
      · subst y
        rw [up_self, up_self, up_self, up_self]
        exact ⟨rfl, by split <;> omega⟩
      · rw [up_ne y, up_ne y, up_ne y, up_ne y]
        have c := c5 i i0 (by omega)
        refine ⟨c.1, c.2.trans ?_⟩
        split <;> split <;> omega
    · rw [ur_ne (by decide), ur_ne (by decide), ur_ne (by decide), ur_ne (by decide)]; exact c6
  · refine Box.i ⟨fun a h1 h2 h3 h4 => ?_, fun j h1 h2 h3 h4 => ?_⟩
    · rw [ur_ne h1, ur_ne h4, ur_ne h3, ur_ne h1]
    · rw [ur_self, up_ne h2, up_ne h3]; exact hF.o.2 j h3 h4
theorem NdA.i {H' r s : Rw} (e1 : pO s = pO r + 1) (hG : Gd s ∧ fin s = fin r ∧ pP r < pP s ∧ wtS s) (hC : CrR H' s 0) : NdA H' r s := Box.i ⟨hG.1, hG.2.1, hG.2.2.1, e1, hC, hG.2.2.2⟩

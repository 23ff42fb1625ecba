/-! ===== the law: nodes made ===== -/
theorem CI.pc {g : Hp} {u ps qs : Int → Int} {s : Int} (c : CI g u ps s) (e : ∀ i, 0 ≤ i → i < s → rowP qs i 0 = rowP ps i 0 ∧ ∀ j, 281 ≤ j → j < 349 → rowP qs i j = rowP ps i j) : CI g u qs s := Box.i ⟨c.gh, c.wf, c.st, HR.pc e c.hr, c.sk, c.rn, c.tl, c.tx⟩
theorem sv_pc {ps w v : Int → Int} {s : Int} (hs : 0 ≤ s ∧ s ≤ 5) (e : Eq7 w v) : ∀ i, 0 ≤ i → i < svS s → rowP (svPp ps s v) i 0 = rowP (svPp ps s w) i 0 ∧ ∀ j, 281 ≤ j → j < 349 → rowP (svPp ps s v) i j = rowP (svPp ps s w) i j := fun i i0 i1 => by
  obtain ⟨e1, e2, e3⟩ := e.o
  refine ⟨?_, fun j j0 j1 => ?_⟩
  · show svPp ps s v (349 * i + 0) = svPp ps s w (349 * i + 0)
    rw [sv_row hs i0 i1 (by decide) (by decide), sv_row hs i0 i1 (by decide) (by decide), e2]
  · show svPp ps s v (349 * i + j) = svPp ps s w (349 * i + j)
    rw [sv_row hs i0 i1 (by omega) j1, sv_row hs i0 i1 (by omega) j1, e3 j j0]
theorem LI.sv2 {h g k : Hp} {u v : Int → Int} (L : LI h) (M : Md h g u (svPp (hI h 64) (hI h 62 3) (hI h 63)) (svS (hI h 62 3))) (ck : Cl g k) (e63 : hI k 63 = u) (e64 : hI k 64 = svPp (hI h 64) (hI h 62 3) v) (e3 : hI k 62 3 = svS (hI h 62 3)) (e10 : hI k 62 10 = 1) (e6 : hI k 62 6 = hI h 62 6) (e66 : hI k 66 = hI h 66)
    (ev : Eq7 (hI h 63) v) (ov : Ot (hI h 63) v) (p : Pfx v u) (o : Ot v u) : LI k := by
  have hW := L.ci.wf
  have s5 := L.ci.s5
  have wv := ev.wf hW
  have p0 : Pfx (hI h 63) v := Pfx.i hW ev.o.1 (ev.o.2.2 281 (by decide))
  obtain ⟨m1, m2, m3, m4⟩ := M.o
  have M2 : Md h g u (svPp (hI h 64) (hI h 62 3) v) (svS (hI h 62 3)) := Box.i ⟨m1.pc (sv_pc s5 ev), m2, m3, m4⟩
  exact L.fin M2 ck e63 e64 e3 (Box.i fun z => by rw [e10] at z; exact absurd z (by decide)) ((L.hc.keep p0 ov).save s5 wv p o) e6 e66
theorem Ot.newN {w : Int → Int} (k wd a b c x y : Int) (h0 : 0 ≤ w 0) (hc : w 0 < 40) : Ot w (CWordSolverLaw_law_r9643_f7b4c7.newN w k wd a b c x y) := Box.i fun j hj => newN_lo w k wd a b c x y (by omega) (by omega)
theorem pre_ok {w : Int → Int} (k wd a b c x y : Int) (hW : WF w) (hc : w 0 < 40) : Eq7 w (preN w k wd a b c x y) ∧ Ot w (preN w k wd a b c x y) ∧ Pfx (preN w k wd a b c x y) (newN w k wd a b c x y) ∧ Ot (preN w k wd a b c x y) (newN w k wd a b c x y) := by
  have q := hW.nn
  have nx := Nx.newN (w := w) k wd a b c x y q.1 hc
  have e7 : Eq7 w (preN w k wd a b c x y) := Eq7.z nx fun j hj => newN_lo w k wd a b c x y (by omega) (by omega)
  have o1 := Ot.newN (w := w) k wd a b c x y q.1 hc
  have o2 : Ot w (preN w k wd a b c x y) := o1.tr (Ot.up _ (by decide) _)
  have o3 : Ot (preN w k wd a b c x y) (newN w k wd a b c x y) := Box.i fun j hj => (o1.o j hj).trans (o2.o j hj).symm
  have wf := e7.wf hW
  obtain ⟨x1, x2, x3, x4, x5⟩ := nx.o
  have p0 : preN w k wd a b c x y 0 = w 0 := e7.o.2.1
  have pj : ∀ j, j ≠ 0 → preN w k wd a b c x y j = newN w k wd a b c x y j := fun j hj => up_ne hj
  refine ⟨e7, o2, Pfx.i wf (Box.i ⟨by rw [p0]; exact x1, fun n j n0 n1 j0 j1 => ?_, by rw [pj 281 (by decide)]; exact Int.le_refl _, fun v v0 v1 => (pj _ (by rw [pj 281 (by decide)] at v1; omega)).symm, fun j hj => (pj j (by omega)).symm⟩) (pj 281 (by decide)).symm, o3⟩
  unfold nd
  exact (pj _ (by omega)).symm
/-- the reference makes a node as the class did -/
theorem mk_end {h g : Hp} (L : LI h) {k wd a b c x y : Int} (ok : NOk (hI h 63) k wd a b c x y) (s : Md h g (mk1 (hI h 63) k wd a b c x y).2 (svPp (hI h 64) (hI h 62 3) (hI h 63)) (svS (hI h 62 3))) (hr : (mk1 (hI h 63) k wd a b c x y).1 ≠ -1) (hb : hJ g 77 0 = i2L (mk1 (hI h 63) k wd a b c x y).1) (q : Int) : mkR g q k wd a b c x y (En 0) := by
  have hW := L.ci.wf
  have nn := hW.nn
  have e62 := s.i (a := 62) (by decide)
  have e63 := s.i (a := 63) (by decide)
  have e64 := s.i (a := 64) (by decide)
  have e66 := s.i (a := 66) (by decide)
  have q3 : hI (rfH g 0) 62 3 = hI h 62 3 := by
    show up (hI g 62) 4 0 3 = _
    rw [up_ne (by decide), e62]
  unfold mkR
  rw [e63]
  unfold mk1 at s hr hb
  by_cases z : found (hI h 63) k wd a b c x y = -1
  · rw [if_neg (fun n => n z)] at s hr hb
    by_cases y0 : hI h 63 0 < 40
    · rw [if_pos y0] at s hr hb
      refine ⟨fun n => absurd z n, fun _ n => by omega, fun _ _ => ?_⟩
      obtain ⟨p1, p2, p3, p4⟩ := pre_ok (w := hI h 63) k wd a b c x y hW y0
      have cl : Cl g (mdN g k wd a b c x y) := ((((Cl.rf g).rf' 0).rI (by decide) _).sv).rI (by decide) _
      have f62 : ∀ j, j ≠ 3 → j ≠ 4 → j ≠ 10 → hI (mdN g k wd a b c x y) 62 j = hI h 62 j := fun j j3 j4 j10 => by
        show up (up (up (hI g 62) 4 0) 3 (if hI (rfH g 0) 62 3 = 5 then 5 else hI (rfH g 0) 62 3 + 1)) 10 1 j = _
        rw [up_ne j10, up_ne j3, up_ne j4, e62]
      refine ⟨L.sv2 s cl ?_ ?_ ?_ ?_ (f62 6 (by decide) (by decide) (by decide)) e66 p1 p2 p3 p4, ?_, fun _ => hb⟩
      · show newN (hI g 63) k wd a b c x y = _
        rw [e63]
      · show svPp (hI g 64) (hI (rfH g 0) 62 3) (preN (hI g 63) k wd a b c x y) = _
        rw [e64, q3, e63]
      · show up (up (up (hI g 62) 4 0) 3 (if hI (rfH g 0) 62 3 = 5 then 5 else hI (rfH g 0) 62 3 + 1)) 10 1 3 = _
        rw [up_ne (by decide), up_self, q3]
        rfl
      · show up (up (up (hI g 62) 4 0) 3 (if hI (rfH g 0) 62 3 = 5 then 5 else hI (rfH g 0) 62 3 + 1)) 10 1 10 = _
        rw [up_self]
      · show up (up (up (hI g 62) 4 0) 3 (if hI (rfH g 0) 62 3 = 5 then 5 else hI (rfH g 0) 62 3 + 1)) 10 1 4 = 0
        rw [up_ne (by decide), up_ne (by decide), up_self]
    · rw [if_neg y0] at hr
      exact absurd rfl hr
  · rw [if_pos z] at s hr hb
    refine ⟨fun _ => ?_, fun n => absurd n z, fun n => absurd n z⟩
    have K := En.sv L s (Pfx.i hW (Nx.rf _) rfl) (Ot.rf _) hb
    rw [← e63, show hI g 63 = hI (svH (rfH g 0)) 63 from rfl, rI_id] at K
    rw [show found (hI h 63) k wd a b c x y = found (hI g 63) k wd a b c x y by rw [e63]]
    exact K
theorem mk_no {h g : Hp} (L : LI h) {k wd a b c x y : Int} (s : Md h g (hI h 63) (hI h 64) (hI h 62 3)) (hr : (mk1 (hI h 63) k wd a b c x y).1 = -1) (q : Int) (hq : q ≠ 0) : mkR g q k wd a b c x y (En q) := by
  have nn := L.ci.wf.nn
  have e63 := s.i (a := 63) (by decide)
  unfold mkR
  rw [e63]
  unfold mk1 at hr
  by_cases z : found (hI h 63) k wd a b c x y = -1
  · rw [if_neg (fun n => n z)] at hr
    by_cases y0 : hI h 63 0 < 40
    · rw [if_pos y0] at hr
      have : hI h 63 0 = -1 := hr
      omega
    · exact ⟨fun n => absurd z n, fun _ _ => En.rf L s hq, fun _ n => absurd n y0⟩
  · rw [if_pos z] at hr
    exact absurd hr z
theorem LI.sz {h g : Hp} {w ps : Int → Int} {s : Int} (L : LI h) (M : Md h g w ps s) : Sz g := by
  have hW := L.ci.wf
  have s5 := L.ci.s5
  have e62 := M.i (a := 62) (by decide)
  have e63 := M.i (a := 63) (by decide)
  unfold Sz
  rw [e63, e62]
  exact ⟨hW.nn.1, hW.nn.2, s5.1, s5.2, fun n n0 n1 => hW.wd n0 n1⟩
theorem c_constant {h : Hp} (L : LI h) (wd v : Int) : s_L_constant.2 [aX 0, .inl wd, .inl v, aX 77] h (Pq fun k g => s_X10_constant.2 [aX 62, .inl wd, .inl v] g (En k) NoX) NoX := by
  refine Exists.intro (hI h 63) (Exists.intro (hI h 64) (Exists.intro (hI h 62 3) (And.intro L.ci (And.intro (fun z => ?_) (fun z => And.intro (fun e g c k => ?_) (fun e g c k => ?_))))))
  · have M := Md.rf L.ci
    exact ⟨L.sz M, fun _ => En.rf L M (by decide), fun q => absurd q z⟩
  · have M := Md.k c k
    exact ⟨L.sz M, fun q => absurd z q, fun _ => mk_no L M e 2 (by decide)⟩
  · have M := (Md.k c k).o77 (up (hJ g 77) 0 (i2L (mk1 (hI h 63) 0 wd (-1) (-1) (-1) v (-1)).1))
    exact ⟨L.sz M, fun q => absurd z q, fun _ => mk_end L (Box.i ⟨by omega, by have := L.ci.wf.nn; omega, fun _ => by omega, fun _ => by omega, by omega, fun q => by omega, fun q => by omega, fun q => by omega, fun q => by omega, fun q => by omega, fun q => by omega, fun q => by omega, fun q => by omega, fun q => by omega, fun q => by omega, fun q => by omega, fun q => by omega, fun q => by omega⟩) M e (up_self (hJ g 77) 0 _) 2⟩

/-! ===== the law: a text read ===== -/
theorem LI.rx {h g k : Hp} {x : Int} (L : LI h) (M : Md h g (hI h 63) (hI h 64) (hI h 62 3)) (r : RdX g k x) : LI k := by
  have hW := L.ci.wf
  have e62 := M.i (a := 62) (by decide)
  have e63 := M.i (a := 63) (by decide)
  have e64 := M.i (a := 64) (by decide)
  have e66 := M.i (a := 66) (by decide)
  have e69 := M.i (a := 69) (by decide)
  obtain ⟨m, r66, r64, r7, r69, r4, rj⟩ := r.o
  obtain ⟨m1, m2, m3⟩ := m.o
  rw [e63] at r7
  obtain ⟨c, q1, q2, q3⟩ := M.o
  have M2 : Md h g (hI k 63) (hI h 64) (hI h 62 3) := Box.i ⟨c.eq7 r7, q1, q2, q3⟩
  have f : FR (hI h 63) (hI k 62) (hI k 69) := Box.i fun z => by
    rw [rj 10 (by decide) (by decide), e62] at z
    have q := L.fr.o z
    rw [rj 11 (by decide) (by decide), e62, r69, e69]
    exact q
  refine L.fin M2 (Box.i ⟨m1, by rw [m2], m3, fun a _ => by show k.2.2.1 a = g.2.2.1 a; rw [m2]⟩) rfl (r64.trans e64) ?_ (FR.eq7 hW r7 f) (L.hc.keep (Pfx.i hW r7.o.1 (r7.o.2.2 281 (by decide))) (Ot.eq7 r7)) ?_ (r66.trans e66)
  · rw [rj 3 (by decide) (by decide), e62]
  · rw [rj 6 (by decide) (by decide), e62]
theorem Nx.q7 {w v B U : Int → Int} (a : Eq7 w v) (b : Nx w B) (c : Eq7 B U) (e : ∀ j, 281 ≤ j → B j = w j) : Nx v U ∧ U 281 = v 281 ∧ Ot v U := by
  obtain ⟨a1, a2, a3⟩ := a.o
  obtain ⟨c1, c2, c3⟩ := c.o
  have f : ∀ j, 281 ≤ j → U j = v j := fun j h => by rw [c3 j h, e j h, a3 j h]
  have z : ∀ j, j < 0 → U j = v j := fun j h => by rw [c1.o.2.2.2.2 j h, b.o.2.2.2.2 j h, a1.o.2.2.2.2 j h]
  refine ⟨Box.i ⟨by have := b.o.1; omega, fun n j n0 n1 j0 j1 => ?_, by rw [f 281 (by decide)]; exact Int.le_refl _, fun x x0 x1 => f _ (by omega), z⟩, f 281 (by decide), Box.i fun j h => by
    rcases h with q | q
    · exact z j q
    · exact f j (by omega)⟩
  have := b.o.1
  rw [c1.n n0 (by omega) j0 j1, b.n n0 (by omega) j0 j1, a1.n n0 (by omega) j0 j1]
theorem c_read {h : Hp} (L : LI h) : s_L_read.2 [aX 0, aX 77] h (Pq fun c g => s_X10_read.2 [aX 62] g (En c) NoX) NoX := by
  have hW := L.ci.wf
  have s5 := L.ci.s5
  have tl := L.ci.tl
  have hD : Gd (stR (hI h)) := stR_G tl.1 tl.2
  have T : ∀ {g : Hp} {w ps : Int → Int} {s : Int}, Md h g w ps s → TeQ (hI g) (hI h) := fun {g w ps s} M => Box.i (by
    rw [M.i (a := 62) (by decide), M.i (a := 66) (by decide)]
    exact L.te.o)
  refine Exists.intro (hI h 63) (Exists.intro (hI h 64) (Exists.intro (hI h 62 3) (And.intro L.ci (And.intro (fun z g c k9 => ?_) (And.intro (fun z y g c k9 => ?_) (fun z y g c k9 => ?_))))))
  · have M := Md.k c k9
    refine Exists.intro (hI h) ⟨T M, L.ci.tx, L.s5' M, (L.wf' M).1, fun k x r q => ?_, fun q => absurd q z⟩
    rcases q with ⟨_, rfl⟩ | ⟨q, _⟩
    · exact ⟨L.rx M r, r.o.2.2.2.2.2.1, fun q => absurd q (by decide)⟩
    · exact absurd q z
  · have M := Md.k c k9
    have e63 := M.i (a := 63) (by decide)
    refine Exists.intro (hI h) ⟨T M, L.ci.tx, L.s5' M, (L.wf' M).1, fun k x r q => ?_, fun _ q => absurd (by rw [e63] at q; exact q) y⟩
    rcases q with ⟨q, _⟩ | ⟨_, _, rfl⟩
    · exact absurd z q
    · exact ⟨L.rx M r, r.o.2.2.2.2.2.1, fun q => absurd q (by decide)⟩
  · obtain ⟨M, hb⟩ := Md.x77 c k9 (i2L ((bsS (fin (stR (hI h)) 52) (fin (stR (hI h)) 53) (fin (stR (hI h)) 54) (hI h 63) (pS (fin (stR (hI h)))).toNat).2 0))
    have e62 := M.i (a := 62) (by decide)
    have e63 := M.i (a := 63) (by decide)
    have e64 := M.i (a := 64) (by decide)
    have e66 := M.i (a := 66) (by decide)
    obtain ⟨sp, -⟩ := fin_st hD z
    have bi := bsI.all hW sp (pS (fin (stR (hI h)))).toNat (by have := sp.o.1; omega) y
    refine Exists.intro (hI h) ⟨T M, L.ci.tx, L.s5' M, (L.wf' M).1, fun k x r q => ?_, fun _ _ k u r e7 e8 => ?_⟩
    · rcases q with ⟨q, _⟩ | ⟨_, q, _⟩
      · exact absurd z q
      · exact absurd y (by rw [e63] at q; exact q)
    · rw [e63] at e7 e8 ⊢
      obtain ⟨m, r66, r64, r3, r4, r10, r6⟩ := r.o
      obtain ⟨m1, m2, m3⟩ := m.o
      obtain ⟨cc, q1, q2, q3⟩ := M.o
      have M2 := Md.k (h := rJ g 77 (up (hJ g 77) 0 (i2L ((bsS (fin (stR (hI h)) 52) (fin (stR (hI h)) 53) (fin (stR (hI h)) 54) (hI h 63) (pS (fin (stR (hI h)))).toNat).2 0)))) (cc.eq7 e8) (Kp.rf _)
      have M3 : Md h (rJ g 77 (up (hJ g 77) 0 (i2L ((bsS (fin (stR (hI h)) 52) (fin (stR (hI h)) 53) (fin (stR (hI h)) 54) (hI h 63) (pS (fin (stR (hI h)))).toNat).2 0)))) (hI k 63) (svPp (hI h 64) (hI h 62 3) (hI h 63)) (svS (hI h 62 3)) := Box.i ⟨M2.o.1, q1, q2, q3⟩
      obtain ⟨n1, n2, n3⟩ := Nx.q7 e7 bi.o.2.1 e8 bi.o.2.2.1
      rw [e64, e62] at r64
      rw [e62] at r3 r6
      have kj : hJ k 77 = hJ (rJ g 77 (up (hJ g 77) 0 (i2L ((bsS (fin (stR (hI h)) 52) (fin (stR (hI h)) 53) (fin (stR (hI h)) 54) (hI h 63) (pS (fin (stR (hI h)))).toNat).2 0)))) 77 := by
        show k.2.2.1 77 = _
        rw [m2]
        rfl
      refine ⟨L.sv2 M3 (Box.i ⟨m1, by rw [m2], m3, fun a _ => by show k.2.2.1 a = _; rw [m2]; rfl⟩) rfl r64 r3 r10 r6 (r66.trans e66) e7 (Ot.eq7 e7) (Pfx.i (e7.wf hW) n1 n2) n3, r4, fun _ => by rw [kj]; exact hb⟩

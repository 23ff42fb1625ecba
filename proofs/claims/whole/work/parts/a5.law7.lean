/-! ===== the law: texts, undo, the digest ===== -/
theorem Ot.eq7 {w u : Int → Int} (e : Eq7 w u) : Ot w u := Box.i fun j hj => by
  obtain ⟨e1, e2, e3⟩ := e.o
  rcases hj with q | q
  · exact e1.o.2.2.2.2 j q
  · exact e3 j (by omega)
theorem FR.eq7 {w u F c : Int → Int} (hW : WF w) (e : Eq7 w u) (f : FR w F c) : FR u F c := Box.i fun z => by
  obtain ⟨f1, f2⟩ := f.o z
  have cx := e.cx hW
  have c290 : u 290 = w 290 := e.o.2.2 290 (by decide)
  have t := tot_nx hW e.o.1 (e.o.2.2 281 (by decide))
  have cn := hW.cn
  refine ⟨by rw [t]; exact f1, fun N n0 n1 => ?_⟩
  rw [t] at n1
  rw [c290, ful_nx hW e.o.1 cx N _ (by omega)]
  exact f2 N n0 n1
/-- a state whole, out of the class's and the reference's parts -/
theorem LI.mk {g k : Hp} {w ps : Int → Int} {s : Int} (c : CI g w ps s) (ck : Cl g k) (e63 : hI k 63 = w) (e64 : hI k 64 = ps) (e3 : hI k 62 3 = s) (fr : FR w (hI k 62) (hI k 69)) (hc : HC w ps s) (te : TeQ (hI k) (hI g)) : LI k := by
  obtain ⟨t1, t2, t3, t4⟩ := te.o
  have c49 := ck.o.2.2.1 49 (by decide)
  have c50 := ck.o.2.2.1 50 (by decide)
  refine Box.i ⟨?_, ?_, ?_, Box.i ?_⟩
  · rw [e63, e64, e3]; exact c.cl ck
  · rw [e63]; exact fr
  · rw [e63, e64, e3]; exact hc
  · rw [c49, c50]; exact ⟨t1, t2, t3, t4⟩
theorem c_clearText {h : Hp} (L : LI h) : s_X9_clearText.2 [aX 0] h (Pq fun x g => s_X10_clearText.2 [aX 62] g (Ee x) NoX) NoX := by
  obtain ⟨t1, t2, t3, t4⟩ := L.te.o
  have z : hI (rI h 49 (up (hI h 49) 1 0)) 49 1 = 0 := up_self (hI h 49) 1 0
  have c : CI (rI h 49 (up (hI h 49) 1 0)) (hI h 63) (hI h 64) (hI h 62 3) := L.ci.tn (fun a a0 a1 => by rw [hI_rI', if_neg (by omega)]) rfl rfl (by unfold TL; omega) (Box.i fun k k0 k1 => by rw [z] at k1; omega)
  refine ⟨LI.mk c ((Cl.rf _).rI (by decide) _) rfl rfl ?_ ?_ L.hc (Box.i ⟨?_, by omega, by omega, fun k k0 k1 => by rw [z] at k1; omega⟩), t1⟩
  · show up (up (hI h 62) 4 0) 6 0 3 = _
    rw [up_ne (by decide), up_ne (by decide)]
  · exact L.fr
  · rw [z]
    show up (up (hI h 62) 4 0) 6 0 6 = 0
    rw [up_self]
theorem c_append {h : Hp} (L : LI h) (c : Int) : s_L_append.2 [aX 0, .inl c, aX 77] h (Pq fun x g => s_X10_append.2 [aX 62, .inl c] g (En x) NoX) NoX := by
  obtain ⟨t1, t2, t3, t4⟩ := L.te.o
  have r : 0 ≤ hI h 62 6 ∧ hI h 62 6 ≤ 120 := by omega
  refine Exists.intro (hI h 63) (Exists.intro (hI h 64) (Exists.intro (hI h 62 3) (And.intro L.ci (And.intro (fun z => ?_) (And.intro (fun z y => ?_) (fun z y => ?_))))))
  · have M := Md.rf L.ci
    exact ⟨r, fun _ => En.rf L M (by decide), fun q => absurd q z, fun q => absurd q z⟩
  · have M := Md.rf L.ci
    exact ⟨r, fun q => absurd z q, fun _ _ => En.rf L M (by decide), fun _ q => absurd (t1.trans y) q⟩
  · have td : tAd (hI h) c = ur (ur (hI h) 50 (up (hI h 50) (hI h 49 1) c)) 49 (up (hI h 49) 1 (hI h 49 1 + 1)) := if_pos (by omega)
    have e49 : tAd (hI h) c 49 = up (hI h 49) 1 (hI h 49 1 + 1) := by rw [td, ur_self]
    have e50 : tAd (hI h) c 50 = up (hI h 50) (hI h 49 1) c := by rw [td, ur_ne (by decide), ur_self]
    have eo : ∀ a, a ≠ 49 → a ≠ 50 → tAd (hI h) c a = hI h a := fun a a1 a2 => by rw [td, ur_ne a1, ur_ne a2]
    have l1 : tAd (hI h) c 49 1 = hI h 49 1 + 1 := by rw [e49, up_self]
    have C0 : CI (wI h (tAd (hI h) c)) (hI h 63) (hI h 64) (hI h 62 3) := L.ci.tn (fun a a0 a1 => eo a (by omega) (by omega)) rfl rfl (by show 0 ≤ tAd (hI h) c 49 1 ∧ tAd (hI h) c 49 1 ≤ 120; omega) (Box.i fun k k0 k1 => by
      show 32 ≤ tAd (hI h) c 50 k ∧ tAd (hI h) c 50 k ≤ 126
      have k1 : k < tAd (hI h) c 49 1 := k1
      rw [e50]
      by_cases e : k = hI h 49 1
      · subst e; rw [up_self]; exact z
      · rw [up_ne e]; exact L.ci.tx.o k k0 (by omega))
    obtain ⟨X, hX⟩ : ∃ X, X = up (hJ (wI h (tAd (hI h) c)) 77) 0 (i2L (hI h 49 1 + 1)) := ⟨_, rfl⟩
    have C1 : CI (rJ (wI h (tAd (hI h) c)) 77 X) (hI h 63) (hI h 64) (hI h 62 3) := C0.fc (fun _ _ _ => rfl) rfl C0.sk C0.rn ⟨rfl, rfl⟩
    have f62 : hI (rJ (wI h (tAd (hI h) c)) 77 X) 62 = hI h 62 := eo 62 (by decide) (by decide)
    have f63 : hI (rJ (wI h (tAd (hI h) c)) 77 X) 63 = hI h 63 := eo 63 (by decide) (by decide)
    have f64 : hI (rJ (wI h (tAd (hI h) c)) 77 X) 64 = hI h 64 := eo 64 (by decide) (by decide)
    have f66 : hI (rJ (wI h (tAd (hI h) c)) 77 X) 66 = hI h 66 := eo 66 (by decide) (by decide)
    have f69 : hI (rJ (wI h (tAd (hI h) c)) 77 X) 69 = hI h 69 := eo 69 (by decide) (by decide)
    show s_X10_append.2 [aX 62, .inl c] (rJ (wI h (tAd (hI h) c)) 77 (up (hJ (wI h (tAd (hI h) c)) 77) 0 (i2L (hI h 49 1 + 1)))) (En 0) NoX
    rw [← hX]
    obtain ⟨g, hg⟩ : ∃ g, g = rJ (wI h (tAd (hI h) c)) 77 X := ⟨_, rfl⟩
    have g49 : hI g 49 1 = hI h 49 1 + 1 := by rw [hg]; exact l1
    have g50 : hI g 50 = up (hI h 50) (hI h 49 1) c := by rw [hg]; exact e50
    have gX : hJ g 77 0 = i2L (hI h 49 1 + 1) := by rw [hg, hX]; exact up_self (hJ (wI h (tAd (hI h) c)) 77) 0 _
    rw [← hg] at C1 f62 f63 f64 f66 f69 ⊢
    refine ⟨by rw [f62]; exact r, fun q => absurd z q, fun _ q => absurd (by rw [f62, t1] at q; exact q) y, fun _ _ => ⟨LI.mk C1 (((Cl.rf g).rI (by decide) _).rI (by decide) _) f63 f64 ?_ ?_ L.hc (Box.i ⟨?_, by omega, by omega, fun k k0 k1 => ?_⟩), ?_, fun _ => ?_⟩⟩
    · show up (up (hI g 62) 4 0) 6 (hI g 62 6 + 1) 3 = _
      rw [up_ne (by decide), up_ne (by decide), f62]
    · show FR _ (up (up (hI g 62) 4 0) 6 (hI g 62 6 + 1)) (hI g 69)
      rw [f62, f69]
      exact L.fr
    · show up (up (hI g 62) 4 0) 6 (hI g 62 6 + 1) 6 = _
      rw [up_self, f62, g49, t1]
    · show up (hI g 66) (hI g 62 6) c k = _
      rw [f66, f62, g50, t1]
      by_cases e : k = hI h 49 1
      · subst e; rw [up_self, up_self]
      · rw [up_ne e, up_ne e]; exact t4 k k0 (by omega)
    · show up (up (hI g 62) 4 0) 6 (hI g 62 6 + 1) 4 = 0
      rw [up_ne (by decide), up_self]
    · show hJ g 77 0 = i2L (hI g 62 6 + 1)
      rw [gX, f62, t1]
theorem c_undo {h : Hp} (L : LI h) : s_L_undo.2 [aX 0, aX 77] h (Pq fun c g => s_X10_undo.2 [aX 62] g (En c) NoX) NoX := by
  have s5 := L.ci.s5
  refine Exists.intro (hI h 63) (Exists.intro (hI h 64) (Exists.intro (hI h 62 3) (And.intro L.ci (And.intro (fun z => ?_) (fun z => ?_)))))
  · have M := Md.rf L.ci
    exact ⟨s5, fun _ => En.rf L M (by decide), fun q => absurd z (by omega)⟩
  · obtain ⟨a, b, _⟩ := L.hc.o (hI h 62 3 - 1) (by omega) (by omega)
    refine Exists.intro (pt (hI h 63) (hI h 64) (hI h 62 3 - 1)) (And.intro a (And.intro b (And.intro (fun j j0 j1 => pt_row _ _ _ j0 j1) (fun g c k9 => ?_))))
    obtain ⟨M, hb⟩ := Md.x77 c k9 (i2L (hI h 62 3 - 1))
    have e62 := M.i (a := 62) (by decide)
    have e63 := M.i (a := 63) (by decide)
    have e64 := M.i (a := 64) (by decide)
    have e66 := M.i (a := 66) (by decide)
    have eu : unW (rJ g 77 (up (hJ g 77) 0 (i2L (hI h 62 3 - 1)))) 349 = pt (hI h 63) (hI h 64) (hI h 62 3 - 1) := by
      unfold unW pt
      rw [e62, e63, e64]
    refine ⟨by rw [e62]; exact s5, fun q => absurd (by rw [e62] at q; exact q) z, fun _ => ⟨L.fin M (((Cl.rf _).rI (by decide) _).rI (by decide) _) ?_ ?_ ?_ ?_ (L.hc.undo (by omega)) ?_ e66, ?_, fun _ => ?_⟩⟩
    · exact eu
    · exact e64
    · show up (up (up (hI (rJ g 77 (up (hJ g 77) 0 (i2L (hI h 62 3 - 1)))) 62) 4 0) 3 (hI (rJ g 77 (up (hJ g 77) 0 (i2L (hI h 62 3 - 1)))) 62 3 - 1)) 10 1 3 = _
      rw [up_ne (by decide), up_self, e62]
    · refine Box.i fun q => ?_
      have q : up (up (up (hI (rJ g 77 (up (hJ g 77) 0 (i2L (hI h 62 3 - 1)))) 62) 4 0) 3 (hI (rJ g 77 (up (hJ g 77) 0 (i2L (hI h 62 3 - 1)))) 62 3 - 1)) 10 1 10 = 0 := q
      rw [up_self] at q
      exact absurd q (by decide)
    · show up (up (up (hI (rJ g 77 (up (hJ g 77) 0 (i2L (hI h 62 3 - 1)))) 62) 4 0) 3 (hI (rJ g 77 (up (hJ g 77) 0 (i2L (hI h 62 3 - 1)))) 62 3 - 1)) 10 1 6 = _
      rw [up_ne (by decide), up_ne (by decide), up_ne (by decide), e62]
    · show up (up (up (hI (rJ g 77 (up (hJ g 77) 0 (i2L (hI h 62 3 - 1)))) 62) 4 0) 3 (hI (rJ g 77 (up (hJ g 77) 0 (i2L (hI h 62 3 - 1)))) 62 3 - 1)) 10 1 4 = 0
      rw [up_ne (by decide), up_ne (by decide), up_self]
    · refine hb.trans ?_
      rw [e62]
theorem c_syntaxError {h : Hp} (L : LI h) : s_X9_syntaxError.2 [aX 0] h (Pq fun x g => s_X10_syntaxError.2 [aX 62] g (Ee x) NoX) NoX := by
  refine Exists.intro (hI h 63) (Exists.intro (hI h 64) (Exists.intro (hI h 62 3) (And.intro L.ci (fun g c k9 => ?_))))
  have M := Md.k c k9
  have e62 := M.i (a := 62) (by decide)
  have e63 := M.i (a := 63) (by decide)
  have e64 := M.i (a := 64) (by decide)
  have e66 := M.i (a := 66) (by decide)
  have e69 := M.i (a := 69) (by decide)
  refine Exists.intro (hI h) (And.intro (Box.i (by rw [e62, e66]; exact L.te.o)) (And.intro L.ci.tx (fun H fT => ⟨?_, rfl⟩)))
  obtain ⟨f1, f2⟩ := fT.o
  have r : ∀ a, a ≠ 62 → hI (rfH g 0) a = hI g a := fun a ha => by
    show hI (rI g 62 _) a = _
    rw [hI_rI', if_neg ha]
  have r62 : ∀ j, j ≠ 4 → hI (rfH g 0) 62 j = hI g 62 j := fun j hj => up_ne hj
  refine L.fin M (Box.i ⟨rfl, rfl, fun a ha => ?_, fun _ _ => rfl⟩) ?_ ?_ ?_ ?_ L.hc ?_ ?_
  · show H a = _
    rw [f1 a (by omega) (by omega) (by omega) (by omega), r a (by omega)]
  · show H 63 = _
    rw [f1 63 (by decide) (by decide) (by decide) (by decide), r 63 (by decide), e63]
  · show H 64 = _
    rw [f1 64 (by decide) (by decide) (by decide) (by decide), r 64 (by decide), e64]
  · show H 62 3 = _
    rw [f2 3 (by decide) (by decide) (by decide) (by decide), r62 3 (by decide), e62]
  · refine Box.i fun z => ?_
    have z : H 62 10 = 0 := z
    rw [f2 10 (by decide) (by decide) (by decide) (by decide), r62 10 (by decide), e62] at z
    have q := L.fr.o z
    show H 62 11 = _ ∧ ∀ N, 0 ≤ N → N < _ → H 69 N = _
    rw [f2 11 (by decide) (by decide) (by decide) (by decide), r62 11 (by decide), e62, f1 69 (by decide) (by decide) (by decide) (by decide), r 69 (by decide), e69]
    exact q
  · show H 62 6 = _
    rw [f2 6 (by decide) (by decide) (by decide) (by decide), r62 6 (by decide), e62]
  · show H 66 = _
    rw [f1 66 (by decide) (by decide) (by decide) (by decide), r 66 (by decide), e66]
def Pql (P : Int64 → Hp → Prop) : Option AV → Hp → Prop := fun r g => match r with
  | some (.inr (.inl x)) => P x g
  | _ => False
def El (k : Int64) : Option AV → Hp → Prop := fun r g => match r with
  | some (.inr (.inl b)) => LI g ∧ b = k
  | _ => False
theorem c_digest {h : Hp} (L : LI h) : s_X9_digest.2 [aX 0] h (Pql fun x g => s_X10_digest.2 [aX 62] g (El x) NoX) NoX := by
  refine Exists.intro (hI h 63) (Exists.intro (hI h 64) (Exists.intro (hI h 62 3) (And.intro L.ci (fun g c k9 => ?_))))
  have M := Md.k c k9
  have e62 := M.i (a := 62) (by decide)
  have e63 := M.i (a := 63) (by decide)
  have e64 := M.i (a := 64) (by decide)
  have e66 := M.i (a := 66) (by decide)
  refine ⟨(L.wf' M).1, (L.wf' M).2, fun k d => ⟨?_, ?_⟩⟩
  · obtain ⟨d1, d2, d3, d4, d5, d6, d7⟩ := d.o
    refine L.fin M (Box.i ⟨d1, d2, fun a ha => d3 a (by omega) (by omega) (by omega) (by omega), d4⟩) ?_ ?_ ?_ ?_ L.hc ?_ ?_
    · rw [d3 63 (by decide) (by decide) (by decide) (by decide), e63]
    · rw [d3 64 (by decide) (by decide) (by decide) (by decide), e64]
    · rw [d5 3 (by decide) (by decide) (by decide), e62]
    · rw [← e63]; exact d7
    · rw [d5 6 (by decide) (by decide) (by decide), e62]
    · rw [d3 66 (by decide) (by decide) (by decide) (by decide), e66]
  · rw [e63, e62, L.te.o.1]
theorem c_write {h : Hp} (L : LI h) (n : Int) : s_L_write.2 [aX 0, .inl n, aX 77] h (Pq fun c g => s_X10_write.2 [aX 62, .inl n] g (En c) NoX) NoX := by
  have wx : ∀ {g : Hp} {H : Rw} {k : Int}, Md h g (hI h 63) (hI h 64) (hI h 62 3) → WrX g H k → k ≠ 0 → ∀ b, En k (some (.inl b)) (wI g H) := fun {g H k} M w hk b => by
    have e62 := M.i (a := 62) (by decide)
    have e63 := M.i (a := 63) (by decide)
    have e64 := M.i (a := 64) (by decide)
    have e66 := M.i (a := 66) (by decide)
    have e69 := M.i (a := 69) (by decide)
    obtain ⟨w1, w2, w3⟩ := w.o
    refine ⟨L.fin M (Box.i ⟨rfl, rfl, fun a ha => w1 a (by omega) (by omega) (by omega), fun _ _ => rfl⟩) ?_ ?_ ?_ ?_ L.hc ?_ ?_, w2, fun q => absurd q hk⟩
    · exact (w1 63 (by decide) (by decide) (by decide)).trans e63
    · exact (w1 64 (by decide) (by decide) (by decide)).trans e64
    · show H 62 3 = _
      rw [w3 3 (by decide) (by decide) (by decide), e62]
    · refine Box.i fun z => ?_
      have z : H 62 10 = 0 := z
      rw [w3 10 (by decide) (by decide) (by decide), e62] at z
      have q := L.fr.o z
      show H 62 11 = _ ∧ ∀ N, 0 ≤ N → N < _ → H 69 N = _
      rw [w3 11 (by decide) (by decide) (by decide), e62, w1 69 (by decide) (by decide) (by decide), e69]
      exact q
    · show H 62 6 = _
      rw [w3 6 (by decide) (by decide) (by decide), e62]
    · exact (w1 66 (by decide) (by decide) (by decide)).trans e66
  refine Exists.intro (hI h 63) (Exists.intro (hI h 64) (Exists.intro (hI h 62 3) (And.intro L.ci (And.intro (fun z => ?_) (And.intro (fun z y g c k9 => ?_) (fun z y g c k9 tx => ?_))))))
  · have M := Md.rf L.ci
    exact ⟨(L.wf' M).1, fun _ H w => wx M w (by decide) _, fun q => absurd q z, fun q => absurd q z⟩
  · have M := Md.k c k9
    have e63 := M.i (a := 63) (by decide)
    refine ⟨(L.wf' M).1, fun q => absurd z (by rw [e63] at q; exact q), fun _ _ H w => wx M w (by decide) _, fun _ q => absurd (by rw [e63] at q; exact q) (by omega)⟩
  · obtain ⟨k, hk⟩ : ∃ k, k = rJ g 77 (up (hJ g 77) 0 (i2L ((dsc (hI h 63) n).length : Int))) := ⟨_, rfl⟩
    have ck : CI k (hI h 63) (hI h 64) (hI h 62 3) := by rw [hk]; exact c.fc (fun _ _ _ => rfl) rfl c.sk c.rn ⟨rfl, rfl⟩
    have kj : hJ k 77 0 = i2L ((dsc (hI h 63) n).length : Int) := by rw [hk]; exact up_self (hJ g 77) 0 _
    have ki : ∀ a, 62 ≤ a → a ≠ 78 → hI k a = hI h a := fun a a0 a1 => by rw [hk]; exact (k9.o a a0 a1).1
    have kt : TxL (hI k) (dsc (hI h 63) n) := by rw [hk]; exact tx
    show s_X10_write.2 [aX 62, .inl n] (rJ g 77 (up (hJ g 77) 0 (i2L ((dsc (hI h 63) n).length : Int)))) (En 0) NoX
    rw [← hk]
    have e62 := ki 62 (by decide) (by decide)
    have e63 := ki 63 (by decide) (by decide)
    have e64 := ki 64 (by decide) (by decide)
    have e69 := ki 69 (by decide) (by decide)
    refine ⟨by rw [e63]; exact L.ci.wf, fun q => absurd z (by rw [e63] at q; exact q), fun _ q => absurd (by rw [e63] at q; exact q) (by omega), fun _ _ H w => ?_⟩
    obtain ⟨w1, w2, w3, w4, w5⟩ := w.o
    rw [e63] at w3 w4
    obtain ⟨x1, x2, x3⟩ := kt.o
    refine ⟨LI.mk ck (Box.i ⟨rfl, rfl, fun a ha => w1 a (by omega) (by omega) (by omega) (by omega), fun _ _ => rfl⟩) ?_ ?_ ?_ ?_ L.hc (Box.i ⟨?_, by omega, by omega, fun i i0 i1 => ?_⟩), w2, fun _ => ?_⟩
    · exact (w1 63 (by decide) (by decide) (by decide) (by decide)).trans e63
    · exact (w1 64 (by decide) (by decide) (by decide) (by decide)).trans e64
    · show H 62 3 = _
      rw [w5 3 (by decide) (by decide) (by decide) (by decide), e62]
    · refine Box.i fun z => ?_
      have z : H 62 10 = 0 := z
      rw [w5 10 (by decide) (by decide) (by decide) (by decide), e62] at z
      have q := L.fr.o z
      show H 62 11 = _ ∧ ∀ N, 0 ≤ N → N < _ → H 69 N = _
      rw [w5 11 (by decide) (by decide) (by decide) (by decide), e62, w1 69 (by decide) (by decide) (by decide) (by decide), e69]
      exact q
    · show H 62 6 = _
      rw [w3, x1]
    · show H 66 i = _
      have a := w4 i.toNat (by omega)
      have b := x3 i.toNat (by omega)
      rw [show ((i.toNat : Nat) : Int) = i by omega] at a b
      rw [a, b]
    · show hJ k 77 0 = _
      rw [kj, e63]

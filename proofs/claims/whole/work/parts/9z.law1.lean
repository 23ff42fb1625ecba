/-! ===== the law: a call of the class, then one of the reference ===== -/
theorem LI.ci {h : Hp} (L : LI h) : CI h (hI h 63) (hI h 64) (hI h 62 3) := L.o.1
theorem LI.fr {h : Hp} (L : LI h) : FR (hI h 63) (hI h 62) (hI h 69) := L.o.2.1
theorem LI.hc {h : Hp} (L : LI h) : HC (hI h 63) (hI h 64) (hI h 62 3) := L.o.2.2.1
theorem LI.te {h : Hp} (L : LI h) : TeQ (hI h) (hI h) := L.o.2.2.2
theorem CI.s5 {h : Hp} {w ps : Int → Int} {s : Int} (c : CI h w ps s) : 0 ≤ s ∧ s ≤ 5 := ⟨c.hr.o.2.1, c.hr.o.2.2.1⟩
/-- after the class's call -/
def Md (h g : Hp) (w ps : Int → Int) (s : Int) : Prop := Box (CI g w ps s ∧ (∀ a, 62 ≤ a → a ≠ 78 → hI g a = hI h a) ∧ hI g 49 = hI h 49 ∧ hI g 50 = hI h 50)
theorem Md.k {h g : Hp} {w ps : Int → Int} {s : Int} (c : CI g w ps s) (k : Kp h g) : Md h g w ps s := Box.i ⟨c, fun a a0 a1 => (k.o.1.o a a0 a1).1, k.o.2.1, k.o.2.2⟩
theorem Md.rf {h : Hp} {w ps : Int → Int} {s : Int} (c : CI h w ps s) : Md h h w ps s := Md.k c (Kp.rf h)
theorem Md.o77 {h g : Hp} {w ps : Int → Int} {s : Int} (m : Md h g w ps s) (X : Int → Int64) : Md h (rJ g 77 X) w ps s := by
  obtain ⟨c, a, b, d⟩ := m.o
  exact Box.i ⟨c.fc (fun _ _ _ => rfl) rfl c.sk c.rn ⟨rfl, rfl⟩, a, b, d⟩
theorem Md.i {h g : Hp} {w ps : Int → Int} {s : Int} (m : Md h g w ps s) {a : Nat} (a0 : 62 ≤ a ∧ a ≠ 78) : hI g a = hI h a := m.o.2.1 a a0.1 a0.2
/-- the class's part the same -/
def Cl (g k : Hp) : Prop := Box (k.1 = g.1 ∧ k.2.2.2 = g.2.2.2 ∧ (∀ a, a < 62 → hI k a = hI g a) ∧ ∀ a, a ≠ 62 → hJ k a = hJ g a)
theorem Cl.rf (g : Hp) : Cl g g := Box.i ⟨rfl, rfl, fun _ _ => rfl, fun _ _ => rfl⟩
theorem Cl.rI {g k : Hp} (c : Cl g k) {a : Nat} (ha : 62 ≤ a) (f : Int → Int) : Cl g (CWordSolverLaw_law_r9643_f7b4c7.rI k a f) := by
  obtain ⟨c1, c2, c3, c4⟩ := c.o
  exact Box.i ⟨c1, c2, fun b hb => by rw [hI_rI', if_neg (by omega)]; exact c3 b hb, c4⟩
theorem Cl.rf' {g k : Hp} (c : Cl g k) (x : Int) : Cl g (rfH k x) := c.rI (by decide) _
theorem Cl.sv {g k : Hp} (c : Cl g k) : Cl g (svH k) := (c.rI (by decide) _).rI (by decide) _
theorem Cl.wv {g k : Hp} (c : Cl g k) (a b : Int → Int) : Cl g (wvH k a b) := (c.rI (by decide) _).rI (by decide) _
theorem Cl.sc {g k : Hp} (c : Cl g k) (F a b d : Int → Int) : Cl g (CWordSolverLaw_law_r9643_f7b4c7.sc k F a b d) := by
  obtain ⟨c1, c2, c3, c4⟩ := c.o
  refine Box.i ⟨c1, c2, fun x hx => ?_, c4⟩
  show (if x = 62 then F else if x = 67 then a else if x = 68 then b else if x = 69 then d else hI k x) = _
  rw [if_neg (by omega), if_neg (by omega), if_neg (by omega), if_neg (by omega)]
  exact c3 x hx
theorem CI.cl {g k : Hp} {w ps : Int → Int} {s : Int} (c : CI g w ps s) (m : Cl g k) : CI k w ps s := by
  obtain ⟨m1, m2, m3, m4⟩ := m.o
  have r : ∀ a, hR k a = hR g a := fun a => by
    show k.2.2.2 a = g.2.2.2 a
    rw [m2]
  refine c.fc (fun a a0 a1 => m3 a (by omega)) (r 12) ?_ ?_ ⟨m3 49 (by decide), m3 50 (by decide)⟩
  · rw [m3 46 (by decide), m4 47 (by decide)]
    exact c.sk
  · have := c.rn
    unfold RwN at *
    rw [r, show hN k = hN g from m1]
    exact this
theorem LI.fin {h g k : Hp} {w ps : Int → Int} {s : Int} (L : LI h) (M : Md h g w ps s) (m : Cl g k) (e63 : hI k 63 = w) (e64 : hI k 64 = ps) (e3 : hI k 62 3 = s) (fr : FR w (hI k 62) (hI k 69)) (hc : HC w ps s) (e6 : hI k 62 6 = hI h 62 6) (e66 : hI k 66 = hI h 66) : LI k := by
  obtain ⟨t1, t2, t3, t4⟩ := L.te.o
  have c49 : hI k 49 = hI h 49 := (m.o.2.2.1 49 (by decide)).trans M.o.2.2.1
  have c50 : hI k 50 = hI h 50 := (m.o.2.2.1 50 (by decide)).trans M.o.2.2.2
  refine Box.i ⟨?_, ?_, ?_, Box.i ?_⟩
  · rw [e63, e64, e3]
    exact M.o.1.cl m
  · rw [e63]; exact fr
  · rw [e63, e64, e3]; exact hc
  · rw [e6, e66, c49, c50]
    exact ⟨t1, t2, t3, t4⟩
/-- nothing changed but the refusal -/
theorem LI.rf {h g : Hp} (L : LI h) (M : Md h g (hI h 63) (hI h 64) (hI h 62 3)) (x : Int) : LI (rfH g x) := by
  have e62 := M.i (a := 62) (by decide)
  refine L.fin M ((Cl.rf g).rf' x) (M.i (a := 63) (by decide)) (M.i (a := 64) (by decide)) ?_ ?_ L.hc ?_ (M.i (a := 66) (by decide))
  · show up (hI g 62) 4 x 3 = _
    rw [up_ne (by decide), e62]
  · show FR _ (up (hI g 62) 4 x) (hI g 69)
    rw [e62, M.i (a := 69) (by decide)]
    exact L.fr.rf
  · show up (hI g 62) 4 x 6 = _
    rw [up_ne (by decide), e62]
theorem LI.wv {h g : Hp} (L : LI h) (M : Md h g (hI h 63) (hI h 64) (hI h 62 3)) (x : Int) (a b : Int → Int) : LI (wvH (rfH g x) a b) := by
  have e62 := M.i (a := 62) (by decide)
  refine L.fin M (((Cl.rf g).rf' x).wv a b) (M.i (a := 63) (by decide)) (M.i (a := 64) (by decide)) ?_ ?_ L.hc ?_ (M.i (a := 66) (by decide))
  · show up (hI g 62) 4 x 3 = _
    rw [up_ne (by decide), e62]
  · show FR _ (up (hI g 62) 4 x) (hI g 69)
    rw [e62, M.i (a := 69) (by decide)]
    exact L.fr.rf
  · show up (hI g 62) 4 x 6 = _
    rw [up_ne (by decide), e62]
/-- the reference's search -/
theorem LI.sc {h g : Hp} (L : LI h) (M : Md h g (hI h 63) (hI h 64) (hI h 62 3)) {k : Hp} (ck : Cl g k) (e : ∀ a, a ≠ 62 → 62 ≤ a → a ≠ 70 → hI k a = hI g a) {F a b c : Int → Int} (f3 : F 3 = hI h 62 3) (f6 : F 6 = hI h 62 6) (fr : FR (hI h 63) F c) : LI (CWordSolverLaw_law_r9643_f7b4c7.sc k F a b c) := by
  refine L.fin M (ck.sc F a b c) ?_ ?_ f3 fr L.hc f6 ?_
  · show hI k 63 = _
    rw [e 63 (by decide) (by decide) (by decide)]
    exact M.i (a := 63) (by decide)
  · show hI k 64 = _
    rw [e 64 (by decide) (by decide) (by decide)]
    exact M.i (a := 64) (by decide)
  · show hI k 66 = _
    rw [e 66 (by decide) (by decide) (by decide)]
    exact M.i (a := 66) (by decide)
/-- a row anew, the old one saved -/
theorem LI.sv {h g : Hp} {u : Int → Int} (L : LI h) (M : Md h g u (svPp (hI h 64) (hI h 62 3) (hI h 63)) (svS (hI h 62 3))) (p : Pfx (hI h 63) u) (o : Ot (hI h 63) u) : LI (rI (svH (rfH g 0)) 63 u) := by
  have e62 := M.i (a := 62) (by decide)
  have e63 := M.i (a := 63) (by decide)
  have e64 := M.i (a := 64) (by decide)
  have s5 := L.ci.s5
  have q : hI (rI (svH (rfH g 0)) 63 u) 62 = svF (rfH g 0) := rfl
  have q3 : hI (rfH g 0) 62 3 = hI h 62 3 := by
    show up (hI g 62) 4 0 3 = _
    rw [up_ne (by decide), e62]
  refine L.fin M (((Cl.rf g).rf' 0).sv.rI (by decide) u) rfl ?_ ?_ ?_ (L.hc.save s5 L.ci.wf p o) ?_ (M.i (a := 66) (by decide))
  · show svP (rfH g 0) = _
    rw [svP_eq, q3]
    show svPp (hI g 64) _ (hI g 63) = _
    rw [e64, e63]
  · rw [q]
    unfold svF
    rw [up_ne (by decide), up_self, q3]
    rfl
  · refine Box.i fun z => ?_
    rw [q] at z
    unfold svF at z
    rw [up_self] at z
    exact absurd z (by decide)
  · rw [q]
    unfold svF
    rw [up_ne (by decide), up_ne (by decide)]
    show up (hI g 62) 4 0 6 = _
    rw [up_ne (by decide), e62]
/-- the end of a pair of calls -/
def En (k : Int) : Option AV → Hp → Prop := fun r g => match r with
  | some (.inl b) => LI g ∧ hI g 62 4 = k ∧ (k = 0 → hJ g 77 0 = i2L b)
  | _ => False
def Pq (P : Int → Hp → Prop) : Option AV → Hp → Prop := fun r g => match r with
  | some (.inl k) => P k g
  | _ => False
def NoX : Nat → Hp → Prop := fun _ _ => False
abbrev aX (n : Nat) : AV := .inr (.inr (some n))
theorem En.rf {h g : Hp} (L : LI h) (M : Md h g (hI h 63) (hI h 64) (hI h 62 3)) {x b : Int} (hx : x ≠ 0) : En x (some (.inl b)) (rfH g x) := ⟨L.rf M x, up_self (hI g 62) 4 x, fun z => absurd z hx⟩
theorem En.rf0 {h g : Hp} (L : LI h) (M : Md h g (hI h 63) (hI h 64) (hI h 62 3)) {b : Int} (hb : hJ g 77 0 = i2L b) : En 0 (some (.inl b)) (rfH g 0) := ⟨L.rf M 0, up_self (hI g 62) 4 0, fun _ => hb⟩
theorem En.sv {h g : Hp} {u : Int → Int} (L : LI h) (M : Md h g u (svPp (hI h 64) (hI h 62 3) (hI h 63)) (svS (hI h 62 3))) (p : Pfx (hI h 63) u) (o : Ot (hI h 63) u) {b : Int} (hb : hJ g 77 0 = i2L b) : En 0 (some (.inl b)) (rI (svH (rfH g 0)) 63 u) := by
  refine ⟨L.sv M p o, ?_, fun _ => hb⟩
  show svF (rfH g 0) 4 = 0
  unfold svF
  rw [up_ne (by decide), up_ne (by decide)]
  exact up_self (hI g 62) 4 0

/-! ===== the law: what is asked, and the state changed ===== -/
def Ee (k : Int) : Option AV → Hp → Prop := fun r g => match r with
  | some (.inl b) => LI g ∧ b = k
  | _ => False
theorem LI.scz {h g : Hp} (L : LI h) (M : Md h g (hI h 63) (hI h 64) (hI h 62 3)) {F a b c : Int → Int} (z : Fz (up (hI g 62) 4 0) F) (fr : FR (hI g 63) F c) : LI (CWordSolverLaw_law_r9643_f7b4c7.sc (rfH g 0) F a b c) ∧ F 4 = 0 := by
  have e62 := M.i (a := 62) (by decide)
  have e63 := M.i (a := 63) (by decide)
  obtain ⟨z0, zz⟩ := z.o
  refine ⟨L.sc M ((Cl.rf g).rf' 0) (fun a a1 _ _ => by show hI (rI g 62 _) a = _; rw [hI_rI', if_neg a1]) ?_ ?_ (by rw [← e63]; exact fr), ?_⟩
  · rw [zz 3 (by decide) (by decide), up_ne (by decide), e62]
  · rw [zz 6 (by decide) (by decide), up_ne (by decide), e62]
  · rw [zz 4 (by decide) (by decide), up_self]
theorem En.sc {h g : Hp} (L : LI h) (M : Md h g (hI h 63) (hI h 64) (hI h 62 3)) {F a b c : Int → Int} (z : Fz (up (hI g 62) 4 0) F) (fr : FR (hI g 63) F c) {x : Int} (hb : hJ g 77 0 = i2L x) : En 0 (some (.inl x)) (CWordSolverLaw_law_r9643_f7b4c7.sc (rfH g 0) F a b c) := ⟨(L.scz (a := a) (b := b) M z fr).1, (L.scz (a := a) (b := b) M z fr).2, fun _ => hb⟩
theorem LI.wf' {h g : Hp} {w ps : Int → Int} {s : Int} (L : LI h) (M : Md h g w ps s) : WF (hI g 63) ∧ FR (hI g 63) (hI g 62) (hI g 69) := by
  rw [M.i (a := 63) (by decide), M.i (a := 62) (by decide), M.i (a := 69) (by decide)]
  exact ⟨L.ci.wf, L.fr⟩
theorem LI.s5' {h g : Hp} {w ps : Int → Int} {s : Int} (L : LI h) (M : Md h g w ps s) : 0 ≤ hI g 62 3 ∧ hI g 62 3 ≤ 5 := by
  rw [M.i (a := 62) (by decide)]
  exact L.ci.s5
theorem c_nodes {h : Hp} (L : LI h) : s_X9_nodes.2 [aX 0] h (Pq fun x g => s_X10_nodes.2 [aX 62] g (Ee x) NoX) NoX :=
  Exists.intro (hI h 63) (Exists.intro (hI h 64) (Exists.intro (hI h 62 3) (And.intro L.ci ⟨L.rf (Md.rf L.ci) 0, rfl⟩)))
theorem c_variables {h : Hp} (L : LI h) : s_X9_variables.2 [aX 0] h (Pq fun x g => s_X10_variables.2 [aX 62] g (Ee x) NoX) NoX :=
  Exists.intro (hI h 63) (Exists.intro (hI h 64) (Exists.intro (hI h 62 3) (And.intro L.ci ⟨L.rf (Md.rf L.ci) 0, rfl⟩)))
theorem c_constraints {h : Hp} (L : LI h) : s_X9_constraints.2 [aX 0] h (Pq fun x g => s_X10_constraints.2 [aX 62] g (Ee x) NoX) NoX :=
  Exists.intro (hI h 63) (Exists.intro (hI h 64) (Exists.intro (hI h 62 3) (And.intro L.ci ⟨L.rf (Md.rf L.ci) 0, rfl⟩)))
theorem c_character {h : Hp} (L : LI h) (k : Int) : s_X9_character.2 [aX 0, .inl k] h (Pq fun x g => s_X10_character.2 [aX 62, .inl k] g (Ee x) NoX) NoX := by
  refine Exists.intro (hI h 63) (Exists.intro (hI h 64) (Exists.intro (hI h 62 3) (And.intro L.ci ?_)))
  obtain ⟨t1, t2, t3, t4⟩ := L.te.o
  refine ⟨by rw [t1]; exact ⟨t2, t3⟩, fun n => ⟨L.rf (Md.rf L.ci) 0, ?_⟩, fun n => ⟨L.rf (Md.rf L.ci) 0, ?_⟩⟩
  · show -1 = tA (hI h) k
    unfold tA
    rw [if_neg (by rw [← t1]; exact n)]
  · show hI h 66 k = tA (hI h) k
    unfold tA
    rw [t1] at n
    rw [if_pos n]
    exact t4 k n.1 n.2
theorem c_constraint {h : Hp} (L : LI h) (k gg : Int) : s_L_constraint.2 [aX 0, .inl k, .inl gg, aX 77] h (Pq fun x g => s_X10_constraint.2 [aX 62, .inl k, .inl gg] g (En x) NoX) NoX := by
  refine Exists.intro (hI h 63) (Exists.intro (hI h 64) (Exists.intro (hI h 62 3) (And.intro L.ci (And.intro (fun z => ?_) (And.intro (fun z y => ?_) (fun z y => ?_))))))
  · have M := Md.rf L.ci
    exact ⟨(L.wf' M).1, fun _ => En.rf L M (by decide), fun n => absurd n z, fun n => absurd n z⟩
  · obtain ⟨M, hb⟩ := Md.x77 L.ci (Kp.rf h) (i2L (hI h 63 (311 + k)))
    exact ⟨(L.wf' M).1, fun n => absurd z n, fun _ _ => En.rf0 L M hb, fun _ n => absurd n y⟩
  · obtain ⟨M, hb⟩ := Md.x77 L.ci (Kp.rf h) (i2L (hI h 63 (291 + k)))
    exact ⟨(L.wf' M).1, fun n => absurd z n, fun _ n => absurd y n, fun _ _ => En.rf0 L M hb⟩
theorem c_info {h : Hp} (L : LI h) (n x : Int) : s_L_info.2 [aX 0, .inl n, .inl x, aX 77] h (Pq fun c g => s_X10_info.2 [aX 62, .inl n, .inl x] g (En c) NoX) NoX := by
  have nn := L.ci.wf.nn
  refine Exists.intro (hI h 63) (Exists.intro (hI h 64) (Exists.intro (hI h 62 3) (And.intro L.ci (And.intro (fun z => ?_) (And.intro (fun z y => ?_) (fun z y => ?_))))))
  · have M := Md.rf L.ci
    exact ⟨nn, fun _ => En.rf L M (by decide), fun a b => absurd ⟨a, b⟩ z, fun a b => absurd ⟨a, b⟩ z⟩
  · have M := Md.rf L.ci
    exact ⟨nn, fun q => absurd z q, fun _ _ _ => En.rf L M (by decide), fun _ _ a b => absurd ⟨a, b⟩ y⟩
  · obtain ⟨M, hb⟩ := Md.x77 L.ci (Kp.rf h) (i2L (toldW (hI h 63) n x))
    exact ⟨nn, fun q => absurd z q, fun _ _ q => absurd y q, fun _ _ _ _ => En.rf0 L M hb⟩
theorem c_value {h : Hp} (L : LI h) (n gg : Int) : s_L_value.2 [aX 0, .inl n, .inl gg, aX 77] h (Pq fun c g => s_X10_value.2 [aX 62, .inl n, .inl gg] g (En c) NoX) NoX := by
  refine Exists.intro (hI h 63) (Exists.intro (hI h 64) (Exists.intro (hI h 62 3) (And.intro L.ci (And.intro (fun z => ?_) (fun z g c k9 => ?_)))))
  · have M := Md.rf L.ci
    exact ⟨(L.wf' M).1, fun _ => En.rf L M (by decide), fun n => absurd n z⟩
  · obtain ⟨M, hb⟩ := Md.x77 c k9 (i2L (rd (hI h 63) n gg (vl (hI h 63) (fun v => hI h 63 (286 + v)) n)))
    have e63 := M.i (a := 63) (by decide)
    refine ⟨(L.wf' M).1, fun q => absurd z (by rw [e63] at q; exact q), fun _ a f => ⟨L.wv M 0 a f, up_self (hI g 62) 4 0, fun _ => ?_⟩⟩
    rw [e63]
    exact hb
theorem c_input {h : Hp} (L : LI h) (v x : Int) : s_L_input.2 [aX 0, .inl v, .inl x, aX 77] h (Pq fun c g => s_X10_input.2 [aX 62, .inl v, .inl x] g (En c) NoX) NoX := by
  have hW := L.ci.wf
  have vn := hW.vn
  refine Exists.intro (hI h 63) (Exists.intro (hI h 64) (Exists.intro (hI h 62 3) (And.intro L.ci (And.intro (fun z => ?_) (And.intro (fun z y => ?_) (fun z y g c k9 => ?_))))))
  · have M := Md.rf L.ci
    exact ⟨⟨(L.s5' M).1, (L.s5' M).2, hW.vz⟩, fun _ => En.rf L M (by decide), fun a b => absurd ⟨a, b⟩ z, fun a b => absurd ⟨a, b⟩ z⟩
  · have M := Md.rf L.ci
    exact ⟨⟨(L.s5' M).1, (L.s5' M).2, hW.vz⟩, fun q => absurd z q, fun _ _ _ => En.rf L M (by decide), fun _ _ a b => absurd ⟨a, b⟩ y⟩
  · obtain ⟨M, hb⟩ := Md.x77 c k9 (i2L (hI h 63 (286 + v)))
    have e63 := M.i (a := 63) (by decide)
    refine ⟨⟨(L.s5' M).1, (L.s5' M).2, by rw [e63]; exact hW.vz⟩, fun q => absurd z (by rw [e63] at q; exact q), fun _ _ q => absurd y (by rw [e63] at q; exact q), fun _ _ _ _ => ?_⟩
    rw [e63]
    exact En.sv L M ((Hi.inp z.1).pfx hW) (Ot.up _ ⟨by omega, by omega⟩ _) hb
theorem c_push {h : Hp} (L : LI h) : s_L_push.2 [aX 0, aX 77] h (Pq fun c g => s_X10_push.2 [aX 62] g (En c) NoX) NoX := by
  have hW := L.ci.wf
  refine Exists.intro (hI h 63) (Exists.intro (hI h 64) (Exists.intro (hI h 62 3) (And.intro L.ci (And.intro (fun z => ?_) (fun z g c k9 => ?_)))))
  · have M := Md.rf L.ci
    exact ⟨L.s5' M, (L.wf' M).1, fun _ => En.rf L M (by decide), fun n => absurd z n⟩
  · obtain ⟨M, hb⟩ := Md.x77 c k9 (i2L (hI h 63 331 + 1))
    have e63 := M.i (a := 63) (by decide)
    refine ⟨L.s5' M, (L.wf' M).1, fun q => absurd (by rw [e63] at q; exact q) z, fun _ => ?_⟩
    rw [e63]
    exact En.sv L M ((Hi.lev _ _).pfx hW) (Ot.up _ (by decide) _) hb
theorem c_pop {h : Hp} (L : LI h) : s_L_pop.2 [aX 0, aX 77] h (Pq fun c g => s_X10_pop.2 [aX 62] g (En c) NoX) NoX := by
  have hW := L.ci.wf
  refine Exists.intro (hI h 63) (Exists.intro (hI h 64) (Exists.intro (hI h 62 3) (And.intro L.ci (And.intro (fun z => ?_) (fun z g c k9 => ?_)))))
  · have M := Md.rf L.ci
    exact ⟨L.s5' M, (L.wf' M).1, fun _ => En.rf L M (by decide), fun n => absurd z n⟩
  · obtain ⟨M, hb⟩ := Md.x77 c k9 (i2L (hI h 63 290 - lft (hI h 63) (hI h 63 290).toNat))
    have e63 := M.i (a := 63) (by decide)
    refine ⟨L.s5' M, (L.wf' M).1, fun q => absurd (by rw [e63] at q; exact q) z, fun _ => ?_⟩
    rw [e63]
    exact En.sv L M ((Hi.pop _).pfx hW) ((Ot.up _ (by decide) _).tr (Ot.up _ (by decide) _)) hb
theorem c_require {h : Hp} (L : LI h) (n : Int) : s_L_require.2 [aX 0, .inl n, aX 77] h (Pq fun c g => s_X10_require.2 [aX 62, .inl n] g (En c) NoX) NoX := by
  have hW := L.ci.wf
  have cn := hW.cn
  refine Exists.intro (hI h 63) (Exists.intro (hI h 64) (Exists.intro (hI h 62 3) (And.intro L.ci (And.intro (fun z => ?_) (And.intro (fun z y => ?_) (And.intro (fun z y x => ?_) (fun z y x g c k9 => ?_)))))))
  · have M := Md.rf L.ci
    exact ⟨L.s5' M, (L.wf' M).1, fun _ => En.rf L M (by decide), fun q => absurd q z, fun q => absurd q z, fun q => absurd q z⟩
  · have M := Md.rf L.ci
    exact ⟨L.s5' M, (L.wf' M).1, fun q => absurd z q, fun _ _ => En.rf L M (by decide), fun _ q => absurd q y, fun _ q => absurd q y⟩
  · have M := Md.rf L.ci
    exact ⟨L.s5' M, (L.wf' M).1, fun q => absurd z q, fun _ q => absurd y q, fun _ _ _ => En.rf L M (by decide), fun _ _ q => absurd x q⟩
  · obtain ⟨M, hb⟩ := Md.x77 c k9 (i2L (hI h 63 290))
    have e63 := M.i (a := 63) (by decide)
    refine ⟨L.s5' M, (L.wf' M).1, fun q => absurd z (by rw [e63] at q; exact q), fun _ q => absurd y (by rw [e63] at q; exact q), fun _ _ q => absurd (by rw [e63] at q; exact q) x, fun _ _ _ => ?_⟩
    rw [e63]
    exact En.sv L M ((Hi.req hW n).pfx hW) (((Ot.up _ ⟨by omega, by omega⟩ _).tr (Ot.up _ ⟨by omega, by omega⟩ _)).tr (Ot.up _ (by decide) _)) hb
theorem c_wish {h : Hp} (L : LI h) (n x : Int) : s_L_wish.2 [aX 0, .inl n, .inl x, aX 77] h (Pq fun c g => s_X10_wish.2 [aX 62, .inl n, .inl x] g (En c) NoX) NoX := by
  have hW := L.ci.wf
  have wn := hW.wn
  refine Exists.intro (hI h 63) (Exists.intro (hI h 64) (Exists.intro (hI h 62 3) (And.intro L.ci (And.intro (fun z => ?_) (And.intro (fun z y => ?_) (And.intro (fun z y u => ?_) (fun z y u g c k9 => ?_)))))))
  · have M := Md.rf L.ci
    exact ⟨L.s5' M, (L.wf' M).1, fun _ => En.rf L M (by decide), fun q => absurd q z, fun q => absurd q z, fun q => absurd q z⟩
  · have M := Md.rf L.ci
    exact ⟨L.s5' M, (L.wf' M).1, fun q => absurd z q, fun _ _ => En.rf L M (by decide), fun _ q => absurd q y, fun _ q => absurd q y⟩
  · have M := Md.rf L.ci
    exact ⟨L.s5' M, (L.wf' M).1, fun q => absurd z q, fun _ q => absurd y q, fun _ _ _ => En.rf L M (by decide), fun _ _ q => absurd u q⟩
  · obtain ⟨M, hb⟩ := Md.x77 c k9 (i2L (hI h 63 332 + 1))
    have e63 := M.i (a := 63) (by decide)
    refine ⟨L.s5' M, (L.wf' M).1, fun q => absurd z (by rw [e63] at q; exact q), fun _ q => absurd y (by rw [e63] at q; exact q), fun _ _ q => absurd (by rw [e63] at q; exact q) u, fun _ _ _ => ?_⟩
    rw [e63]
    exact En.sv L M ((Hi.wish hW n x).pfx hW) (((Ot.up _ ⟨by omega, by omega⟩ _).tr (Ot.up _ ⟨by omega, by omega⟩ _)).tr (Ot.up _ (by decide) _)) hb
theorem c_clearWishes {h : Hp} (L : LI h) : s_X9_clearWishes.2 [aX 0] h (Pq fun x g => s_X10_clearWishes.2 [aX 62] g (Ee x) NoX) NoX := by
  have hW := L.ci.wf
  refine Exists.intro (hI h 63) (Exists.intro (hI h 64) (Exists.intro (hI h 62 3) (And.intro L.ci (fun g c k9 => ?_))))
  have M := Md.k c k9
  have e63 := M.i (a := 63) (by decide)
  refine ⟨L.s5' M, ?_⟩
  rw [e63]
  exact ⟨L.sv M ((Hi.clr _ _).pfx hW) (Ot.up _ (by decide) _), rfl⟩

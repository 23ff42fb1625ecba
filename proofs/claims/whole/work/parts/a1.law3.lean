/-! ===== the law: more nodes made ===== -/
theorem mk_end' {h g : Hp} (L : LI h) {k wd wd' a b c x y : Int} (ok : NOk (hI h 63) k wd a b c x y) (s : Md h g (mk1 (hI h 63) k wd a b c x y).2 (svPp (hI h 64) (hI h 62 3) (hI h 63)) (svS (hI h 62 3))) (hr : (mk1 (hI h 63) k wd a b c x y).1 ≠ -1) (hb : hJ g 77 0 = i2L (mk1 (hI h 63) k wd a b c x y).1) (q : Int) (e : wd' = wd) : mkR g q k wd' a b c x y (En 0) := by
  subst e
  exact mk_end L ok s hr hb q
theorem mk_no' {h g : Hp} (L : LI h) {k wd wd' a b c x y : Int} (s : Md h g (hI h 63) (hI h 64) (hI h 62 3)) (hr : (mk1 (hI h 63) k wd a b c x y).1 = -1) (q : Int) (hq : q ≠ 0) (e : wd' = wd) : mkR g q k wd' a b c x y (En q) := by
  subst e
  exact mk_no L s hr q hq
theorem Md.x77 {h g : Hp} {w ps : Int → Int} {s : Int} (c : CI g w ps s) (k : Kp h g) (x : Int64) : Md h (rJ g 77 (up (hJ g 77) 0 x)) w ps s ∧ hJ (rJ g 77 (up (hJ g 77) 0 x)) 77 0 = x := ⟨(Md.k c k).o77 _, up_self (hJ g 77) 0 x⟩
theorem c_unary {h : Hp} (L : LI h) (k a : Int) : s_L_unary.2 [aX 0, .inl k, .inl a, aX 77] h (Pq fun x g => s_X10_unary.2 [aX 62, .inl k, .inl a] g (En x) NoX) NoX := by
  have nn := L.ci.wf.nn
  refine Exists.intro (hI h 63) (Exists.intro (hI h 64) (Exists.intro (hI h 62 3) (And.intro L.ci (And.intro (fun z => ?_) (And.intro (fun y z => ?_) (fun y z => And.intro (fun e g c k9 => ?_) (fun e g c k9 => ?_)))))))
  · have M := Md.rf L.ci
    exact ⟨L.sz M, fun _ => En.rf L M (by decide), fun a1 a2 _ => absurd ⟨a1, a2⟩ z, fun a1 a2 _ _ => absurd ⟨a1, a2⟩ z⟩
  · have M := Md.rf L.ci
    exact ⟨L.sz M, fun n => absurd y n, fun _ _ _ => En.rf L M (by decide), fun _ _ a1 a2 => absurd ⟨a1, a2⟩ z⟩
  · have M := Md.k c k9
    have e63 := M.i (a := 63) (by decide)
    exact ⟨L.sz M, fun n => absurd y n, fun _ _ n => absurd z (by rw [e63] at n; exact n), fun _ _ _ _ => mk_no' L M e 3 (by decide) (by rw [e63])⟩
  · obtain ⟨M, hb⟩ := Md.x77 c k9 (i2L (mk1 (hI h 63) k (nd (hI h 63) a 1) a (-1) (-1) (-1) (-1)).1)
    have e63 := M.i (a := 63) (by decide)
    have wa := L.ci.wf.wd z.1 z.2
    exact ⟨L.sz M, fun n => absurd y n, fun _ _ n => absurd z (by rw [e63] at n; exact n), fun _ _ _ _ => mk_end' L (Box.i ⟨by omega, by omega, fun _ => by omega, fun _ => by omega, by omega, fun q => by omega, fun q => by omega, fun q => by omega, fun q => by omega, fun q => by omega, fun q => by omega, fun q => by omega, fun q => by omega, fun q => by omega, fun q => by omega, fun q => by omega, fun q => by omega, fun q => by omega⟩) M e hb 3 (by rw [e63])⟩
theorem c_slice {h : Hp} (L : LI h) (a hi lo : Int) : s_L_slice.2 [aX 0, .inl a, .inl hi, .inl lo, aX 77] h (Pq fun x g => s_X10_slice.2 [aX 62, .inl a, .inl hi, .inl lo] g (En x) NoX) NoX := by
  have nn := L.ci.wf.nn
  refine Exists.intro (hI h 63) (Exists.intro (hI h 64) (Exists.intro (hI h 62 3) (And.intro L.ci (And.intro (fun z => ?_) (And.intro (fun z y => ?_) (fun z y => And.intro (fun e g c k9 => ?_) (fun e g c k9 => ?_)))))))
  · have M := Md.rf L.ci
    exact ⟨L.sz M, fun _ => En.rf L M (by decide), fun a1 a2 _ => absurd ⟨a1, a2⟩ z, fun a1 a2 _ _ _ => absurd ⟨a1, a2⟩ z⟩
  · have M := Md.rf L.ci
    exact ⟨L.sz M, fun n => absurd z n, fun _ _ _ => En.rf L M (by decide), fun _ _ a1 a2 a3 => absurd ⟨a1, a2, a3⟩ y⟩
  · have M := Md.k c k9
    have e63 := M.i (a := 63) (by decide)
    exact ⟨L.sz M, fun n => absurd z (by rw [e63] at n; exact n), fun _ _ n => absurd y (by rw [e63] at n; exact n), fun _ _ _ _ _ => mk_no' L M e 3 (by decide) rfl⟩
  · obtain ⟨M, hb⟩ := Md.x77 c k9 (i2L (mk1 (hI h 63) 21 (hi - lo + 1) a (-1) (-1) hi lo).1)
    have e63 := M.i (a := 63) (by decide)
    have wa := L.ci.wf.wd z.1 z.2
    exact ⟨L.sz M, fun n => absurd z (by rw [e63] at n; exact n), fun _ _ n => absurd y (by rw [e63] at n; exact n), fun _ _ _ _ _ => mk_end' L (Box.i ⟨by omega, by omega, fun _ => by omega, fun _ => by omega, by omega, fun q => by omega, fun q => by omega, fun q => by omega, fun q => by omega, fun q => by omega, fun q => by omega, fun q => by omega, fun q => by omega, fun q => by omega, fun q => by omega, fun q => by omega, fun q => by omega, fun q => by omega⟩) M e hb 3 rfl⟩
theorem c_extend {h : Hp} (L : LI h) (a wd gg : Int) : s_L_extend.2 [aX 0, .inl a, .inl wd, .inl gg, aX 77] h (Pq fun x g => s_X10_extend.2 [aX 62, .inl a, .inl wd, .inl gg] g (En x) NoX) NoX := by
  have nn := L.ci.wf.nn
  refine Exists.intro (hI h 63) (Exists.intro (hI h 64) (Exists.intro (hI h 62 3) (And.intro L.ci (And.intro (fun z => ?_) (And.intro (fun z y => ?_) (fun z y => And.intro (fun e g c k9 => ?_) (fun e g c k9 => ?_)))))))
  · have M := Md.rf L.ci
    exact ⟨L.sz M, fun _ => En.rf L M (by decide), fun a1 a2 _ => absurd ⟨a1, a2⟩ z, fun a1 a2 _ _ => absurd ⟨a1, a2⟩ z⟩
  · have M := Md.rf L.ci
    exact ⟨L.sz M, fun n => absurd z n, fun _ _ _ => En.rf L M (by decide), fun _ _ a1 a2 => absurd ⟨a1, a2⟩ y⟩
  · have M := Md.k c k9
    have e63 := M.i (a := 63) (by decide)
    refine ⟨L.sz M, fun n => absurd z (by rw [e63] at n; exact n), fun _ _ n => absurd y (by rw [e63] at n; exact n), fun _ _ _ _ => ⟨fun q => ?_, fun q => ?_⟩⟩
    · rw [if_neg q] at e
      exact mk_no' L M e 3 (by decide) rfl
    · rw [if_pos q] at e
      exact mk_no' L M e 3 (by decide) rfl
  · obtain ⟨M, hb⟩ := Md.x77 c k9 (i2L (mk1 (hI h 63) (if gg = 0 then 22 else 23) wd a (-1) (-1) (-1) (-1)).1)
    have e63 := M.i (a := 63) (by decide)
    have wa := L.ci.wf.wd z.1 z.2
    refine ⟨L.sz M, fun n => absurd z (by rw [e63] at n; exact n), fun _ _ n => absurd y (by rw [e63] at n; exact n), fun _ _ _ _ => ⟨fun q => ?_, fun q => ?_⟩⟩
    · have q' : (if gg = 0 then (22 : Int) else 23) = 23 := if_neg q
      have ok : NOk (hI h 63) 23 wd a (-1) (-1) (-1) (-1) := Box.i ⟨by omega, by omega, fun _ => by omega, fun _ => by omega, by omega, fun q => by omega, fun q => by omega, fun q => by omega, fun q => by omega, fun q => by omega, fun q => by omega, fun q => by omega, fun q => by omega, fun q => by omega, fun q => by omega, fun q => by omega, fun q => by omega, fun q => by omega⟩
      exact mk_end' L ok (by rw [q'] at M; rw [q']; exact M) (by rw [q'] at e; exact e) (by rw [q'] at hb; rw [q']; exact hb) 3 rfl
    · have q' : (if gg = 0 then (22 : Int) else 23) = 22 := if_pos q
      have ok : NOk (hI h 63) 22 wd a (-1) (-1) (-1) (-1) := Box.i ⟨by omega, by omega, fun _ => by omega, fun _ => by omega, by omega, fun q => by omega, fun q => by omega, fun q => by omega, fun q => by omega, fun q => by omega, fun q => by omega, fun q => by omega, fun q => by omega, fun q => by omega, fun q => by omega, fun q => by omega, fun q => by omega, fun q => by omega⟩
      exact mk_end' L ok (by rw [q'] at M; rw [q']; exact M) (by rw [q'] at e; exact e) (by rw [q'] at hb; rw [q']; exact hb) 3 rfl
theorem c_choice {h : Hp} (L : LI h) (a b d : Int) : s_L_choice.2 [aX 0, .inl a, .inl b, .inl d, aX 77] h (Pq fun x g => s_X10_choice.2 [aX 62, .inl a, .inl b, .inl d] g (En x) NoX) NoX := by
  have nn := L.ci.wf.nn
  refine Exists.intro (hI h 63) (Exists.intro (hI h 64) (Exists.intro (hI h 62 3) (And.intro L.ci (And.intro (fun z => ?_) (And.intro (fun z y => ?_) (fun z y => And.intro (fun e g c k9 => ?_) (fun e g c k9 => ?_)))))))
  · have M := Md.rf L.ci
    exact ⟨L.sz M, fun _ => En.rf L M (by decide), fun a1 _ => absurd a1 z, fun a1 _ => absurd a1 z⟩
  · have M := Md.rf L.ci
    exact ⟨L.sz M, fun n => absurd z n, fun _ _ => En.rf L M (by decide), fun _ a1 => absurd a1 y⟩
  · have M := Md.k c k9
    have e63 := M.i (a := 63) (by decide)
    exact ⟨L.sz M, fun n => absurd z (by rw [e63] at n; exact n), fun _ n => absurd y (by rw [e63] at n; exact n), fun _ _ => mk_no' L M e 2 (by decide) (by rw [e63])⟩
  · obtain ⟨M, hb⟩ := Md.x77 c k9 (i2L (mk1 (hI h 63) 24 (nd (hI h 63) b 1) a b d (-1) (-1)).1)
    have e63 := M.i (a := 63) (by decide)
    have wb := L.ci.wf.wd z.2.2.1 z.2.2.2.1
    exact ⟨L.sz M, fun n => absurd z (by rw [e63] at n; exact n), fun _ n => absurd y (by rw [e63] at n; exact n), fun _ _ => mk_end' L (Box.i ⟨by omega, by omega, fun _ => by omega, fun _ => by omega, by omega, fun q => by omega, fun q => by omega, fun q => by omega, fun q => by omega, fun q => by omega, fun q => by omega, fun q => by omega, fun q => by omega, fun q => by omega, fun q => by omega, fun q => by omega, fun q => by omega, fun q => by omega⟩) M e hb 2 (by rw [e63])⟩

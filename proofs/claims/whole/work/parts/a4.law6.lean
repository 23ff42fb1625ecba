/-! ===== the law: values, variables, pairs, undo, the digest ===== -/
theorem Mets.un {w f f' : Int → Int} {n m : Int} (a : Mets w n f m) (b : Mets w n f' m) {v : Int} (v0 : 0 ≤ v) (v1 : v < 256) : f v = f' v := by
  rcases a.o v v0 v1 with ⟨a1, a2⟩ | ⟨a1, N, n0, n1, n2, n3⟩ <;> rcases b.o v v0 v1 with ⟨b1, b2⟩ | ⟨b1, M, m0, m1, m2, m3⟩
  · rw [a1, b1]
  · exact absurd m3 (a2 M m0 m1 m2)
  · exact absurd n3 (b2 N n0 n1 n2)
  · rw [a1, b1]
theorem smF_un {f f' : Int → Int} : ∀ k : Nat, (∀ v, 0 ≤ v → v < (k : Int) → f v = f' v) → smF f k = smF f' k := by
  intro k
  induction k with
  | zero => intro _; rfl
  | succ k ih => intro h; rw [smF_s, smF_s, ih fun v a b => h v a (by omega), h k (by omega) (by omega)]
theorem kth_un {w f f' : Int → Int} {n m : Int} (a : Mets w n f m) (b : Mets w n f' m) (k : Int) : kthW f k = kthW f' k := by
  unfold kthW
  refine fst_congr fun j j0 j1 => ?_
  show decide (f j = 1 ∧ smF f j.toNat = k) = decide (f' j = 1 ∧ smF f' j.toNat = k)
  rw [a.un b j0 (by omega), smF_un (f := f) (f' := f') j.toNat fun v v0 v1 => a.un b v0 (by omega)]
theorem LI.sc70 {h g : Hp} (L : LI h) (M : Md h g (hI h 63) (hI h 64) (hI h 62 3)) {f F a b c : Int → Int} (z : Fz (up (hI g 62) 4 0) F) (fr : FR (hI g 63) F c) {x : Int} (hb : hJ g 77 0 = i2L x) : En 0 (some (.inl x)) (CWordSolverLaw_law_r9643_f7b4c7.sc (rI (rfH g 0) 70 f) F a b c) := by
  have e62 := M.i (a := 62) (by decide)
  have e63 := M.i (a := 63) (by decide)
  obtain ⟨z0, zz⟩ := z.o
  refine ⟨L.sc M (((Cl.rf g).rf' 0).rI (by decide) _) (fun a a1 _ a2 => by rw [hI_rI', if_neg a2]; show hI (rI g 62 _) a = _; rw [hI_rI', if_neg a1]) ?_ ?_ (by rw [← e63]; exact fr), ?_, fun _ => hb⟩
  · rw [zz 3 (by decide) (by decide), up_ne (by decide), e62]
  · rw [zz 6 (by decide) (by decide), up_ne (by decide), e62]
  · show F 4 = 0
    rw [zz 4 (by decide) (by decide), up_self]
theorem c_values {h : Hp} (L : LI h) (n l : Int) : s_L_values.2 [aX 0, .inl n, .inl l, aX 77] h (Pq fun c g => s_X10_values.2 [aX 62, .inl n, .inl l] g (En c) NoX) NoX := by
  refine Exists.intro (hI h 63) (Exists.intro (hI h 64) (Exists.intro (hI h 62 3) (And.intro L.ci (And.intro (fun z => ?_) (And.intro (fun z y => ?_) (fun z y f hf g c k9 => ?_))))))
  · have M := Md.rf L.ci
    exact ⟨(L.wf' M).1, (L.wf' M).2, fun _ => En.rf L M (by decide), fun a => absurd a z, fun a => absurd a z⟩
  · have M := Md.rf L.ci
    exact ⟨(L.wf' M).1, (L.wf' M).2, fun a => absurd z a, fun _ _ => En.rf L M (by decide), fun _ a => absurd a y⟩
  · obtain ⟨M, hb⟩ := Md.x77 c k9 (i2L (if smF f 256 < l then smF f 256 else l))
    have e63 := M.i (a := 63) (by decide)
    refine ⟨(L.wf' M).1, (L.wf' M).2, fun a => absurd z (by rw [e63] at a; exact a), fun _ a => absurd y a, fun _ _ f' F a b d hf' fz fr => L.sc70 M fz fr ?_⟩
    rw [e63] at hf'
    rw [hb, smF_un (f := f) (f' := f') 256 fun v v0 v1 => hf.un hf' v0 v1]
theorem c_valueAt {h : Hp} (L : LI h) (n k : Int) : s_L_valueAt.2 [aX 0, .inl n, .inl k, aX 77] h (Pq fun c g => s_X10_valueAt.2 [aX 62, .inl n, .inl k] g (En c) NoX) NoX := by
  refine Exists.intro (hI h 63) (Exists.intro (hI h 64) (Exists.intro (hI h 62 3) (And.intro L.ci (And.intro (fun z => ?_) (And.intro (fun z y => ?_) (fun z y f hf g c k9 => ?_))))))
  · have M := Md.rf L.ci
    exact ⟨(L.wf' M).1, (L.wf' M).2, fun _ => En.rf L M (by decide), fun a => absurd a z⟩
  · obtain ⟨M, hb⟩ := Md.x77 L.ci (Kp.rf h) (i2L (-1))
    have e63 := M.i (a := 63) (by decide)
    refine ⟨(L.wf' M).1, (L.wf' M).2, fun a => absurd z (by rw [e63] at a; exact a), fun _ f' F a b d hf' fz fr => L.sc70 M fz fr ?_⟩
    unfold kth
    rw [if_neg y]
    exact hb
  · obtain ⟨M, hb⟩ := Md.x77 c k9 (i2L (kthW f k))
    have e63 := M.i (a := 63) (by decide)
    refine ⟨(L.wf' M).1, (L.wf' M).2, fun a => absurd z (by rw [e63] at a; exact a), fun _ f' F a b d hf' fz fr => L.sc70 M fz fr ?_⟩
    rw [e63] at hf'
    unfold kth
    rw [if_pos y, hb, kth_un hf hf']
    rfl
theorem Ot.varN {w : Int → Int} (wd : Int) (h0 : 0 ≤ w 0) (hc : w 0 < 40) (v0 : 0 ≤ w 281) (v4 : w 281 < 4) : Ot w (CWordSolverLaw_law_r9643_f7b4c7.varN w wd) := Box.i fun j hj => (varN_f wd h0 hc v0 v4).2.2.2.2.1 j (by omega) (by omega) (by omega)
theorem c_variable {h : Hp} (L : LI h) (wd : Int) : s_L_variable.2 [aX 0, .inl wd, aX 77] h (Pq fun c g => s_X10_variable.2 [aX 62, .inl wd] g (En c) NoX) NoX := by
  have hW := L.ci.wf
  have nn := hW.nn
  have vn := hW.vn
  have sl := (sumW_le hW.vz (j := (hI h 63 281).toNat) (hI h 63 281).toNat (Nat.le_refl _) (by omega)).1
  have P : ∀ g, hI g 63 = hI h 63 → hI g 62 = hI h 62 → (0 ≤ hI g 63 0 ∧ hI g 63 0 ≤ 40 ∧ 0 ≤ hI g 62 3 ∧ hI g 62 3 ≤ 5 ∧ Vz (hI g 63) ∧ 0 ≤ sumW (hI g 63) (hI g 63 281).toNat ∧ sumW (hI g 63) (hI g 63 281).toNat ≤ 16 ∧ found (hI g 63) 1 wd (-1) (-1) (-1) (hI g 63 281) (-1) = -1) := fun g e1 e2 => by
    rw [e1, e2]
    exact ⟨nn.1, nn.2, L.ci.s5.1, L.ci.s5.2, hW.vz, sl, hW.s16, var_nf hW wd⟩
  refine Exists.intro (hI h 63) (Exists.intro (hI h 64) (Exists.intro (hI h 62 3) (And.intro L.ci (And.intro (fun z => ?_) (And.intro (fun z y g c k9 => ?_) (fun z y g c k9 => ?_))))))
  · have M := Md.rf L.ci
    exact ⟨P h rfl rfl, fun _ => En.rf L M (by decide), fun a => absurd a z, fun a => absurd a z⟩
  · have M := Md.k c k9
    have e63 := M.i (a := 63) (by decide)
    exact ⟨P g e63 (M.i (a := 62) (by decide)), fun a => absurd z a, fun _ _ => En.rf L M (by decide), fun _ a => absurd y (by rw [e63] at a; exact a)⟩
  · obtain ⟨M, hb⟩ := Md.x77 c k9 (i2L (hI h 63 0))
    have e63 := M.i (a := 63) (by decide)
    refine ⟨P _ e63 (M.i (a := 62) (by decide)), fun a => absurd z a, fun _ a => absurd (by rw [e63] at a; exact a) y, fun _ _ => ?_⟩
    rw [e63]
    exact En.sv L M (Pfx.varN hW (by omega) (by omega)) (Ot.varN wd nn.1 (by omega) vn.1 (by omega)) hb
theorem c_binary {h : Hp} (L : LI h) (k a b : Int) : s_L_binary.2 [aX 0, .inl k, .inl a, .inl b, aX 77] h (Pq fun c g => s_X10_binary.2 [aX 62, .inl k, .inl a, .inl b] g (En c) NoX) NoX := by
  have hW := L.ci.wf
  have nn := hW.nn
  have ft : bFit (hI h 63) k a b ↔ ((k = 18 ∧ nd (hI h 63) a 1 + nd (hI h 63) b 1 ≤ 8) ∨ (k ≠ 18 ∧ nd (hI h 63) a 1 = nd (hI h 63) b 1)) := Iff.rfl
  have bw : bW (hI h 63) k a b = if k = 18 then nd (hI h 63) a 1 + nd (hI h 63) b 1 else if 13 ≤ k then 1 else nd (hI h 63) a 1 := rfl
  refine Exists.intro (hI h 63) (Exists.intro (hI h 64) (Exists.intro (hI h 62 3) (And.intro L.ci (And.intro (fun z => ?_) (And.intro (fun z y => ?_) (And.intro (fun z y x => ?_) (fun z y x => And.intro (fun e g c k9 => ?_) (fun e g c k9 => ?_))))))))
  · have M := Md.rf L.ci
    exact ⟨L.sz M, fun _ => En.rf L M (by decide), fun q => absurd q z, fun q => absurd ⟨q.1, q.2.1⟩ z, fun q => absurd (by omega) z, fun q => absurd (by omega) z, fun q => absurd (by omega) z⟩
  · have M := Md.rf L.ci
    exact ⟨L.sz M, fun q => absurd z q, fun _ _ => En.rf L M (by decide), fun q => absurd q.2.2 y, fun q => absurd ⟨q.2.1, q.2.2.1, q.2.2.2.1, q.2.2.2.2.1⟩ y, fun q => absurd ⟨q.2.2.1, q.2.2.2.1, q.2.2.2.2.1, q.2.2.2.2.2.1⟩ y, fun q => absurd ⟨q.2.2.1, q.2.2.2.1, q.2.2.2.2.1, q.2.2.2.2.2.1⟩ y⟩
  · have M := Md.rf L.ci
    exact ⟨L.sz M, fun q => absurd z q, fun _ q => absurd y q, fun _ _ => En.rf L M (by decide), fun q => absurd (ft.mpr (Or.inl ⟨q.1, q.2.2.2.2.2⟩)) x, fun q => absurd (ft.mpr (Or.inr ⟨by omega, q.2.2.2.2.2.2⟩)) x, fun q => absurd (ft.mpr (Or.inr ⟨by omega, q.2.2.2.2.2.2⟩)) x⟩
  · have M := Md.k c k9
    have e63 := M.i (a := 63) (by decide)
    refine ⟨L.sz M, fun q => absurd z q, fun _ q => absurd y (by rw [e63] at q; exact q), fun _ q => absurd (ft.mp x) (by rw [e63] at q; exact q), fun q => mk_no' L M e 3 (by decide) ?_, fun q => mk_no' L M e 3 (by decide) ?_, fun q => mk_no' L M e 3 (by decide) ?_⟩
    · rw [e63, bw, if_pos q.1]
    · rw [bw, if_neg (by omega), if_pos q.1]
    · rw [e63, bw, if_neg (by omega), if_neg (by omega)]
  · obtain ⟨M, hb⟩ := Md.x77 c k9 (i2L (mk1 (hI h 63) k (bW (hI h 63) k a b) a b (-1) (-1) (-1)).1)
    have e63 := M.i (a := 63) (by decide)
    have wa := hW.wd y.1 y.2.1
    have wb := hW.wd y.2.2.1 y.2.2.2
    have x' := ft.mp x
    have hbw : (k = 18 ∧ bW (hI h 63) k a b = nd (hI h 63) a 1 + nd (hI h 63) b 1) ∨ (13 ≤ k ∧ k ≠ 18 ∧ bW (hI h 63) k a b = 1) ∨ (k < 13 ∧ bW (hI h 63) k a b = nd (hI h 63) a 1) := by
      rw [bw]
      split
      · omega
      · split <;> omega
    have ok : NOk (hI h 63) k (bW (hI h 63) k a b) a b (-1) (-1) (-1) := Box.i ⟨by omega, by omega, fun _ => by omega, fun _ => by omega, by omega, fun q => by omega, fun q => by omega, fun q => by omega, fun q => by omega, fun q => by omega, fun q => by omega, fun q => by omega, fun q => by omega, fun q => by omega, fun q => by omega, fun q => by omega, fun q => by omega, fun q => by omega⟩
    refine ⟨L.sz M, fun q => absurd z q, fun _ q => absurd y (by rw [e63] at q; exact q), fun _ q => absurd x' (by rw [e63] at q; exact q), fun q => mk_end' L ok M e hb 3 ?_, fun q => mk_end' L ok M e hb 3 ?_, fun q => mk_end' L ok M e hb 3 ?_⟩
    · rw [e63, bw, if_pos q.1]
    · rw [bw, if_neg (by omega), if_pos q.1]
    · rw [e63, bw, if_neg (by omega), if_neg (by omega)]

/-! ===== the law: searches ===== -/
theorem c_satisfiable {h : Hp} (L : LI h) : s_X9_satisfiable.2 [aX 0] h (Pq fun x g => s_X10_satisfiable.2 [aX 62] g (Ee x) NoX) NoX := by
  refine Exists.intro (hI h 63) (Exists.intro (hI h 64) (Exists.intro (hI h 62 3) (And.intro L.ci (And.intro (fun z g c k9 => ?_) (fun z g c k9 => ?_)))))
  · have M := Md.k c k9
    have e63 := M.i (a := 63) (by decide)
    exact ⟨(L.wf' M).1, (L.wf' M).2, fun _ F a b d fz fr => ⟨(L.scz (a := a) (b := b) M fz fr).1, rfl⟩, fun q => absurd z (by rw [e63] at q; exact q)⟩
  · have M := Md.k c k9
    have e63 := M.i (a := 63) (by decide)
    exact ⟨(L.wf' M).1, (L.wf' M).2, fun q => absurd (by rw [e63] at q; exact q) z, fun _ F a b d fz fr => ⟨(L.scz (a := a) (b := b) M fz fr).1, rfl⟩⟩
theorem c_witness {h : Hp} (L : LI h) (v : Int) : s_L_witness.2 [aX 0, .inl v, aX 77] h (Pq fun c g => s_X10_witness.2 [aX 62, .inl v] g (En c) NoX) NoX := by
  refine Exists.intro (hI h 63) (Exists.intro (hI h 64) (Exists.intro (hI h 62 3) (And.intro L.ci (And.intro (fun z => ?_) (fun z g c k9 => ?_)))))
  · have M := Md.rf L.ci
    exact ⟨(L.wf' M).1, (L.wf' M).2, fun _ => En.rf L M (by decide), fun q => absurd q z⟩
  · obtain ⟨M, hb⟩ := Md.x77 c k9 (i2L (wrd (hI h 63) (nxt (hI h 63) 0) v))
    have e63 := M.i (a := 63) (by decide)
    exact ⟨(L.wf' M).1, (L.wf' M).2, fun q => absurd z (by rw [e63] at q; exact q), fun _ F a b d fz fr => En.sc L M fz fr (by rw [hb, e63])⟩
theorem c_models {h : Hp} (L : LI h) (l : Int) : s_L_models.2 [aX 0, .inl l, aX 77] h (Pq fun c g => s_X10_models.2 [aX 62, .inl l] g (En c) NoX) NoX := by
  refine Exists.intro (hI h 63) (Exists.intro (hI h 64) (Exists.intro (hI h 62 3) (And.intro L.ci (And.intro (fun z => ?_) (fun z g c k9 => ?_)))))
  · have M := Md.rf L.ci
    exact ⟨(L.wf' M).1, (L.wf' M).2, fun _ => En.rf L M (by decide), fun q => absurd q z⟩
  · obtain ⟨M, hb⟩ := Md.x77 c k9 (i2L (if cntB (mdl (hI h 63)) (tot (hI h 63)).toNat < l then cntB (mdl (hI h 63)) (tot (hI h 63)).toNat else l))
    have e63 := M.i (a := 63) (by decide)
    exact ⟨(L.wf' M).1, (L.wf' M).2, fun q => absurd z q, fun _ F a b d fz fr => En.sc L M fz fr (by rw [hb, e63])⟩
theorem c_fixed {h : Hp} (L : LI h) (n gg : Int) : s_L_fixed.2 [aX 0, .inl n, .inl gg, aX 77] h (Pq fun c g => s_X10_fixed.2 [aX 62, .inl n, .inl gg] g (En c) NoX) NoX := by
  refine Exists.intro (hI h 63) (Exists.intro (hI h 64) (Exists.intro (hI h 62 3) (And.intro L.ci (And.intro (fun z => ?_) (And.intro (fun z y g c k9 => ?_) (And.intro (fun z y u g c k9 => ?_) (fun z y u g c k9 => ?_)))))))
  · have M := Md.rf L.ci
    exact ⟨(L.wf' M).1, (L.wf' M).2, fun _ => En.rf L M (by decide), fun q => absurd q z, fun q => absurd q z, fun q => absurd q z⟩
  · obtain ⟨M, hb⟩ := Md.x77 c k9 (i2L (-1))
    have e63 := M.i (a := 63) (by decide)
    exact ⟨(L.wf' M).1, (L.wf' M).2, fun q => absurd z (by rw [e63] at q; exact q), fun _ _ F a b d fz fr => En.sc L M fz fr hb, fun _ q => absurd y (by rw [e63] at q; exact q), fun _ q => absurd y (by rw [e63] at q; exact q)⟩
  · obtain ⟨M, hb⟩ := Md.x77 c k9 (i2L (fxA (hI h 63) n (tot (hI h 63)).toNat))
    have e63 := M.i (a := 63) (by decide)
    exact ⟨(L.wf' M).1, (L.wf' M).2, fun q => absurd z (by rw [e63] at q; exact q), fun _ q => absurd (by rw [e63] at q; exact q) y, fun _ _ _ F a b d fz fr => En.sc L M fz fr (by rw [hb, e63]), fun _ _ q => absurd q u⟩
  · obtain ⟨M, hb⟩ := Md.x77 c k9 (i2L (bAnd (p2 (nd (hI h 63) n 1) - 1) (bXor (bXor (fxA (hI h 63) n (tot (hI h 63)).toNat) (fxO (hI h 63) n (tot (hI h 63)).toNat)) (-1))))
    have e63 := M.i (a := 63) (by decide)
    exact ⟨(L.wf' M).1, (L.wf' M).2, fun q => absurd z (by rw [e63] at q; exact q), fun _ q => absurd (by rw [e63] at q; exact q) y, fun _ _ q => absurd u q, fun _ _ _ F a b d fz fr => En.sc L M fz fr (by rw [hb, e63])⟩
/-- one best: the search's order tells which -/
theorem isB_un' {P : Int → Bool} {g : Int → Int} {m r r' : Int} (h : isB P g m r) (h' : isB P g m r') : r = r' := isB_un h h' fun _ _ _ _ => Iff.rfl
theorem isB_at (P : Int → Bool) (g : Int → Int) : ∀ m : Nat, ∃ r, isB P g (m : Int) r := by
  intro m
  induction m with
  | zero => exact ⟨-1, isB_0 P g⟩
  | succ m ih =>
    obtain ⟨r, hr⟩ := ih
    rw [show ((m + 1 : Nat) : Int) = (m : Int) + 1 by omega]
    cases p : P (m : Int) with
    | false =>
      exact ⟨r, isB_gap hr (by omega) fun N a b c => by rw [show N = (m : Int) by omega]; exact p⟩
    | true =>
      by_cases e : r = -1
      · exact ⟨m, isB_new hr (by omega) p (Or.inl e)⟩
      · by_cases y : g r < g m
        · exact ⟨m, isB_new hr (by omega) p (Or.inr y)⟩
        · exact ⟨r, isB_keep hr (by omega) e (by omega)⟩
theorem isB_tot {w : Int → Int} (hW : WF w) (P : Int → Bool) (g : Int → Int) : ∃ r, isB P g (tot w) r := by
  have t := tot_rng hW
  have q := isB_at P g (tot w).toNat
  rw [show (((tot w).toNat : Nat) : Int) = tot w by omega] at q
  exact q
theorem c_extreme {h : Hp} (L : LI h) (n gr sg : Int) : s_L_extreme.2 [aX 0, .inl n, .inl gr, .inl sg, aX 77] h (Pq fun c g => s_X10_extreme.2 [aX 62, .inl n, .inl gr, .inl sg] g (En c) NoX) NoX := by
  refine Exists.intro (hI h 63) (Exists.intro (hI h 64) (Exists.intro (hI h 62 3) (And.intro L.ci (And.intro (fun z => ?_) (And.intro (fun z y g c k9 => ?_) (fun z y r hr g c k9 => ?_))))))
  · have M := Md.rf L.ci
    exact ⟨(L.wf' M).1, (L.wf' M).2, fun _ => En.rf L M (by decide), fun q => absurd q z, fun q => absurd q z⟩
  · have M := Md.k c k9
    have e63 := M.i (a := 63) (by decide)
    have e62 := M.i (a := 62) (by decide)
    refine ⟨(L.wf' M).1, (L.wf' M).2, fun q => absurd z (by rw [e63] at q; exact q), fun _ _ F a b d fz fr => ?_, fun _ q => absurd y (by rw [e63] at q; exact q)⟩
    obtain ⟨f0, ff⟩ := fz.o
    refine ⟨L.sc M (Cl.rf g) (fun _ _ _ _ => rfl) ?_ ?_ (by rw [← e63]; exact fr), up_self F 4 2, fun q => absurd q (by decide)⟩
    · rw [up_ne (by decide), ff 3 (by decide) (by decide), e62]
    · rw [up_ne (by decide), ff 6 (by decide) (by decide), e62]
  · obtain ⟨M, hb⟩ := Md.x77 c k9 (i2L (gV (hI h 63) n sg r))
    have e63 := M.i (a := 63) (by decide)
    have e62 := M.i (a := 62) (by decide)
    refine ⟨(L.wf' M).1, (L.wf' M).2, fun q => absurd z (by rw [e63] at q; exact q), fun _ q => absurd (by rw [e63] at q; exact q) y, fun _ _ r' F a b d hr' fz fr => ?_⟩
    rw [e63] at hr' fr ⊢
    have er := isB_un' hr hr'
    subst er
    obtain ⟨f0, ff⟩ := fz.o
    refine ⟨L.sc M (Cl.rf _) (fun _ _ _ _ => rfl) ?_ ?_ fr, ?_, fun _ => hb⟩
    · rw [ff 3 (by decide) (by decide), up_ne (by decide), e62]
    · rw [ff 6 (by decide) (by decide), up_ne (by decide), e62]
    · show F 4 = 0
      rw [ff 4 (by decide) (by decide), up_self]
theorem c_extremeWitness {h : Hp} (L : LI h) (n gr v : Int) : s_L_extremeWitness.2 [aX 0, .inl n, .inl gr, .inl v, aX 77] h (Pq fun c g => s_X10_extremeWitness.2 [aX 62, .inl n, .inl gr, .inl v] g (En c) NoX) NoX := by
  refine Exists.intro (hI h 63) (Exists.intro (hI h 64) (Exists.intro (hI h 62 3) (And.intro L.ci (And.intro (fun z => ?_) (fun z r hr g c k9 => ?_)))))
  · have M := Md.rf L.ci
    exact ⟨(L.wf' M).1, (L.wf' M).2, fun _ => En.rf L M (by decide), fun q => absurd q z⟩
  · obtain ⟨M, hb⟩ := Md.x77 c k9 (i2L (wrd (hI h 63) r v))
    have e63 := M.i (a := 63) (by decide)
    refine ⟨(L.wf' M).1, (L.wf' M).2, fun q => absurd z (by rw [e63] at q; exact q), fun _ r' F a b d hr' fz fr => En.sc L M fz fr ?_⟩
    rw [e63] at hr' ⊢
    rw [hb, isB_un' hr hr']
theorem c_gain {h : Hp} (L : LI h) : s_X9_gain.2 [aX 0] h (Pq fun x g => s_X10_gain.2 [aX 62] g (Ee x) NoX) NoX := by
  refine Exists.intro (hI h 63) (Exists.intro (hI h 64) (Exists.intro (hI h 62 3) (And.intro L.ci (fun r hr g c k9 => ?_))))
  have M := Md.k c k9
  have e63 := M.i (a := 63) (by decide)
  have e62 := M.i (a := 62) (by decide)
  refine ⟨(L.wf' M).1, (L.wf' M).2, fun r' F a b d hr' fm fr => ?_⟩
  rw [e63] at hr' fr ⊢
  obtain ⟨f0, f1, ff⟩ := fm.o
  refine ⟨L.sc M ((Cl.rf g).rf' 0) (fun a a1 _ _ => by show hI (rI g 62 _) a = _; rw [hI_rI', if_neg a1]) ?_ ?_ fr, by rw [isB_un' hr hr']⟩
  · rw [ff 3 (by decide) (by decide) (by decide), up_ne (by decide), e62]
  · rw [ff 6 (by decide) (by decide) (by decide), up_ne (by decide), e62]
theorem c_bestWitness {h : Hp} (L : LI h) (v : Int) : s_L_bestWitness.2 [aX 0, .inl v, aX 77] h (Pq fun c g => s_X10_bestWitness.2 [aX 62, .inl v] g (En c) NoX) NoX := by
  refine Exists.intro (hI h 63) (Exists.intro (hI h 64) (Exists.intro (hI h 62 3) (And.intro L.ci (And.intro (fun z => ?_) (fun z r hr g c k9 => ?_)))))
  · have M := Md.rf L.ci
    exact ⟨(L.wf' M).1, (L.wf' M).2, fun _ => En.rf L M (by decide), fun q => absurd q z⟩
  · obtain ⟨M, hb⟩ := Md.x77 c k9 (i2L (wrd (hI h 63) r v))
    have e63 := M.i (a := 63) (by decide)
    have e62 := M.i (a := 62) (by decide)
    refine ⟨(L.wf' M).1, (L.wf' M).2, fun q => absurd z (by rw [e63] at q; exact q), fun _ r' F a b d hr' fm fr => ?_⟩
    rw [e63] at hr' fr ⊢
    obtain ⟨f0, f1, ff⟩ := fm.o
    refine ⟨L.sc M ((Cl.rf _).rf' 0) (fun a a1 _ _ => by show hI (rI (rJ g 77 _) 62 _) a = _; rw [hI_rI', if_neg a1]) ?_ ?_ fr, ?_, fun _ => hb.trans (by rw [isB_un' hr hr'])⟩
    · rw [ff 3 (by decide) (by decide) (by decide), up_ne (by decide), e62]
    · rw [ff 6 (by decide) (by decide) (by decide), up_ne (by decide), e62]
    · show F 4 = 0
      rw [ff 4 (by decide) (by decide) (by decide), up_self]
theorem c_core {h : Hp} (L : LI h) : s_X9_core.2 [aX 0] h (Pq fun x g => s_X10_core.2 [aX 62] g (Ee x) NoX) NoX := by
  refine Exists.intro (hI h 63) (Exists.intro (hI h 64) (Exists.intro (hI h 62 3) (And.intro L.ci (And.intro (fun z g c k9 => ?_) (fun z g c k9 => ?_)))))
  · have M := Md.k c k9
    have e63 := M.i (a := 63) (by decide)
    exact ⟨(L.wf' M).1, (L.wf' M).2, fun _ F a b d fz fr => ⟨(L.scz (a := a) (b := b) M fz fr).1, rfl⟩, fun q => absurd (by rw [e63] at q; exact q) z⟩
  · have M := Md.k c k9
    have e63 := M.i (a := 63) (by decide)
    exact ⟨(L.wf' M).1, (L.wf' M).2, fun q => absurd z (by rw [e63] at q; exact q), fun _ F a b d fz fr => ⟨(L.scz (a := a) (b := b) M fz fr).1, by rw [e63]⟩⟩
theorem c_equivalent {h : Hp} (L : LI h) (p q : Int) : s_L_equivalent.2 [aX 0, .inl p, .inl q, aX 77] h (Pq fun c g => s_X10_equivalent.2 [aX 62, .inl p, .inl q] g (En c) NoX) NoX := by
  refine Exists.intro (hI h 63) (Exists.intro (hI h 64) (Exists.intro (hI h 62 3) (And.intro L.ci (And.intro (fun z => ?_) (And.intro (fun z y => ?_) (And.intro (fun z y u g c k9 => ?_) (fun z y u g c k9 => ?_)))))))
  · have M := Md.rf L.ci
    exact ⟨(L.wf' M).1, (L.wf' M).2, fun _ => En.rf L M (by decide), fun a => absurd a z, fun a => absurd a z⟩
  · have M := Md.rf L.ci
    exact ⟨(L.wf' M).1, (L.wf' M).2, fun a => absurd z a, fun _ _ => En.rf L M (by decide), fun _ a => absurd a y⟩
  · obtain ⟨M, hb⟩ := Md.x77 c k9 1
    have e63 := M.i (a := 63) (by decide)
    exact ⟨(L.wf' M).1, (L.wf' M).2, fun a => absurd z (by rw [e63] at a; exact a), fun _ a => absurd y (by rw [e63] at a; exact a), fun _ _ F a b d fz fr => ⟨fun _ => En.sc L M fz fr (by rw [hb, dc_1]), fun a => absurd u (by rw [e63] at a; exact a)⟩⟩
  · obtain ⟨M, hb⟩ := Md.x77 c k9 0
    have e63 := M.i (a := 63) (by decide)
    exact ⟨(L.wf' M).1, (L.wf' M).2, fun a => absurd z (by rw [e63] at a; exact a), fun _ a => absurd y (by rw [e63] at a; exact a), fun _ _ F a b d fz fr => ⟨fun a => absurd (by rw [e63] at a; exact a) u, fun _ => En.sc L M fz fr (by rw [hb, dc_0])⟩⟩
theorem c_counterexample {h : Hp} (L : LI h) (p q v : Int) : s_L_counterexample.2 [aX 0, .inl p, .inl q, .inl v, aX 77] h (Pq fun c g => s_X10_counterexample.2 [aX 62, .inl p, .inl q, .inl v] g (En c) NoX) NoX := by
  refine Exists.intro (hI h 63) (Exists.intro (hI h 64) (Exists.intro (hI h 62 3) (And.intro L.ci (And.intro (fun z => ?_) (And.intro (fun z y => ?_) (fun z y g c k9 => ?_))))))
  · have M := Md.rf L.ci
    exact ⟨(L.wf' M).1, (L.wf' M).2, fun _ => En.rf L M (by decide), fun a => absurd a z, fun a => absurd a z⟩
  · have M := Md.rf L.ci
    exact ⟨(L.wf' M).1, (L.wf' M).2, fun a => absurd z a, fun _ _ => En.rf L M (by decide), fun _ a => absurd a y⟩
  · obtain ⟨M, hb⟩ := Md.x77 c k9 (i2L (wrd (hI h 63) (dfM (hI h 63) p q) v))
    have e63 := M.i (a := 63) (by decide)
    exact ⟨(L.wf' M).1, (L.wf' M).2, fun a => absurd z (by rw [e63] at a; exact a), fun _ a => absurd y (by rw [e63] at a; exact a), fun _ _ F a b d fz fr => En.sc L M fz fr (by rw [hb, e63])⟩

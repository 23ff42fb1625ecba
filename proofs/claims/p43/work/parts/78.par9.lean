/-! ===== the reader's steps go on; the whole text is read ===== -/
theorem opS_G {r : Rw} (h : Gd r) (hw : wtS r) (hn : ¬ whS r) (x0 : pP r < r 49 1) : GdN r (opS r) := by
  obtain ⟨g1, g2, g3, g4, g5, g6, g7⟩ := h.o
  unfold opS opB opC
  have p1 : pP (avS r) = pP r + 1 := up_self (r 51) 1 _
  have s1 := skS_rng (r := avS r) (by omega) (by rw [p1]; show pP r + 1 ≤ r 49 1; omega)
  have a0 : pP (skS (avS r)) = skS (avS r) 51 1 := rfl
  have l0 : skS (avS r) 49 1 = r 49 1 := rfl
  have l1 : avS r 49 1 = r 49 1 := rfl
  generalize hs : skS (avS r) = s at s1 a0 l0 ⊢
  have er := opE_rng s (p := pP s) (by omega)
  have p2 : pP (sF s 1 (opE s (pP s))) = opE s (pP s) := up_self (s 51) 1 _
  rw [p2]
  by_cases y : kdF (sF s 1 (opE s (pP s))) (pP s) (opE s (pP s) - pP s) = -1
  · rw [if_pos y]
    left
    show up (sF s 1 (opE s (pP s)) 51) 2 (pP s) 2 ≠ -1
    rw [up_self]
    omega
  · rw [if_neg y]
    rcases kdF_rng (sF s 1 (opE s (pP s))) (pP s) (opE s (pP s) - pP s) with e | ⟨k0, k1, k2⟩
    · exact absurd e y
    · right
      generalize hk : kdF (sF s 1 (opE s (pP s))) (pP s) (opE s (pP s) - pP s) = k at k0 k1 k2 ⊢
      have n1 : 1 ≤ opE s (pP s) - pP s := by
        by_cases q : 0 < opE s (pP s) - pP s
        · omega
        · have e := k2.2.1
          have w := wl_0 (k - 2).toNat (by omega)
          rw [show (((k - 2).toNat : Nat) : Int) + 2 = k by omega, e] at w
          exact absurd (if_neg q) w
      have q1 : pE (opD (sF s 1 (opE s (pP s))) k) = pE r := by rw [← hs]; rfl
      have q2 : opD (sF s 1 (opE s (pP s))) k 49 = r 49 := by rw [← hs]; rfl
      have q3 : pP (opD (sF s 1 (opE s (pP s))) k) = opE s (pP s) := p2
      have q4 : pS (opD (sF s 1 (opE s (pP s))) k) = pS r := by rw [← hs]; rfl
      have q5 : pO (opD (sF s 1 (opE s (pP s))) k) = pO r + 1 := by rw [← hs]; rfl
      have G7 : PI (sF s 1 (opE s (pP s))) := g7.cg (by rw [← hs]; rfl) (by rw [← hs]; rfl) fun a h1 h2 => by
        show ur _ 51 _ a = r a
        rw [ur_ne (by omega), ← hs]
        show ur _ 51 _ a = r a
        rw [ur_ne (by omega)]
        exact ur_ne (by omega)
      have w2 : wtS (sF s 1 (opE s (pP s))) := by rw [← hs]; exact hw
      have n2 : ¬ whS (sF s 1 (opE s (pP s))) := by rw [← hs]; exact hn
      exact ⟨Gd.i (q1.trans g1) (by rw [q2]; exact g2) (by rw [q2]; exact g3) (by rw [q3]; omega) (by rw [q3, q2]; omega) (by rw [q3, q4, q5]; omega) (G7.op w2 n2 k0 k1), by rw [q3]; omega⟩
theorem lfS_G {r : Rw} (h : Gd r) (hw : wtS r) (hn : ¬ whS r) : GdN r (lfS r) := by
  obtain ⟨g1, g2, g3, g4, g5, g6, g7⟩ := h.o
  unfold lfS
  by_cases x : tA r (pP r) = 118 ∧ isD (tA r (pP r + 1))
  · rw [if_pos x]
    have p1 : pP (avS r) = pP r + 1 := up_self (r 51) 1 _
    rcases dg_cs (r := avS r) (by omega) with e | ⟨e, e2, e3⟩
    · left
      show adS _ _ _ _ 51 2 ≠ -1
      rw [adS_F _ _ _ _ (by decide)]
      exact e
    · right
      have b1 := tA_rng e2
      have b2 : pP (avS r) < r 49 1 := b1.2
      have dv := dgV_rng (avS r)
      generalize dgV (avS r) = d at dv
      rw [e]
      have p3 : pP (avS (avS r)) = pP (avS r) + 1 := up_self (avS r 51) 1 _
      have f1 : pP (adS (avS (avS r)) 1 d (-1)) = pP (avS (avS r)) := adS_F _ _ _ _ (by decide)
      have f2 : pO (adS (avS (avS r)) 1 d (-1)) = pO r := adS_F _ _ _ _ (by decide)
      have f3 : pS (adS (avS (avS r)) 1 d (-1)) = pS r + 1 := adS_6 _ _ _ _
      have f4 : adS (avS (avS r)) 1 d (-1) 49 = r 49 := adS_49 _ _ _ _
      have f5 : pE (adS (avS (avS r)) 1 d (-1)) = pE r := adS_F _ _ _ _ (by decide)
      have G7 : PI (avS (avS r)) := g7.cg rfl rfl fun a h1 h2 => by
        show ur _ 51 _ a = r a
        rw [ur_ne (by omega)]
        exact ur_ne (by omega)
      exact ⟨Gd.i (f5.trans g1) (by rw [f4]; exact g2) (by rw [f4]; exact g3) (by rw [f1]; omega) (by rw [f1, f4]; omega) (by rw [f1, f2, f3]; omega) (G7.ad hw hn (Box.i (Or.inr (Or.inl ⟨rfl, dv.1, dv.2⟩))) (by decide)), by rw [f1]; omega⟩
  · rw [if_neg x]
    by_cases y : isD (tA r (pP r))
    · rw [if_pos y]
      exact ctS_G h hw hn y
    · rw [if_neg y]
      exact Or.inl (bd_E g4)
theorem top0 {r : Rw} (h : PI r) (hw : ¬ wtS r) : 0 < pO r ∧ r 56 (pO r - 1) = 0 := by
  obtain ⟨s0, o0, h3, h4, h5, h6⟩ := h.o
  have o1 : 0 < pO r := by
    by_cases q : pO r = 0
    · exact absurd (Or.inl q) hw
    · omega
  have t := (h3 (pO r - 1) (by omega) (by omega)).o
  refine ⟨o1, ?_⟩
  by_cases q : 0 < r 56 (pO r - 1)
  · exact absurd (Or.inr q) hw
  · omega
theorem wdS_G {r : Rw} (h : Gd r) (hw : ¬ wtS r) (hd : 0 < r 57 (pO r - 1)) : GdN r (wdS r) := by
  obtain ⟨g1, g2, g3, g4, g5, g6, g7⟩ := h.o
  have o1 := top0 g7 hw
  have dv := dgV_rng r
  rcases dg_cs (r := r) g4 with e | ⟨e, e2, e3⟩
  · exact Or.inl e
  · have b1 := tA_rng e2
    have p3 : pP (avS r) = pP r + 1 := up_self (r 51) 1 _
    have q0 : ∀ j, wdS r 51 j = avS r 51 j := fun j => by
      show dgS r 51 j = _
      rw [e]
    have q9 : wdS r 49 = r 49 := by
      show dgS r 49 = _
      rw [e]
      rfl
    have q1 : pE (wdS r) = pE r := q0 2
    have q3 : pP (wdS r) = pP r + 1 := (q0 1).trans p3
    have q4 : pS (wdS r) = pS r := q0 6
    have q5 : pO (wdS r) = pO r := q0 11
    right
    refine ⟨Gd.i (q1.trans g1) (by rw [q9]; exact g2) (by rw [q9]; exact g3) (by omega) (by rw [q3, q9]; omega) (by rw [q3, q4, q5]; omega) (g7.wd o1.1 o1.2 hd dv.1 dv.2 q4 q5 (fun a h1 h2 => ?_) ?_ ?_), by omega⟩
    · show ur _ 57 _ a = r a
      rw [ur_ne (by omega), ur_ne (by omega)]
      exact dgS_ne r (by omega)
    · show up (dgS r 57) _ _ = _
      rw [dgS_ne r (show (57 : Nat) ≠ 51 by decide)]
    · show up (dgS r 58) _ _ = _
      rw [dgS_ne r (show (58 : Nat) ≠ 51 by decide)]
theorem clS_G {r : Rw} (h : Gd r) (hw : ¬ wtS r) (hd : ¬ 0 < r 57 (pO r - 1)) : GdN r (clS r) := by
  obtain ⟨g1, g2, g3, g4, g5, g6, g7⟩ := h.o
  have o1 := top0 g7 hw
  have t := (g7.o.2.2.1 (pO r - 1) (by omega) (by omega)).o
  unfold clS
  by_cases x : tA r (pP r) = 41
  · rw [if_pos x]
    have b1 := tA_in (tAn x (by decide))
    right
    have f1 : ∀ k n, pP (adS (sF (avS r) 11 (pO r - 1)) k n (-1)) = pP r + 1 := fun k n => adS_F _ _ _ _ (by decide)
    have f2 : ∀ k n, pO (adS (sF (avS r) 11 (pO r - 1)) k n (-1)) = pO r - 1 := fun k n => adS_F _ _ _ _ (by decide)
    have f3 : ∀ k n, pS (adS (sF (avS r) 11 (pO r - 1)) k n (-1)) = pS r + 1 := fun k n => adS_6 _ _ _ _
    have f4 : ∀ k n, adS (sF (avS r) 11 (pO r - 1)) k n (-1) 49 = r 49 := fun k n => adS_49 _ _ _ _
    have f5 : ∀ k n, pE (adS (sF (avS r) 11 (pO r - 1)) k n (-1)) = pE r := fun k n => adS_F _ _ _ _ (by decide)
    have hd0 : r 57 (pO r - 1) = 0 := by omega
    refine ⟨Gd.i ((f5 _ _).trans g1) (by rw [f4]; exact g2) (by rw [f4]; exact g3) (by rw [f1]; omega) (by rw [f1, f4]; omega) (by rw [f1, f2, f3]; omega) (g7.cl o1.1 o1.2 hd0 rfl (up_self (avS r 51) 11 _) (fun a h1 h2 => ?_)), by rw [f1]; omega⟩
    show ur _ 51 _ a = r a
    rw [ur_ne (by omega)]
    exact ur_ne (by omega)
  · rw [if_neg x]
    exact Or.inl (bd_E g4)
theorem tn_step {r : Rw} (h : Gd r) (e : pP r < r 49 1) : GdN r (tnS r) := by
  unfold tnS
  by_cases a : tA r (pP r) = 32
  · rw [if_pos a]
    exact Or.inr ⟨h.av e, by rw [show pP (avS r) = pP r + 1 from up_self (r 51) 1 _]; omega⟩
  · rw [if_neg a]
    by_cases b : whS r
    · rw [if_pos b]
      exact Or.inl (bd_E h.o.2.2.2.1)
    · rw [if_neg b]
      by_cases c : tA r (pP r) = 40 ∧ wtS r
      · rw [if_pos c]
        exact opS_G h c.2 b e
      · rw [if_neg c]
        by_cases d : wtS r
        · rw [if_pos d]
          exact lfS_G h d b
        · rw [if_neg d]
          by_cases f : 0 < r 57 (pO r - 1)
          · rw [if_pos f]
            exact wdS_G h d f
          · rw [if_neg f]
            exact clS_G h d f
/-- things are taken till there is an error or the text ends -/
def rsF : Nat → Rw → Rw
  | 0, r => r
  | n + 1, r => if pE r = -1 ∧ pP r < r 49 1 then rsF n (tnS r) else r
def fin (r : Rw) : Rw := rsF (r 49 1 - pP r).toNat r
def rdA (r : Rw) : Int := if pE r ≠ -1 then pE r else if whS r then -1 else r 49 1
theorem rsF_stop {r : Rw} (h : ¬ (pE r = -1 ∧ pP r < r 49 1)) (n : Nat) : rsF n r = r := by
  cases n with
  | zero => rfl
  | succ n => exact if_neg h
theorem rsF_eq : ∀ (m n : Nat) (r : Rw), (pE r ≠ -1 ∨ Gd r) → r 49 1 - pP r ≤ m → r 49 1 - pP r ≤ n → rsF m r = rsF n r := by
  intro m
  induction m with
  | zero =>
    intro n r _ h1 _
    rw [rsF_stop (fun q => by omega) n]
    rfl
  | succ m ih =>
    intro n r hg h1 h2
    by_cases q : pE r = -1 ∧ pP r < r 49 1
    · cases n with
      | zero => omega
      | succ n =>
        show (if pE r = -1 ∧ pP r < r 49 1 then rsF m (tnS r) else r) = (if pE r = -1 ∧ pP r < r 49 1 then rsF n (tnS r) else r)
        rw [if_pos q, if_pos q]
        rcases hg with hg | hg
        · exact absurd q.1 hg
        · have T : tnS r 49 1 = r 49 1 := by rw [(tnS_T r).1]
          rcases tn_step hg q.2 with e | ⟨e, e2⟩
          · rw [rsF_stop (fun q => e q.1) m, rsF_stop (fun q => e q.1) n]
          · exact ih n (tnS r) (Or.inr e) (by omega) (by omega)
    · rw [rsF_stop q, rsF_stop q]
/-- a thing taken changes nothing of what comes out -/
theorem fin_tn {r : Rw} (h : Gd r) (e : pP r < r 49 1) : fin r = fin (tnS r) := by
  have T : tnS r 49 1 = r 49 1 := by rw [(tnS_T r).1]
  unfold fin
  rw [show (r 49 1 - pP r).toNat = (r 49 1 - pP r - 1).toNat + 1 by omega]
  show (if pE r = -1 ∧ pP r < r 49 1 then rsF (r 49 1 - pP r - 1).toNat (tnS r) else r) = _
  rw [if_pos ⟨h.o.1, e⟩]
  rcases tn_step h e with q | ⟨q, q2⟩
  · rw [rsF_stop (fun z => q z.1), rsF_stop (fun z => q z.1)]
  · exact rsF_eq _ _ _ (Or.inr q) (by omega) (by omega)
theorem fin_stop {r : Rw} (h : pE r ≠ -1 ∨ ¬ pP r < r 49 1) : fin r = r := rsF_stop (fun q => by
  rcases h with h | h
  · exact h q.1
  · exact h q.2) _
/-- the reader as it begins -/
def stR (r : Rw) : Rw := sF (sF (sF (sF r 1 0) 2 (-1)) 6 0) 11 0
theorem stR_G {r : Rw} (h0 : 0 ≤ r 49 1) (h1 : r 49 1 ≤ 120) : Gd (stR r) := by
  have a1 : pP (stR r) = 0 := rfl
  have a2 : pS (stR r) = 0 := rfl
  have a3 : pO (stR r) = 0 := rfl
  refine Gd.i rfl h0 h1 (by omega) (by rw [a1]; exact h0) (by omega) ?_
  unfold PI
  rw [a2, a3, if_neg (fun q => by omega)]
  exact Box.i ⟨by omega, by omega, fun i i0 i1 => by omega, fun i i0 i1 => by omega, fun i i0 i1 => by omega, rfl⟩
def s_X4_errorPosition : CS := (zc 12, ap [(3, 51)] (fun  h Rt X =>
TL h ∧ Rt (some (.inl (rdA (fin (stR (hI h)))))) (wI h (fin (stR (hI h))))))
set_option maxRecDepth 100000 in
set_option maxHeartbeats 4000000 in
theorem o_X4_errorPosition : Obl true 1 2 (sp [(124, s_X7_length), (81, s_X4_takeNext), (80, s_X4_isWhole)]) [] code_X4_errorPosition s_X4_errorPosition := by
  refine oblL (by rfl) [(22, [0, 1])] ?_
  intro  h Rt X hh hf hs
  obtain ⟨hT, h2⟩ := hs
  obtain ⟨l0, l1⟩ := hT
  have g0 := stR_G (r := hI h) l0 l1
  refine ⟨fun m pc vs g => ∃ (s : Rw) (k : Int), g = wI h s ∧ vs = [.inr (.inr (some 51)), .inl k] ∧ 0 ≤ k ∧ k ≤ 120 ∧ s 49 1 = hI h 49 1 ∧ (pE s ≠ -1 ∨ (Gd s ∧ k ≤ pP s)) ∧ fin s = fin (stR (hI h)) ∧ m = (120 - k).toNat, ?_, ?_⟩
  · repeat' (first | apply And.intro | (with_reducible assumption) | (intro h9; first | (exfalso; omega) | (simp only [rI_rI, rJ_rJ, hI_rI, hJ_rI, hI_rJ, hJ_rJ, hI_rR, hR_rI, hR_rJ, hN_rI, hN_rJ, svH_63, svH_66, rfH_63, wvH_63, wvH_62, wvH_67, wvH_68, wvH_69, sc_63, sc_n62, sc_n67, sc_n68, sc_n69, sc_n70, reduceIte, Nat.reduceEqDiff, eq_self, up_up, up_self, up_ne, ne_eq, not_false_eq_true, Int.reduceEq, Int.reduceNeg, hI_wI] at h9; first | (exfalso; omega) | skip) | skip) | exact Exists.intro _ ⟨stR (hI h), 0, rfl, rfl, by omega, by omega, rfl, Or.inr ⟨g0, g0.o.2.2.2.1⟩, rfl, rfl⟩ | exact h2 | exact h2 (by omega) | omega | exact True.intro | (simp only [rI_rI, rJ_rJ, hI_rI, hJ_rI, hI_rJ, hJ_rJ, hI_rR, hR_rI, hR_rJ, hN_rI, hN_rJ, svH_63, svH_66, rfH_63, wvH_63, wvH_62, wvH_67, wvH_68, wvH_69, sc_63, sc_n62, sc_n67, sc_n68, sc_n69, sc_n70, reduceIte, Nat.reduceEqDiff, eq_self, up_up, up_self, up_ne, ne_eq, not_false_eq_true, Int.reduceEq, Int.reduceNeg, hI_wI]; omega))
  · rintro m pc vs' vs g hl ⟨s, k, rfl, rfl, i1, i2, i3, i4, i5, rfl⟩ hv hh1 hf1
    obtain ⟨rfl, rfl⟩ := look1 hl
    have j0 : 0 ≤ s 49 1 := by omega
    have j1 : s 49 1 ≤ 120 := by omega
    by_cases y : pE s = -1 ∧ pP s < s 49 1
    · rcases i4 with i4 | ⟨i4, i6⟩
      · exact absurd y.1 i4
      · have y1 : s 51 2 = -1 := y.1
        have y2 : s 51 1 < s 49 1 := y.2
        have i6 : k ≤ s 51 1 := i6
        have f := fin_tn i4 y.2
        have t := tn_step i4 y.2
        have T : tnS s 49 1 = s 49 1 := by rw [(tnS_T s).1]
        have i7 : pE (tnS s) ≠ -1 ∨ (Gd (tnS s) ∧ k + 1 ≤ pP (tnS s)) := by
          rcases t with t | ⟨t, t2⟩
          · exact Or.inl t
          · exact Or.inr ⟨t, by have : k ≤ pP s := i6; omega⟩
        repeat' (first | apply And.intro | (with_reducible assumption) | (intro h9; first | (exfalso; omega) | (simp only [rI_rI, rJ_rJ, hI_rI, hJ_rI, hI_rJ, hJ_rJ, hI_rR, hR_rI, hR_rJ, hN_rI, hN_rJ, svH_63, svH_66, rfH_63, wvH_63, wvH_62, wvH_67, wvH_68, wvH_69, sc_63, sc_n62, sc_n67, sc_n68, sc_n69, sc_n70, reduceIte, Nat.reduceEqDiff, eq_self, up_up, up_self, up_ne, ne_eq, not_false_eq_true, Int.reduceEq, Int.reduceNeg, hI_wI] at h9; first | (exfalso; omega) | skip) | skip) | exact j0 | exact j1 | exact i4.pl | exact i4.tn | exact Exists.intro _ ⟨by omega, tnS s, k + 1, rfl, rfl, by omega, by omega, T.trans i3, i7, f.symm.trans i5, rfl⟩ | exact h2 | exact h2 (by omega) | omega | exact True.intro | (simp only [rI_rI, rJ_rJ, hI_rI, hJ_rI, hI_rJ, hJ_rJ, hI_rR, hR_rI, hR_rJ, hN_rI, hN_rJ, svH_63, svH_66, rfH_63, wvH_63, wvH_62, wvH_67, wvH_68, wvH_69, sc_63, sc_n62, sc_n67, sc_n68, sc_n69, sc_n70, reduceIte, Nat.reduceEqDiff, eq_self, up_up, up_self, up_ne, ne_eq, not_false_eq_true, Int.reduceEq, Int.reduceNeg, hI_wI]; omega))
    · have e : fin s = s := fin_stop (by
        by_cases q : pE s = -1
        · exact Or.inr (fun z => y ⟨q, z⟩)
        · exact Or.inl q)
      rw [← i5, e] at h2
      unfold rdA at h2
      by_cases q : pE s = -1
      · rw [if_neg (fun z => z q)] at h2
        have q1 : s 51 2 = -1 := q
        have q2 : ¬ s 51 1 < s 49 1 := fun z => y ⟨q, z⟩
        by_cases u : whS s
        · rw [if_pos u] at h2
          repeat' (first | apply And.intro | (with_reducible assumption) | (intro h9; first | (exfalso; omega) | (simp only [rI_rI, rJ_rJ, hI_rI, hJ_rI, hI_rJ, hJ_rJ, hI_rR, hR_rI, hR_rJ, hN_rI, hN_rJ, svH_63, svH_66, rfH_63, wvH_63, wvH_62, wvH_67, wvH_68, wvH_69, sc_63, sc_n62, sc_n67, sc_n68, sc_n69, sc_n70, reduceIte, Nat.reduceEqDiff, eq_self, up_up, up_self, up_ne, ne_eq, not_false_eq_true, Int.reduceEq, Int.reduceNeg, hI_wI] at h9; first | (exfalso; omega) | skip) | skip) | exact j0 | exact j1 | exact absurd u (by assumption) | exact h2 | exact h2 | exact h2 (by omega) | omega | exact True.intro | (simp only [rI_rI, rJ_rJ, hI_rI, hJ_rI, hI_rJ, hJ_rJ, hI_rR, hR_rI, hR_rJ, hN_rI, hN_rJ, svH_63, svH_66, rfH_63, wvH_63, wvH_62, wvH_67, wvH_68, wvH_69, sc_63, sc_n62, sc_n67, sc_n68, sc_n69, sc_n70, reduceIte, Nat.reduceEqDiff, eq_self, up_up, up_self, up_ne, ne_eq, not_false_eq_true, Int.reduceEq, Int.reduceNeg, hI_wI]; omega))
        · rw [if_neg u] at h2
          repeat' (first | apply And.intro | (with_reducible assumption) | (intro h9; first | (exfalso; omega) | (simp only [rI_rI, rJ_rJ, hI_rI, hJ_rI, hI_rJ, hJ_rJ, hI_rR, hR_rI, hR_rJ, hN_rI, hN_rJ, svH_63, svH_66, rfH_63, wvH_63, wvH_62, wvH_67, wvH_68, wvH_69, sc_63, sc_n62, sc_n67, sc_n68, sc_n69, sc_n70, reduceIte, Nat.reduceEqDiff, eq_self, up_up, up_self, up_ne, ne_eq, not_false_eq_true, Int.reduceEq, Int.reduceNeg, hI_wI] at h9; first | (exfalso; omega) | skip) | skip) | exact j0 | exact j1 | exact absurd (by assumption) u | exact h2 | exact h2 | exact h2 (by omega) | omega | exact True.intro | (simp only [rI_rI, rJ_rJ, hI_rI, hJ_rI, hI_rJ, hJ_rJ, hI_rR, hR_rI, hR_rJ, hN_rI, hN_rJ, svH_63, svH_66, rfH_63, wvH_63, wvH_62, wvH_67, wvH_68, wvH_69, sc_63, sc_n62, sc_n67, sc_n68, sc_n69, sc_n70, reduceIte, Nat.reduceEqDiff, eq_self, up_up, up_self, up_ne, ne_eq, not_false_eq_true, Int.reduceEq, Int.reduceNeg, hI_wI]; omega))
      · rw [if_pos q] at h2
        have q1 : ¬ s 51 2 = -1 := q
        repeat' (first | apply And.intro | (with_reducible assumption) | (intro h9; first | (exfalso; omega) | (simp only [rI_rI, rJ_rJ, hI_rI, hJ_rI, hI_rJ, hJ_rJ, hI_rR, hR_rI, hR_rJ, hN_rI, hN_rJ, svH_63, svH_66, rfH_63, wvH_63, wvH_62, wvH_67, wvH_68, wvH_69, sc_63, sc_n62, sc_n67, sc_n68, sc_n69, sc_n70, reduceIte, Nat.reduceEqDiff, eq_self, up_up, up_self, up_ne, ne_eq, not_false_eq_true, Int.reduceEq, Int.reduceNeg, hI_wI] at h9; first | (exfalso; omega) | skip) | skip) | exact j0 | exact j1 | exact h2 | exact h2 | exact h2 (by omega) | omega | exact True.intro | (simp only [rI_rI, rJ_rJ, hI_rI, hJ_rI, hI_rJ, hJ_rJ, hI_rR, hR_rI, hR_rJ, hN_rI, hN_rJ, svH_63, svH_66, rfH_63, wvH_63, wvH_62, wvH_67, wvH_68, wvH_69, sc_63, sc_n62, sc_n67, sc_n68, sc_n69, sc_n70, reduceIte, Nat.reduceEqDiff, eq_self, up_up, up_self, up_ne, ne_eq, not_false_eq_true, Int.reduceEq, Int.reduceNeg, hI_wI]; omega))
theorem m_X4_errorPosition : MM 79 s_X4_errorPosition := mm_of (own := 3) (by rfl) k_X4_errorPosition (cl := [(124, s_X7_length), (81, s_X4_takeNext), (80, s_X4_isWhole)]) ⟨m_X7_length, m_X4_takeNext, m_X4_isWhole, trivial⟩ o_X4_errorPosition

/-! ===== the reference: behind a node, the parentheses that end ===== -/
theorem TxO.c {r s : Rw} (h : TxO r) (e1 : s 49 = r 49) (e2 : s 50 = r 50) : TxO s := by
  unfold TxO
  rw [e1, e2]
  exact h
theorem SmR.tr {r s t : Rw} (h : SmR r s) (g : SmR s t) : SmR r t := ⟨g.1.trans h.1, g.2.1.trans h.2.1, g.2.2.1.trans h.2.2.1, g.2.2.2.1.trans h.2.2.2.1, g.2.2.2.2.1.trans h.2.2.2.2.1, g.2.2.2.2.2.1.trans h.2.2.2.2.2.1, g.2.2.2.2.2.2.1.trans h.2.2.2.2.2.2.1, g.2.2.2.2.2.2.2.1.trans h.2.2.2.2.2.2.2.1, g.2.2.2.2.2.2.2.2.trans h.2.2.2.2.2.2.2.2⟩
theorem SmR.t {r s : Rw} (h : SmR r s) : tA s = tA r := tA_c h.1 h.2.1
theorem SmR.k {r s : Rw} (h : SmR r s) (p : Int) : spk s p = spk r p := by
  unfold spk
  rw [h.t, h.1]
/-- the state behind a node -/
def EnI (H r s : Rw) : Prop := Box (Gd s ∧ fin s = fin r ∧ CrR H s 0 ∧ 0 < pS s ∧ Dt s ∧ TxO s ∧ pP r ≤ pP s)
def EnW (H r s : Rw) : Prop := Box (EnI H r s ∧ wtS s)
/-- a parenthesis is complete but for its digits -/
def Fl (s : Rw) : Prop := Box (Gd s ∧ 0 < pO s ∧ s 56 (pO s - 1) = 0 ∧ TxO s)
theorem Fl.n {s : Rw} (h : Fl s) : ¬ whS s ∧ ¬ wtS s := ⟨fun q => by have := h.o.2.1; omega, fun q => by have := h.o; rcases q with q | q <;> omega⟩
theorem fl_tn {s : Rw} (h : Fl s) : tnS (skS s) = if 0 < s 57 (pO s - 1) then wdS (skS s) else clS (skS s) := by
  have n1 : ¬ whS (skS s) := h.n.1
  have n2 : ¬ wtS (skS s) := h.n.2
  have a1 : tA (skS s) (pP (skS s)) = tA s (spk s (pP s)) := rfl
  unfold tnS
  rw [a1, if_neg (spk_ne s (pP s)), if_neg n1, if_neg (fun q => n2 q.2), if_neg n2]
  rfl
/-- a digit that is wanted is not there -/
theorem wd0 {s : Rw} (h : Fl s) (hd : 0 < s 57 (pO s - 1)) {e : Int} (hx : dgX s (pP s) e) : Er s e := by
  obtain ⟨hg, o1, b0, hz⟩ := h.o
  have rg := nd_rng hg
  have g4 := hg.o.2.2.2.1
  have t := fl_tn h
  rw [if_pos hd] at t
  rcases hx.o with ⟨d1, rfl⟩ | ⟨d1, d2, rfl⟩
  · by_cases u : tA s (spk s (pP s)) = -1
    · exact nd_end hg h.n.1 hz u
    · refine nd_err hg u ?_ (by omega)
      rw [t]
      show dgS (skS s) 51 2 = _
      rw [dgS_0 (r := skS s) d1]
      exact bdE _
  · refine nd_err hg (by omega) ?_ (by omega)
    rw [t]
    show dgS (skS s) 51 2 = _
    rw [dgS_2 (r := skS s) d1 d2]
    exact (bdE _).trans (avP _)
theorem wd1 {s : Rw} (h : Fl s) (hd : 0 < s 57 (pO s - 1)) (d1 : isD (tA s (spk s (pP s)))) (d2 : ¬ isD (tA s (spk s (pP s) + 1))) :
    Fl (wdS (skS s)) ∧ fin (wdS (skS s)) = fin s ∧ pP (wdS (skS s)) = spk s (pP s) + 1 ∧ SmR s (wdS (skS s)) ∧ wdS (skS s) 57 = up (s 57) (pO s - 1) (s 57 (pO s - 1) - 1) ∧ wdS (skS s) 58 = up (s 58) (pO s - 1) (10 * s 58 (pO s - 1) + (tA s (spk s (pP s)) - 48)) := by
  obtain ⟨hg, o1, b0, hz⟩ := h.o
  have t := fl_tn h
  rw [if_pos hd] at t
  have e : dgS (skS s) = avS (skS s) := dgS_1 (r := skS s) d1 d2
  have v : dgV (skS s) = tA s (spk s (pP s)) - 48 := dgV_1 (r := skS s) d1
  have q0 : ∀ j, wdS (skS s) 51 j = avS (skS s) 51 j := fun j => by
    show dgS (skS s) 51 j = _
    rw [e]
  have qa : ∀ a, a ≠ 51 → a ≠ 57 → a ≠ 58 → wdS (skS s) a = s a := fun a h1 h2 h3 => by
    unfold wdS
    rw [ur_ne h2, ur_ne h3, e]
    show ur _ 51 _ a = _
    rw [ur_ne h1]
    exact ur_ne h1
  have e2 : pE (wdS (skS s)) = -1 := (q0 2).trans hg.o.1
  have q := nd_gs hg (by omega) t e2
  have p : pP (wdS (skS s)) = spk s (pP s) + 1 := (q0 1).trans (avP _)
  have po : pO (wdS (skS s)) = pO s := q0 11
  refine ⟨Box.i ⟨q.1, by omega, by rw [po, qa 56 (by decide) (by decide) (by decide)]; exact b0, hz.c (qa 49 (by decide) (by decide) (by decide)) (qa 50 (by decide) (by decide) (by decide))⟩, q.2.1, p, ⟨qa 49 (by decide) (by decide) (by decide), qa 50 (by decide) (by decide) (by decide), qa 52 (by decide) (by decide) (by decide), qa 53 (by decide) (by decide) (by decide), qa 54 (by decide) (by decide) (by decide), qa 55 (by decide) (by decide) (by decide), qa 56 (by decide) (by decide) (by decide), po, q0 6⟩, ?_, ?_⟩
  · show up (dgS (skS s) 57) (pO s - 1) (dgS (skS s) 57 (pO s - 1) - 1) = _
    rw [e]
    rfl
  · show up (dgS (skS s) 58) (pO s - 1) (10 * s 58 (pO s - 1) + dgV (skS s)) = _
    rw [e, v]
    rfl
/-- what a parenthesis that ends leaves -/
def kS (s : Rw) : Rw := adS (sF (avS (skS s)) 11 (pO s - 1)) (s 55 (pO s - 1)) (s 58 (pO s - 1)) (-1)
theorem cl_eq {s : Rw} (x : tA s (spk s (pP s)) = 41) : clS (skS s) = kS s := if_pos x
theorem cl0 {s : Rw} (h : Fl s) (hd : ¬ 0 < s 57 (pO s - 1)) (x : tA s (spk s (pP s)) ≠ 41) : Er s (spk s (pP s)) := by
  obtain ⟨hg, o1, b0, hz⟩ := h.o
  have rg := nd_rng hg
  have g4 := hg.o.2.2.2.1
  have t := fl_tn h
  rw [if_neg hd] at t
  by_cases u : tA s (spk s (pP s)) = -1
  · exact nd_end hg h.n.1 hz u
  · refine nd_err hg u ?_ (by omega)
    rw [t]
    have e : clS (skS s) = bdS (skS s) := if_neg x
    rw [e]
    exact bdE _
theorem cl1 {s : Rw} (h : Fl s) (hd : ¬ 0 < s 57 (pO s - 1)) (x : tA s (spk s (pP s)) = 41) : Gd (kS s) ∧ fin (kS s) = fin s ∧ pP s < pP (kS s) ∧ pP (kS s) = spk s (pP s) + 1 ∧ pO (kS s) = pO s - 1 ∧ pS (kS s) = pS s + 1 ∧ Dt (kS s) ∧ TxO (kS s) := by
  obtain ⟨hg, o1, b0, hz⟩ := h.o
  have rg := nd_rng hg
  have t := fl_tn h
  rw [if_neg hd, cl_eq x] at t
  have e2 : pE (kS s) = -1 := (adS_F _ _ _ _ (by decide)).trans hg.o.1
  have q := nd_gs hg (by omega) t e2
  have p : pP (kS s) = spk s (pP s) + 1 := (adS_F _ _ _ _ (by decide)).trans (avP (skS s))
  have po : pO (kS s) = pO s - 1 := (adS_F _ _ _ _ (by decide)).trans (up_self (avS (skS s) 51) 11 _)
  refine ⟨q.1, q.2.1, by omega, p, po, adS_6 _ _ _ _, Box.i fun o2 => ?_, hz.c (adS_49 _ _ _ _) (adS_50 _ _ _ _)⟩
  rw [po] at o2 ⊢
  have f7 : kS s 57 = s 57 := adS_ne _ _ _ _ (by decide)
  have f5 : kS s 55 = s 55 := adS_ne _ _ _ _ (by decide)
  rw [f7, f5]
  obtain ⟨g1, g2, g3, g4, g5, g6, g7⟩ := hg.o
  obtain ⟨s0, o0, h3, h4, h5, h6⟩ := g7.o
  have u := (h3 (pO s - 1 - 1) (by omega) (by omega)).o
  have v := h4 (pO s - 1 - 1) (by omega) (by omega)
  exact u.2.2.2.2.2.2.1 (by omega)
theorem CrR.pop {H r : Rw} (h : CrR H r 0) : CrR (ur H 62 (up (H 62) 18 (pO r - 1))) (sF r 11 (pO r - 1)) 0 := by
  obtain ⟨c1, c2, c3, c4, c5, c6⟩ := h.o
  obtain ⟨t1, t2, t3, t4⟩ := c1.o
  have d0 : pO (sF r 11 (pO r - 1)) = pO r - 1 := up_self (r 51) 11 _
  have d1 : pP (sF r 11 (pO r - 1)) = pP r := rfl
  have d2 : pS (sF r 11 (pO r - 1)) = pS r := rfl
  have dn : ∀ a, a ≠ 51 → sF r 11 (pO r - 1) a = r a := fun a q => ur_ne q
  unfold CrR TeQ
  rw [d0, d1, d2, dn 49 (by decide), dn 50 (by decide), dn 55 (by decide), dn 56 (by decide), dn 52 (by decide), dn 53 (by decide), dn 54 (by decide), ur_self, ur_ne (by decide), ur_ne (by decide), ur_ne (by decide), ur_ne (by decide), up_self, up_ne (by decide), up_ne (by decide), up_ne (by decide)]
  refine Box.i ⟨Box.i ⟨t1, t2, t3, t4⟩, c2, rfl, c4, fun i i0 i1 => ?_, c6⟩
  have c := c5 i i0 (by omega)
  refine ⟨c.1, c.2.trans ?_⟩
  split <;> split <;> omega

/-! ===== the reference: a text read ===== -/
theorem rsF_gd : ∀ (n : Nat) (r : Rw), (pE r ≠ -1 ∨ Gd r) → (pE (rsF n r) ≠ -1 ∨ Gd (rsF n r)) := by
  intro n
  induction n with
  | zero => intro r h; exact h
  | succ n ih =>
    intro r h
    by_cases q : pE r = -1 ∧ pP r < r 49 1
    · have e : rsF (n + 1) r = rsF n (tnS r) := if_pos q
      rw [e]
      refine ih _ ?_
      rcases h with h | h
      · exact absurd q.1 h
      · rcases tn_step h q.2 with t | t
        · exact Or.inl t
        · exact Or.inr t.1
    · rw [rsF_stop q]; exact h
/-- a text that is right: its steps -/
theorem fin_st {r : Rw} (h : Gd r) (e : rdA (fin r) = -1) : StP (fin r 52) (fin r 53) (fin r 54) (pS (fin r)) ∧ Gd (fin r) := by
  have g := rsF_gd (r 49 1 - pP r).toNat r (Or.inr h)
  have g : pE (fin r) ≠ -1 ∨ Gd (fin r) := g
  generalize fin r = q at *
  unfold rdA at e
  rcases g with g | g
  · rw [if_pos g] at e; exact absurd e g
  · obtain ⟨g1, g2, g3, g4, g5, g6, g7⟩ := g.o
    rw [if_neg (fun z => z g1)] at e
    by_cases w : whS q
    · obtain ⟨s0, o0, h3, h4, h5, h6⟩ := g7.o
      rw [if_pos w, w.1] at h6
      exact ⟨Box.i ⟨s0, by omega, h5, h6⟩, g⟩
    · rw [if_neg w] at e; omega
theorem bsM_or (K N X w : Int → Int) : ∀ m : Nat, bsM K N X w m ∨ ∃ t : Nat, t < m ∧ bsM K N X w t ∧ (bsR K N X w t).1 = -1 := by
  intro m
  induction m with
  | zero => exact Or.inl (Box.i fun s q => by omega)
  | succ m ih =>
    rcases ih with h | ⟨t, t0, t1, t2⟩
    · by_cases e : (bsR K N X w m).1 = -1
      · exact Or.inr ⟨m, by omega, h, e⟩
      · exact Or.inl (h.s e)
    · exact Or.inr ⟨t, by omega, t1, t2⟩
theorem ma_yes {K N X w : Int → Int} {S : Int} {P : (Int → Int) → Prop} {Q : Nat → (Int → Int) → Prop} (hM : bsM K N X w S.toNat) (k : ∀ f, P f) : (bsM K N X w S.toNat → ∀ f, P f) ∧ (∀ t : Nat, (t : Int) < S → bsM K N X w t → (bsR K N X w t).1 = -1 → ∀ f, Q t f) :=
  ⟨fun _ => k, fun t h1 _ h3 => absurd h3 (hM.o t (by omega))⟩
theorem ma_no {K N X w : Int → Int} {S : Int} {P : (Int → Int) → Prop} {Q : Nat → (Int → Int) → Prop} {t : Nat} (ht : (t : Int) < S) (hM : bsM K N X w t) (he : (bsR K N X w t).1 = -1) (k : ∀ f, Q t f) : (bsM K N X w S.toNat → ∀ f, P f) ∧ (∀ t : Nat, (t : Int) < S → bsM K N X w t → (bsR K N X w t).1 = -1 → ∀ f, Q t f) := by
  refine ⟨fun h => absurd he (h.o t (by omega)), fun s h1 h2 h3 => ?_⟩
  have : s = t := by
    by_cases a : s < t
    · exact absurd h3 (hM.o s a)
    · by_cases b : t < s
      · exact absurd he (h2.o t b)
      · omega
  subst this
  exact k
/-- the class's part of a heap is the same -/
def MoR (h g : Hp) : Prop := Box (g.1 = h.1 ∧ g.2.2 = h.2.2 ∧ ∀ a, a < 62 → hI g a = hI h a)
theorem MoR.rf (h : Hp) : MoR h h := Box.i ⟨rfl, rfl, fun _ _ => rfl⟩
theorem MoR.rI {h g : Hp} (m : MoR h g) {a : Nat} (ha : 62 ≤ a) (f : Int → Int) : MoR h (CWordSolverLaw_law_r9643_f7b4c7.rI g a f) := by
  obtain ⟨m1, m2, m3⟩ := m.o
  refine Box.i ⟨m1, m2, fun b hb => ?_⟩
  rw [hI_rI']
  rw [if_neg (by omega)]
  exact m3 b hb
theorem MoR.tr {h g k : Hp} (a : MoR h g) (b : MoR g k) : MoR h k := by
  obtain ⟨a1, a2, a3⟩ := a.o
  obtain ⟨b1, b2, b3⟩ := b.o
  exact Box.i ⟨b1.trans a1, b2.trans a2, fun c hc => (b3 c hc).trans (a3 c hc)⟩
theorem MoR.sv {h g : Hp} (m : MoR h g) : MoR h (svH g) := (m.rI (show 62 ≤ 64 by decide) _).rI (show 62 ≤ 62 by decide) _
/-- the rows that reading changes -/
def rE (h : Hp) (F A B C : Int → Int) : Rw := ur (ur (ur (ur (hI h) 62 F) 71 A) 72 B) 73 C
def Fr4 (F0 F : Int → Int) : Prop := Box (∀ j, j ≠ 15 → j ≠ 18 → j ≠ 19 → j ≠ 20 → F j = F0 j)
theorem reads_k {h : Hp} {P Q : Rw → Prop} (k : ∀ F A B C, Fr4 (hI h 62) F → Q (rE h F A B C) → P (rE h F A B C)) : ∀ H, FrT (hI h) H → Q H → P H := by
  intro H f q
  have e : rE h (H 62) (H 71) (H 72) (H 73) = H := by
    funext a
    unfold rE ur
    by_cases a1 : a = 73
    · subst a1; rfl
    by_cases a2 : a = 72
    · subst a2; rfl
    by_cases a3 : a = 71
    · subst a3; rfl
    by_cases a4 : a = 62
    · subst a4; rfl
    rw [if_neg a1, if_neg a2, if_neg a3, if_neg a4]
    exact (f.o.1 a a4 a3 a2 a1).symm
  have := k (H 62) (H 71) (H 72) (H 73) (Box.i f.o.2)
  rw [e] at this
  exact this q
theorem MoR.wE (h : Hp) (F A B C : Int → Int) : MoR h (wI h (rE h F A B C)) := Box.i ⟨rfl, rfl, fun a ha => by
  show rE h F A B C a = _
  unfold rE
  rw [ur_ne (by omega), ur_ne (by omega), ur_ne (by omega), ur_ne (by omega)]⟩
/-- a call refused -/
def RdX (h g : Hp) (k : Int) : Prop := Box (MoR h g ∧ hI g 66 = hI h 66 ∧ hI g 64 = hI h 64 ∧ Eq7 (hI h 63) (hI g 63) ∧ hI g 69 = hI h 69 ∧ hI g 62 4 = k ∧ ∀ j, j ≠ 4 → j < 15 → hI g 62 j = hI h 62 j)
/-- a node made of a text -/
def RdY (h g : Hp) (u : Int → Int) : Prop := Box (MoR h g ∧ hI g 66 = hI h 66 ∧ hI g 64 = svPp (hI h 64) (hI h 62 3) u ∧ hI g 62 3 = svS (hI h 62 3) ∧ hI g 62 4 = 0 ∧ hI g 62 10 = 1 ∧ hI g 62 6 = hI h 62 6)
theorem Eq7.z {w v : Int → Int} (hx : Nx w v) (e : ∀ j, 281 ≤ j → v j = w j) : Eq7 w (up v 0 (w 0)) := by
  obtain ⟨h1, h2, h3, h4, h5⟩ := hx.o
  refine Box.i ⟨Box.i ⟨by rw [up_self]; exact Int.le_refl _, fun n j n0 n1 j0 j1 => ?_, by rw [up_ne (by decide)]; exact h3, fun x x0 x1 => by rw [up_ne (by omega)]; exact h4 x x0 x1, fun j hj => by rw [up_ne (by omega)]; exact h5 j hj⟩, up_self _ _ _, fun j hj => by rw [up_ne (by omega)]; exact e j hj⟩
  have := h2 n j n0 n1 j0 j1
  unfold nd at *
  rw [up_ne (by omega)]
  exact this
theorem Eq7.wf {w u : Int → Int} (h : Eq7 w u) (hW : WF w) : WF u := by
  obtain ⟨h1, h2, h3⟩ := h.o
  exact hW.ext h1 (by have := hW.nn; omega) h3 fun n n0 n1 => by omega
theorem TokR.c {H H' q : Rw} (h : TokR H q) (e1 : H' 71 = H 71) (e2 : H' 62 15 = H 62 15) : TokR H' q := by
  unfold TokR
  rw [e1, e2]
  exact h
theorem svP_eq (h : Hp) : svP h = svPp (hI h 64) (hI h 62 3) (hI h 63) := rfl
theorem ur_i (r : Rw) (a : Nat) (f : Int → Int) (b : Nat) : ur r a f b = if b = a then f else r b := rfl
theorem rE_62 (h : Hp) (F A B C : Int → Int) : rE h F A B C 62 = F := rfl
theorem rE_63 (h : Hp) (F A B C : Int → Int) : rE h F A B C 63 = hI h 63 := rfl
theorem rE_64 (h : Hp) (F A B C : Int → Int) : rE h F A B C 64 = hI h 64 := rfl
theorem fr2 {F0 F : Int → Int} (f : Fr4 F0 F) (x y : Int) : ∀ j, j ≠ 4 → j < 15 → up (up F 4 x) 4 y j = F0 j := fun j a b => by
  rw [up_ne a, up_ne a]
  exact f.o j (by omega) (by omega) (by omega) (by omega)
theorem fr1 {F0 F : Int → Int} (f : Fr4 F0 F) (x : Int) : ∀ j, j ≠ 4 → j < 15 → up F 4 x j = F0 j := fun j a b => by
  rw [up_ne a]
  exact f.o j (by omega) (by omega) (by omega) (by omega)
theorem fr3 {F0 F : Int → Int} (f : Fr4 F0 F) : F 3 = F0 3 := f.o 3 (by decide) (by decide) (by decide) (by decide)
theorem fr6 {F0 F : Int → Int} (f : Fr4 F0 F) : F 6 = F0 6 := f.o 6 (by decide) (by decide) (by decide) (by decide)
theorem fr3a {F0 F : Int → Int} (f : Fr4 F0 F) (h : 0 ≤ F0 3) : 0 ≤ F 3 := by rw [fr3 f]; exact h
theorem fr3b {F0 F : Int → Int} (f : Fr4 F0 F) (h : F0 3 ≤ 5) : F 3 ≤ 5 := by rw [fr3 f]; exact h
def s_X10_read : CS := (zc 7, ap [(3, 62)] (fun  h Rt X =>
∃ r, TeQ (hI h) r ∧ TxO r ∧ (0 ≤ hI h 62 3 ∧ hI h 62 3 ≤ 5) ∧ WF (hI h 63) ∧
(∀ g k, RdX h g k → ((rdA (fin (stR r)) ≠ -1 ∧ k = 1) ∨ (rdA (fin (stR r)) = -1 ∧ ¬ bsM (fin (stR r) 52) (fin (stR r) 53) (fin (stR r) 54) (hI h 63) (pS (fin (stR r))).toNat ∧ k = 2)) → Rt (some (.inl 0)) g) ∧
(rdA (fin (stR r)) = -1 → bsM (fin (stR r) 52) (fin (stR r) 53) (fin (stR r) 54) (hI h 63) (pS (fin (stR r))).toNat → ∀ g u, RdY h g u → Eq7 (hI h 63) u → Eq7 (bsS (fin (stR r) 52) (fin (stR r) 53) (fin (stR r) 54) (hI h 63) (pS (fin (stR r))).toNat).1 (hI g 63) → Rt (some (.inl ((bsS (fin (stR r) 52) (fin (stR r) 53) (fin (stR r) 54) (hI h 63) (pS (fin (stR r))).toNat).2 0))) g)))
set_option maxRecDepth 100000 in
set_option maxHeartbeats 4000000 in
theorem o_X10_read : Obl true 1 3 (sp [(276, s_X10_reads), (191, s_X10_refused), (278, s_X10_makesAll), (194, s_X10_saves)]) [] code_X10_read s_X10_read := by
  refine obl0 (by rfl) ?_
  intro  h Rt X hh hf hs
  obtain ⟨r, hT, hz, ⟨s0, s5⟩, hW, h3, h4⟩ := hs
  obtain ⟨l0, l1, l2, l3⟩ := hT.o
  have G0 := stR_G (r := r) l1 l2
  by_cases y : rdA (fin (stR r)) = -1
  · have hS := (fin_st G0 y).1
    have m0 := hS.o
    have NO := h3
    rcases bsM_or (fin (stR r) 52) (fin (stR r) 53) (fin (stR r) 54) (hI h 63) (pS (fin (stR r))).toNat with hM | ⟨t, ht, hM, he⟩
    · have YES := h4 y hM
      have I := bsI.all hW hS (pS (fin (stR r))).toNat (by omega) hM
      have E7 := Eq7.z (w := hI h 63) I.o.2.1 I.o.2.2.1
      have hW2 := E7.wf hW
      have B := bs_eq hW hS E7 (pS (fin (stR r))).toNat (by omega) hM
      have z1 := m0.2.2.2
      have n0 := I.o.2.2.2 0 (by omega) (by omega)
      have B0 := B.1.o.2 0 (by omega) (by omega)
      have hM2 : bsM (fin (stR r) 52) (fin (stR r) 53) (fin (stR r) 54) (up (bsS (fin (stR r) 52) (fin (stR r) 53) (fin (stR r) 54) (hI h 63) (pS (fin (stR r))).toNat).1 0 (hI h 63 0)) (pS (fin (stR r))).toNat := Box.i fun s hs => by
        have c := (bs_eq hW hS E7 s (by omega) (Box.i fun s' hs' => hM.o s' (by omega))).2 (by omega)
        rw [c.o.1]
        exact hM.o s hs
      have KK : ∀ g', MoR h g' → hI g' 66 = hI h 66 → hI g' 64 = hI h 64 → hI g' 62 3 = hI h 62 3 → hI g' 62 6 = hI h 62 6 → hI g' 62 4 = 0 → hI g' 63 = up (bsS (fin (stR r) 52) (fin (stR r) 53) (fin (stR r) 54) (hI h 63) (pS (fin (stR r))).toNat).1 0 (hI h 63 0) → ∀ f,
          Rt (some (.inl ((bsS (fin (stR r) 52) (fin (stR r) 53) (fin (stR r) 54) (hI (svH g') 63) (pS (fin (stR r))).toNat).2 0))) (rI (rI (svH g') 63 (bsS (fin (stR r) 52) (fin (stR r) 53) (fin (stR r) 54) (hI (svH g') 63) (pS (fin (stR r))).toNat).1) 74 f) := fun g' m e66 e64 e3 e6 e4 e63 f => by
        rw [svH_63, e63, B0]
        refine YES _ (up (bsS (fin (stR r) 52) (fin (stR r) 53) (fin (stR r) 54) (hI h 63) (pS (fin (stR r))).toNat).1 0 (hI h 63 0)) (Box.i ⟨(m.sv.rI (by decide) _).rI (by decide) _, e66, ?_, ?_, ?_, rfl, ?_⟩) E7 B.1.o.1
        · show svP g' = _
          rw [svP_eq, e64, e3, e63]
        · show svS (hI g' 62 3) = _
          rw [e3]
        · exact e4
        · exact e6
      repeat' (first | (refine Exists.intro r (And.intro hT (And.intro hz (reads_k ?_)))) | (refine Exists.intro (fin (stR r)) (And.intro (TokR.c ((by assumption : _ → TokR _ _) y) rfl rfl) (And.intro hW (And.intro hS (ma_yes hM ?_))))) | (refine Exists.intro (fin (stR r)) (And.intro (TokR.c ((by assumption : _ → TokR _ _) y) rfl rfl) (And.intro hW2 (And.intro hS (ma_yes hM2 ?_))))) | apply And.intro | (with_reducible assumption) | (intro h9; first | (exfalso; omega) | (simp only [rI_rI, rJ_rJ, hI_rI, hJ_rI, hI_rJ, hJ_rJ, hI_rR, hR_rI, hR_rJ, hN_rI, hN_rJ, svH_63, svH_66, rfH_63, wvH_63, wvH_62, wvH_67, wvH_68, wvH_69, sc_63, sc_n62, sc_n67, sc_n68, sc_n69, sc_n70, reduceIte, Nat.reduceEqDiff, eq_self, up_up, up_self, up_ne, ne_eq, not_false_eq_true, Int.reduceEq, Int.reduceNeg, hI_wI, rE_62, rE_63, rE_64] at h9; first | (exfalso; omega) | skip) | skip) | (simp only [rI_rI, rJ_rJ, hI_rI, hJ_rI, hI_rJ, hJ_rJ, hI_rR, hR_rI, hR_rJ, hN_rI, hN_rJ, svH_63, svH_66, rfH_63, wvH_63, wvH_62, wvH_67, wvH_68, wvH_69, sc_63, sc_n62, sc_n67, sc_n68, sc_n69, sc_n70, reduceIte, Nat.reduceEqDiff, eq_self, up_up, up_self, up_ne, ne_eq, not_false_eq_true, Int.reduceEq, Int.reduceNeg, hI_wI, rE_62, rE_63, rE_64]; exact fr3a (by assumption) s0) | (simp only [rI_rI, rJ_rJ, hI_rI, hJ_rI, hI_rJ, hJ_rJ, hI_rR, hR_rI, hR_rJ, hN_rI, hN_rJ, svH_63, svH_66, rfH_63, wvH_63, wvH_62, wvH_67, wvH_68, wvH_69, sc_63, sc_n62, sc_n67, sc_n68, sc_n69, sc_n70, reduceIte, Nat.reduceEqDiff, eq_self, up_up, up_self, up_ne, ne_eq, not_false_eq_true, Int.reduceEq, Int.reduceNeg, hI_wI, rE_62, rE_63, rE_64]; exact fr3b (by assumption) s5) | (refine KK _ ?_ ?_ ?_ ?_ ?_ ?_ ?_ _) | exact rfl | exact MoR.wE _ _ _ _ _ | refine MoR.sv ?_ | refine MoR.rI ?_ (by decide) _ | (simp only [rI_rI, rJ_rJ, hI_rI, hJ_rI, hI_rJ, hJ_rJ, hI_rR, hR_rI, hR_rJ, hN_rI, hN_rJ, svH_63, svH_66, rfH_63, wvH_63, wvH_62, wvH_67, wvH_68, wvH_69, sc_63, sc_n62, sc_n67, sc_n68, sc_n69, sc_n70, reduceIte, Nat.reduceEqDiff, eq_self, up_up, up_self, up_ne, ne_eq, not_false_eq_true, Int.reduceEq, Int.reduceNeg, hI_wI, rE_62, rE_63, rE_64]; exact fr3 (by assumption)) | (simp only [rI_rI, rJ_rJ, hI_rI, hJ_rI, hI_rJ, hJ_rJ, hI_rR, hR_rI, hR_rJ, hN_rI, hN_rJ, svH_63, svH_66, rfH_63, wvH_63, wvH_62, wvH_67, wvH_68, wvH_69, sc_63, sc_n62, sc_n67, sc_n68, sc_n69, sc_n70, reduceIte, Nat.reduceEqDiff, eq_self, up_up, up_self, up_ne, ne_eq, not_false_eq_true, Int.reduceEq, Int.reduceNeg, hI_wI, rE_62, rE_63, rE_64]; exact fr6 (by assumption)) | exact h3 | exact h3 (by omega) | exact h4 | exact h4 (by omega) | omega | exact True.intro | (simp only [rI_rI, rJ_rJ, hI_rI, hJ_rI, hI_rJ, hJ_rJ, hI_rR, hR_rI, hR_rJ, hN_rI, hN_rJ, svH_63, svH_66, rfH_63, wvH_63, wvH_62, wvH_67, wvH_68, wvH_69, sc_63, sc_n62, sc_n67, sc_n68, sc_n69, sc_n70, reduceIte, Nat.reduceEqDiff, eq_self, up_up, up_self, up_ne, ne_eq, not_false_eq_true, Int.reduceEq, Int.reduceNeg, hI_wI, rE_62, rE_63, rE_64]; omega))
    · have ht2 : (t : Int) < pS (fin (stR r)) := by omega
      have I := bsI.all hW hS t (by omega) hM
      have E7 := Eq7.z (w := hI h 63) I.o.2.1 I.o.2.2.1
      have nM : ¬ bsM (fin (stR r) 52) (fin (stR r) 53) (fin (stR r) 54) (hI h 63) (pS (fin (stR r))).toNat := fun z => z.o t ht he
      repeat' (first | (refine Exists.intro r (And.intro hT (And.intro hz (reads_k ?_)))) | (refine Exists.intro (fin (stR r)) (And.intro (TokR.c ((by assumption : _ → TokR _ _) y) rfl rfl) (And.intro hW (And.intro hS (ma_no ht2 hM he ?_))))) | apply And.intro | (with_reducible assumption) | (intro h9; first | (exfalso; omega) | (simp only [rI_rI, rJ_rJ, hI_rI, hJ_rI, hI_rJ, hJ_rJ, hI_rR, hR_rI, hR_rJ, hN_rI, hN_rJ, svH_63, svH_66, rfH_63, wvH_63, wvH_62, wvH_67, wvH_68, wvH_69, sc_63, sc_n62, sc_n67, sc_n68, sc_n69, sc_n70, reduceIte, Nat.reduceEqDiff, eq_self, up_up, up_self, up_ne, ne_eq, not_false_eq_true, Int.reduceEq, Int.reduceNeg, hI_wI, rE_62, rE_63, rE_64] at h9; first | (exfalso; omega) | skip) | skip) | (refine NO _ 2 (Box.i ⟨?_, rfl, rfl, E7, rfl, rfl, ?_⟩) (Or.inr ⟨y, nM, rfl⟩)) | exact MoR.wE _ _ _ _ _ | refine MoR.rI ?_ (by decide) _ | exact fr2 (by assumption) _ _ _ (by assumption) (by assumption) | exact h3 | exact h3 (by omega) | exact h4 | exact h4 (by omega) | omega | exact True.intro | (simp only [rI_rI, rJ_rJ, hI_rI, hJ_rI, hI_rJ, hJ_rJ, hI_rR, hR_rI, hR_rJ, hN_rI, hN_rJ, svH_63, svH_66, rfH_63, wvH_63, wvH_62, wvH_67, wvH_68, wvH_69, sc_63, sc_n62, sc_n67, sc_n68, sc_n69, sc_n70, reduceIte, Nat.reduceEqDiff, eq_self, up_up, up_self, up_ne, ne_eq, not_false_eq_true, Int.reduceEq, Int.reduceNeg, hI_wI, rE_62, rE_63, rE_64]; omega))
  · repeat' (first | (refine Exists.intro r (And.intro hT (And.intro hz (reads_k ?_)))) | apply And.intro | (with_reducible assumption) | (intro h9; first | (exfalso; omega) | (simp only [rI_rI, rJ_rJ, hI_rI, hJ_rI, hI_rJ, hJ_rJ, hI_rR, hR_rI, hR_rJ, hN_rI, hN_rJ, svH_63, svH_66, rfH_63, wvH_63, wvH_62, wvH_67, wvH_68, wvH_69, sc_63, sc_n62, sc_n67, sc_n68, sc_n69, sc_n70, reduceIte, Nat.reduceEqDiff, eq_self, up_up, up_self, up_ne, ne_eq, not_false_eq_true, Int.reduceEq, Int.reduceNeg, hI_wI, rE_62, rE_63, rE_64] at h9; first | (exfalso; omega) | skip) | skip) | (refine h3 _ 1 (Box.i ⟨?_, rfl, rfl, Eq7.rf _, rfl, rfl, ?_⟩) (Or.inl ⟨y, rfl⟩)) | exact MoR.wE _ _ _ _ _ | refine MoR.rI ?_ (by decide) _ | exact fr1 (by assumption) _ _ (by assumption) (by assumption) | exact h3 | exact h3 (by omega) | exact h4 | exact h4 (by omega) | omega | exact True.intro | (simp only [rI_rI, rJ_rJ, hI_rI, hJ_rI, hI_rJ, hJ_rJ, hI_rR, hR_rI, hR_rJ, hN_rI, hN_rJ, svH_63, svH_66, rfH_63, wvH_63, wvH_62, wvH_67, wvH_68, wvH_69, sc_63, sc_n62, sc_n67, sc_n68, sc_n69, sc_n70, reduceIte, Nat.reduceEqDiff, eq_self, up_up, up_self, up_ne, ne_eq, not_false_eq_true, Int.reduceEq, Int.reduceNeg, hI_wI, rE_62, rE_63, rE_64]; omega))
theorem m_X10_read : MM 280 s_X10_read := mm_of (own := 9) (by rfl) k_X10_read (cl := [(276, s_X10_reads), (191, s_X10_refused), (278, s_X10_makesAll), (194, s_X10_saves)]) ⟨m_X10_reads, m_X10_refused, m_X10_makesAll, m_X10_saves, trivial⟩ o_X10_read

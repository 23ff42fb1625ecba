/-! ===== the reference: a text read ===== -/
theorem rsF_gd : ∀ (n : Nat) (r : Rw), (pE r ≠ -1 ∨ Gd r) → (pE (rsF n r) ≠ -1 ∨ Gd (rsF n r)) := by
  intro n
  induction n with
  | zero => intro r h; exact h
  | succ n ih =>
    intro r h
    by_cases q : pE r = -1 ∧ pP r < r 49 1
    · have e : rsF (n + 1) r = rsF n (tnS r) := if_pos q
      rw [e]
      refine ih _ ?_
      rcases h with h | h
      · exact absurd q.1 h
      · rcases tn_step h q.2 with t | t
        · exact Or.inl t
        · exact Or.inr t.1
    · rw [rsF_stop q]; exact h
/-- a text that is right: its steps -/
theorem fin_st {r : Rw} (h : Gd r) (e : rdA (fin r) = -1) : StP (fin r 52) (fin r 53) (fin r 54) (pS (fin r)) ∧ Gd (fin r) := by
  have g := rsF_gd (r 49 1 - pP r).toNat r (Or.inr h)
  have g : pE (fin r) ≠ -1 ∨ Gd (fin r) := g
  generalize fin r = q at *
  unfold rdA at e
  rcases g with g | g
  · rw [if_pos g] at e; exact absurd e g
  · obtain ⟨g1, g2, g3, g4, g5, g6, g7⟩ := g.o
    rw [if_neg (fun z => z g1)] at e
    by_cases w : whS q
    · obtain ⟨s0, o0, h3, h4, h5, h6⟩ := g7.o
      rw [if_pos w, w.1] at h6
      exact ⟨Box.i ⟨s0, by omega, h5, h6⟩, g⟩
    · rw [if_neg w] at e; omega
theorem bsM_or (K N X w : Int → Int) : ∀ m : Nat, bsM K N X w m ∨ ∃ t : Nat, t < m ∧ bsM K N X w t ∧ (bsR K N X w t).1 = -1 := by
  intro m
  induction m with
  | zero => exact Or.inl (Box.i fun s q => by omega)
  | succ m ih =>
    rcases ih with h | ⟨t, t0, t1, t2⟩
    · by_cases e : (bsR K N X w m).1 = -1
      · exact Or.inr ⟨m, by omega, h, e⟩
      · exact Or.inl (h.s e)
    · exact Or.inr ⟨t, by omega, t1, t2⟩
theorem ma_yes {K N X w : Int → Int} {S : Int} {P : (Int → Int) → Prop} {Q : Nat → (Int → Int) → Prop} (hM : bsM K N X w S.toNat) (k : ∀ f, P f) : (bsM K N X w S.toNat → ∀ f, P f) ∧ (∀ t : Nat, (t : Int) < S → bsM K N X w t → (bsR K N X w t).1 = -1 → ∀ f, Q t f) :=
  ⟨fun _ => k, fun t h1 _ h3 => absurd h3 (hM.o t (by omega))⟩
theorem ma_no {K N X w : Int → Int} {S : Int} {P : (Int → Int) → Prop} {Q : Nat → (Int → Int) → Prop} {t : Nat} (ht : (t : Int) < S) (hM : bsM K N X w t) (he : (bsR K N X w t).1 = -1) (k : ∀ f, Q t f) : (bsM K N X w S.toNat → ∀ f, P f) ∧ (∀ t : Nat, (t : Int) < S → bsM K N X w t → (bsR K N X w t).1 = -1 → ∀ f, Q t f) := by
  refine ⟨fun h => absurd he (h.o t (by omega)), fun s h1 h2 h3 => ?_⟩
  have : s = t := by
    by_cases a : s < t
    · exact absurd h3 (hM.o s a)
    · by_cases b : t < s
      · exact absurd he (h2.o t b)
      · omega
  subst this
  exact k
/-- the class's part of a heap is the same -/
def MoR (h g : Hp) : Prop := Box (g.1 = h.1 ∧ g.2.2 = h.2.2 ∧ ∀ a, a < 62 → hI g a = hI h a)
theorem MoR.rf (h : Hp) : MoR h h := Box.i ⟨rfl, rfl, fun _ _ => rfl⟩
theorem MoR.rI {h g : Hp} (m : MoR h g) {a : Nat} (ha : 62 ≤ a) (f : Int → Int) : MoR h (CWordSolverLaw_law_r6868_1636c8.rI g a f) := by
  obtain ⟨m1, m2, m3⟩ := m.o
  refine Box.i ⟨m1, m2, fun b hb => ?_⟩
  rw [hI_rI']
  rw [if_neg (by omega)]
  exact m3 b hb
theorem MoR.tr {h g k : Hp} (a : MoR h g) (b : MoR g k) : MoR h k := by
  obtain ⟨a1, a2, a3⟩ := a.o
  obtain ⟨b1, b2, b3⟩ := b.o
  exact Box.i ⟨b1.trans a1, b2.trans a2, fun c hc => (b3 c hc).trans (a3 c hc)⟩
theorem MoR.sv {h g : Hp} (m : MoR h g) : MoR h (svH g) := (m.rI (show 62 ≤ 64 by decide) _).rI (show 62 ≤ 62 by decide) _
/-- the rows that reading changes -/
def rE (h : Hp) (F A B C : Int → Int) : Rw := ur (ur (ur (ur (hI h) 62 F) 71 A) 72 B) 73 C
def Fr4 (F0 F : Int → Int) : Prop := Box (∀ j, j ≠ 15 → j ≠ 18 → j ≠ 19 → j ≠ 20 → F j = F0 j)
theorem reads_k {h : Hp} {P Q : Rw → Prop} (k : ∀ F A B C, Fr4 (hI h 62) F → Q (rE h F A B C) → P (rE h F A B C)) : ∀ H, FrT (hI h) H → Q H → P H := by
  intro H f q
  have e : rE h (H 62) (H 71) (H 72) (H 73) = H := by
    funext a
    unfold rE ur
    by_cases a1 : a = 73
    · subst a1; rfl
    by_cases a2 : a = 72
    · subst a2; rfl
    by_cases a3 : a = 71
    · subst a3; rfl
    by_cases a4 : a = 62
    · subst a4; rfl
    rw [if_neg a1, if_neg a2, if_neg a3, if_neg a4]
    exact (f.o.1 a a4 a3 a2 a1).symm
  have := k (H 62) (H 71) (H 72) (H 73) (Box.i f.o.2)
  rw [e] at this
  exact this q
theorem MoR.wE (h : Hp) (F A B C : Int → Int) : MoR h (wI h (rE h F A B C)) := Box.i ⟨rfl, rfl, fun a ha => by
  show rE h F A B C a = _
  unfold rE
  rw [ur_ne (by omega), ur_ne (by omega), ur_ne (by omega), ur_ne (by omega)]⟩
/-- a call refused -/
def RdX (h g : Hp) (k : Int) : Prop := Box (MoR h g ∧ hI g 66 = hI h 66 ∧ hI g 64 = hI h 64 ∧ Eq7 (hI h 63) (hI g 63) ∧ hI g 69 = hI h 69 ∧ hI g 62 4 = k ∧ ∀ j, j ≠ 4 → j < 15 → hI g 62 j = hI h 62 j)
/-- a node made of a text -/
def RdY (h g : Hp) (u : Int → Int) : Prop := Box (MoR h g ∧ hI g 66 = hI h 66 ∧ hI g 64 = svPp (hI h 64) (hI h 62 3) u ∧ hI g 62 3 = svS (hI h 62 3) ∧ hI g 62 4 = 0 ∧ hI g 62 10 = 1 ∧ hI g 62 6 = hI h 62 6)
theorem Eq7.z {w v : Int → Int} (hx : Nx w v) (e : ∀ j, 281 ≤ j → v j = w j) : Eq7 w (up v 0 (w 0)) := by
  obtain ⟨h1, h2, h3, h4, h5⟩ := hx.o
  refine Box.i ⟨Box.i ⟨by rw [up_self]; exact Int.le_refl _, fun n j n0 n1 j0 j1 => ?_, by rw [up_ne (by decide)]; exact h3, fun x x0 x1 => by rw [up_ne (by omega)]; exact h4 x x0 x1, fun j hj => by rw [up_ne (by omega)]; exact h5 j hj⟩, up_self _ _ _, fun j hj => by rw [up_ne (by omega)]; exact e j hj⟩
  have := h2 n j n0 n1 j0 j1
  unfold nd at *
  rw [up_ne (by omega)]
  exact this
theorem Eq7.wf {w u : Int → Int} (h : Eq7 w u) (hW : WF w) : WF u := by
  obtain ⟨h1, h2, h3⟩ := h.o
  exact hW.ext h1 (by have := hW.nn; omega) h3 fun n n0 n1 => by omega
theorem TokR.c {H H' q : Rw} (h : TokR H q) (e1 : H' 71 = H 71) (e2 : H' 62 15 = H 62 15) : TokR H' q := by
  unfold TokR
  rw [e1, e2]
  exact h
theorem svP_eq (h : Hp) : svP h = svPp (hI h 64) (hI h 62 3) (hI h 63) := rfl
theorem ur_i (r : Rw) (a : Nat) (f : Int → Int) (b : Nat) : ur r a f b = if b = a then f else r b := rfl
theorem rE_62 (h : Hp) (F A B C : Int → Int) : rE h F A B C 62 = F := rfl
theorem rE_63 (h : Hp) (F A B C : Int → Int) : rE h F A B C 63 = hI h 63 := rfl
theorem rE_64 (h : Hp) (F A B C : Int → Int) : rE h F A B C 64 = hI h 64 := rfl
theorem fr2 {F0 F : Int → Int} (f : Fr4 F0 F) (x y : Int) : ∀ j, j ≠ 4 → j < 15 → up (up F 4 x) 4 y j = F0 j := fun j a b => by
  rw [up_ne a, up_ne a]
  exact f.o j (by omega) (by omega) (by omega) (by omega)
theorem fr1 {F0 F : Int → Int} (f : Fr4 F0 F) (x : Int) : ∀ j, j ≠ 4 → j < 15 → up F 4 x j = F0 j := fun j a b => by
  rw [up_ne a]
  exact f.o j (by omega) (by omega) (by omega) (by omega)
theorem fr3 {F0 F : Int → Int} (f : Fr4 F0 F) : F 3 = F0 3 := f.o 3 (by decide) (by decide) (by decide) (by decide)
theorem fr6 {F0 F : Int → Int} (f : Fr4 F0 F) : F 6 = F0 6 := f.o 6 (by decide) (by decide) (by decide) (by decide)
theorem fr3a {F0 F : Int → Int} (f : Fr4 F0 F) (h : 0 ≤ F0 3) : 0 ≤ F 3 := by rw [fr3 f]; exact h
theorem fr3b {F0 F : Int → Int} (f : Fr4 F0 F) (h : F0 3 ≤ 5) : F 3 ≤ 5 := by rw [fr3 f]; exact h
/-! ===== the reference: what is saved and brought back ===== -/
theorem rI_rI (h : Hp) (a : Nat) (f g : Int → Int) : rI (rI h a f) a g = rI h a g := by
  unfold rI
  congr 2
  funext b
  by_cases e : b = a
  · simp [e]
  · simp [e]
theorem rJ_rJ (h : Hp) (a : Nat) (f g : Int → Int64) : rJ (rJ h a f) a g = rJ h a g := by
  unfold rJ
  congr 3
  funext b
  by_cases e : b = a
  · simp [e]
  · simp [e]
theorem rI_comm (h : Hp) {a b : Nat} (e : a ≠ b) (f g : Int → Int) : rI (rI h a f) b g = rI (rI h b g) a f := by
  unfold rI
  congr 2
  funext c
  by_cases e1 : c = a
  · subst e1; simp [e]
  · simp [e1]
theorem rI_id (h : Hp) (a : Nat) : rI h a (hI h a) = h := by
  unfold rI hI
  have : (fun b => if b = a then h.2.1 a else h.2.1 b) = h.2.1 := by
    funext b
    by_cases e : b = a
    · subst e; simp
    · simp [e]
  rw [this]
theorem rJ_id (h : Hp) (a : Nat) : rJ h a (hJ h a) = h := by
  unfold rJ hJ
  have : (fun b => if b = a then h.2.2.1 a else h.2.2.1 b) = h.2.2.1 := by
    funext b
    by_cases e : b = a
    · subst e; simp
    · simp [e]
  rw [this]
theorem rt_eq {Rt : Option AV → Hp → Prop} {r r' : Option AV} {h h' : Hp} (hs : Rt r' h') (e1 : r' = r) (e2 : h' = h) : Rt r h := e1 ▸ e2 ▸ hs
theorem up_ne {α : Type} {f : Int → α} {k : Int} {x : α} {j : Int} (h : j ≠ k) : up f k x j = f j := by
  unfold up
  rw [if_neg h]
theorem up_up {α : Type} (f : Int → α) (k : Int) (x y : α) : up (up f k x) k y = up f k y := by
  funext j
  unfold up
  by_cases e : j = k
  · simp [e]
  · simp [e]
theorem up_comm {α : Type} (f : Int → α) {k j : Int} (e : k ≠ j) (x y : α) : up (up f k x) j y = up (up f j y) k x := by
  funext i
  unfold up
  by_cases e1 : i = k
  · subst e1; simp [e]
  · simp [e1]
/-- the saved rows, the oldest of them fallen away as far as the place i -/
def pSh (p : Int → Int) (i : Int) : Int → Int := fun j => if 0 ≤ j ∧ j < i then p (j + 349) else p j
/-- a row put among the saved ones, as far as its place i -/
def pPut (p : Int → Int) (s : Int) (w : Int → Int) (i : Int) : Int → Int := fun j => if 349 * s ≤ j ∧ j < 349 * s + i then w (j - 349 * s) else p j
theorem pSh_0 (p : Int → Int) : pSh p 0 = p := by
  funext j
  unfold pSh
  rw [if_neg (by omega)]
theorem pSh_step (p : Int → Int) {i : Int} (h : 0 ≤ i) : up (pSh p i) i (pSh p i (i + 349)) = pSh p (i + 1) := by
  funext j
  unfold up pSh
  by_cases e : j = i
  · subst e
    rw [if_pos rfl, if_neg (by omega), if_pos (by omega)]
  · rw [if_neg e]
    by_cases e2 : 0 ≤ j ∧ j < i
    · rw [if_pos e2, if_pos (by omega)]
    · rw [if_neg e2, if_neg (by omega)]
theorem pPut_0 (p : Int → Int) (s : Int) (w : Int → Int) : pPut p s w 0 = p := by
  funext j
  unfold pPut
  rw [if_neg (by omega)]
theorem pPut_step (p : Int → Int) (s : Int) (w : Int → Int) {i : Int} (h : 0 ≤ i) : up (pPut p s w i) (349 * s + i) (w i) = pPut p s w (i + 1) := by
  funext j
  unfold up pPut
  by_cases e : j = 349 * s + i
  · subst e
    rw [if_pos rfl, if_pos (by omega)]
    congr 1
    omega
  · rw [if_neg e]
    by_cases e2 : 349 * s ≤ j ∧ j < 349 * s + i
    · rw [if_pos e2, if_pos (by omega)]
    · rw [if_neg e2, if_neg (by omega)]
/-- the saved rows and the fields behind a save -/
def svP (h : Hp) : Int → Int := if hI h 62 3 = 5 then pPut (pSh (hI h 64) 1396) 4 (hI h 63) 349 else pPut (hI h 64) (hI h 62 3) (hI h 63) 349
def svF (h : Hp) : Int → Int := up (up (hI h 62) 3 (if hI h 62 3 = 5 then 5 else hI h 62 3 + 1)) 10 1
def svH (h : Hp) : Hp := rI (rI h 64 (svP h)) 62 (svF h)
def s_X10_saves : CS := (zc 1, ap [(3, 62)] (fun  h Rt X =>
0 ≤ hI h 62 3 ∧ hI h 62 3 ≤ 5 ∧ Rt none (svH h)))
set_option maxRecDepth 100000 in
set_option maxHeartbeats 4000000 in
theorem o_X10_saves : Obl true 0 2 (sp []) [] code_X10_saves s_X10_saves := by
  refine oblL (by rfl) [(10, [0, 1]), (51, [0, 1])] ?_
  intro  h Rt X hh hf hs
  obtain ⟨h1, h2, h3⟩ := hs
  refine ⟨fun k pc vs g => ∃ (i : Int), vs = [.inr (.inr (some 62)), .inl i] ∧ 0 ≤ i ∧ ((pc = 10 ∧ hI h 62 3 = 5 ∧ g = rI h 64 (pSh (hI h 64) i) ∧ i ≤ 1396 ∧ k = 1000 + (1396 - i).toNat) ∨ (pc = 51 ∧ i ≤ 349 ∧ k = (349 - i).toNat ∧ ((hI h 62 3 = 5 ∧ g = rI (rI h 64 (pPut (pSh (hI h 64) 1396) 4 (hI h 63) i)) 62 (up (hI h 62) 3 4)) ∨ (hI h 62 3 ≠ 5 ∧ g = rI h 64 (pPut (hI h 64) (hI h 62 3) (hI h 63) i))))), ?_, ?_⟩
  · have e1 : rI h 64 (pSh (hI h 64) 0) = h := by rw [pSh_0, rI_id]
    have e2 : rI h 64 (pPut (hI h 64) (hI h 62 3) (hI h 63) 0) = h := by rw [pPut_0, rI_id]
    repeat' (first | apply And.intro | (intro _; try (exfalso; omega)) | exact Exists.intro _ ⟨0, rfl, by omega, Or.inl ⟨rfl, by omega, e1.symm, by omega, rfl⟩⟩ | exact Exists.intro _ ⟨0, rfl, by omega, Or.inr ⟨rfl, by omega, rfl, Or.inr ⟨by omega, e2.symm⟩⟩⟩ | exact h1 | exact h1 (by omega) | exact h2 | exact h2 (by omega) | exact h3 | exact h3 (by omega) | omega | (simp only [rI_rI, rJ_rJ, hI_rI, hJ_rI, hI_rJ, hJ_rJ, hR_rI, hR_rJ, hN_rI, hN_rJ, reduceIte, Nat.reduceEqDiff, eq_self, up_up, up_self, up_ne, ne_eq, not_false_eq_true, Int.reduceEq, Int.reduceNeg]; omega))
  · rintro k pc live vs g hl ⟨i, rfl, i0, ⟨rfl, i1, rfl, i2, rfl⟩ | ⟨rfl, i2, rfl, ⟨i1, rfl⟩ | ⟨i1, rfl⟩⟩⟩ hv hh1 hf1
    · rcases look2 hl with ⟨_, rfl⟩ | ⟨q, _⟩
      · have e3 : hI (rI h 64 (pSh (hI h 64) i)) 62 3 = 5 := i1
        repeat' (first | apply And.intro | (intro _; try (exfalso; omega)) | exact Exists.intro _ ⟨by omega, i + 1, rfl, by omega, Or.inl ⟨rfl, i1, by simp only [rI_rI, rJ_rJ, hI_rI, hJ_rI, hI_rJ, hJ_rJ, hR_rI, hR_rJ, hN_rI, hN_rJ, reduceIte, Nat.reduceEqDiff, eq_self, up_up, up_self, up_ne, ne_eq, not_false_eq_true, Int.reduceEq, Int.reduceNeg]; rw [pSh_step _ i0], by omega, rfl⟩⟩ | (obtain rfl : i = 1396 := (by omega); exact Exists.intro _ ⟨by omega, 0, rfl, by omega, Or.inr ⟨rfl, by omega, rfl, Or.inl ⟨i1, by simp only [rI_rI, rJ_rJ, hI_rI, hJ_rI, hI_rJ, hJ_rJ, hR_rI, hR_rJ, hN_rI, hN_rJ, reduceIte, Nat.reduceEqDiff, eq_self, up_up, up_self, up_ne, ne_eq, not_false_eq_true, Int.reduceEq, Int.reduceNeg]; rw [pPut_0, i1]; rfl⟩⟩⟩) | exact h1 | exact h1 (by omega) | exact h2 | exact h2 (by omega) | exact h3 | exact h3 (by omega) | omega | (simp only [rI_rI, rJ_rJ, hI_rI, hJ_rI, hI_rJ, hJ_rJ, hR_rI, hR_rJ, hN_rI, hN_rJ, reduceIte, Nat.reduceEqDiff, eq_self, up_up, up_self, up_ne, ne_eq, not_false_eq_true, Int.reduceEq, Int.reduceNeg]; omega))
      · cases q
    · rcases look2 hl with ⟨q, _⟩ | ⟨_, rfl⟩
      · cases q
      · have e3 : hI (rI (rI h 64 (pPut (pSh (hI h 64) 1396) 4 (hI h 63) i)) 62 (up (hI h 62) 3 4)) 62 3 = 4 := rfl
        repeat' (first | apply And.intro | (intro _; try (exfalso; omega)) | exact Exists.intro _ ⟨by omega, i + 1, rfl, by omega, Or.inr ⟨rfl, by omega, rfl, Or.inl ⟨i1, by simp only [rI_rI, rJ_rJ, hI_rI, hJ_rI, hI_rJ, hJ_rJ, hR_rI, hR_rJ, hN_rI, hN_rJ, reduceIte, Nat.reduceEqDiff, eq_self, up_up, up_self, up_ne, ne_eq, not_false_eq_true, Int.reduceEq, Int.reduceNeg]; rw [rI_comm _ (by decide : (62 : Nat) ≠ 64)]; simp only [rI_rI, rJ_rJ, hI_rI, hJ_rI, hI_rJ, hJ_rJ, hR_rI, hR_rJ, hN_rI, hN_rJ, reduceIte, Nat.reduceEqDiff, eq_self, up_up, up_self, up_ne, ne_eq, not_false_eq_true, Int.reduceEq, Int.reduceNeg]; rw [pPut_step _ 4 _ i0]⟩⟩⟩ | (obtain rfl : i = 349 := (by omega); refine rt_eq h3 rfl ?_; unfold svH svP svF; simp only [rI_rI, rJ_rJ, hI_rI, hJ_rI, hI_rJ, hJ_rJ, hR_rI, hR_rJ, hN_rI, hN_rJ, reduceIte, Nat.reduceEqDiff, eq_self, up_up, up_self, up_ne, ne_eq, not_false_eq_true, Int.reduceEq, Int.reduceNeg]; rw [i1]; rfl) | exact h1 | exact h1 (by omega) | exact h2 | exact h2 (by omega) | exact h3 | exact h3 (by omega) | omega | (simp only [rI_rI, rJ_rJ, hI_rI, hJ_rI, hI_rJ, hJ_rJ, hR_rI, hR_rJ, hN_rI, hN_rJ, reduceIte, Nat.reduceEqDiff, eq_self, up_up, up_self, up_ne, ne_eq, not_false_eq_true, Int.reduceEq, Int.reduceNeg]; omega))
    · rcases look2 hl with ⟨q, _⟩ | ⟨_, rfl⟩
      · cases q
      · have e3 : hI (rI h 64 (pPut (hI h 64) (hI h 62 3) (hI h 63) i)) 62 3 = hI h 62 3 := rfl
        repeat' (first | apply And.intro | (intro _; try (exfalso; omega)) | exact Exists.intro _ ⟨by omega, i + 1, rfl, by omega, Or.inr ⟨rfl, by omega, rfl, Or.inr ⟨i1, by simp only [rI_rI, rJ_rJ, hI_rI, hJ_rI, hI_rJ, hJ_rJ, hR_rI, hR_rJ, hN_rI, hN_rJ, reduceIte, Nat.reduceEqDiff, eq_self, up_up, up_self, up_ne, ne_eq, not_false_eq_true, Int.reduceEq, Int.reduceNeg]; rw [pPut_step _ _ _ i0]⟩⟩⟩ | (obtain rfl : i = 349 := (by omega); refine rt_eq h3 rfl ?_; unfold svH svP svF; simp only [rI_rI, rJ_rJ, hI_rI, hJ_rI, hI_rJ, hJ_rJ, hR_rI, hR_rJ, hN_rI, hN_rJ, reduceIte, Nat.reduceEqDiff, eq_self, up_up, up_self, up_ne, ne_eq, not_false_eq_true, Int.reduceEq, Int.reduceNeg]; rw [if_neg i1, if_neg i1]) | exact h1 | exact h1 (by omega) | exact h2 | exact h2 (by omega) | exact h3 | exact h3 (by omega) | omega | (simp only [rI_rI, rJ_rJ, hI_rI, hJ_rI, hI_rJ, hJ_rJ, hR_rI, hR_rJ, hN_rI, hN_rJ, reduceIte, Nat.reduceEqDiff, eq_self, up_up, up_self, up_ne, ne_eq, not_false_eq_true, Int.reduceEq, Int.reduceNeg]; omega))
theorem m_X10_saves : MM 194 s_X10_saves := mm_of (own := 9) (by rfl) k_X10_saves (cl := []) trivial o_X10_saves

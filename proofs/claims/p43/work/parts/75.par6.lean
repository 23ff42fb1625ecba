/-! ===== the reader's invariant ===== -/
/-- how many nodes stand after some steps -/
def szF (K : Int → Int) : Nat → Int
  | 0 => 0
  | t + 1 => szF K t - opc (K t) + 1
/-- how many nodes the open ones have got -/
def smG (A B : Int → Int) : Nat → Int
  | 0 => 0
  | i + 1 => smG A B i + (opc (A i) - B i)
/-- a step that can be made -/
def TkO (k n x : Int) : Prop := Box ((k = 0 ∧ 0 ≤ n ∧ n ≤ 999 ∧ 0 ≤ x ∧ x ≤ 9) ∨ (k = 1 ∧ 0 ≤ n ∧ n ≤ 9) ∨ (2 ≤ k ∧ k ≤ 24 ∧ 0 ≤ n ∧ n ≤ 99 ∧ (dgc k = 0 → n = 0) ∧ (dgc k = 1 → n ≤ 9)))
/-- an open one -/
def OpO (k b d n : Int) : Prop := Box (2 ≤ k ∧ k ≤ 24 ∧ 0 ≤ b ∧ b ≤ opc k ∧ 0 ≤ d ∧ d ≤ dgc k ∧ (0 < b → d = dgc k) ∧ 0 ≤ n ∧ n ≤ 99 ∧ (d = dgc k → n = 0) ∧ (d = dgc k - 1 → n ≤ 9))
def PI (r : Rw) : Prop := Box (0 ≤ pS r ∧ 0 ≤ pO r ∧ (∀ i, 0 ≤ i → i < pO r → OpO (r 55 i) (r 56 i) (r 57 i) (r 58 i)) ∧ (∀ i, 0 ≤ i → i < pO r - 1 → 1 ≤ r 56 i) ∧ (∀ t, 0 ≤ t → t < pS r → TkO (r 52 t) (r 53 t) (r 54 t) ∧ opc (r 52 t) ≤ szF (r 52) t.toNat) ∧ szF (r 52) (pS r).toNat = smG (r 55) (r 56) (pO r).toNat + (if pO r = 0 ∧ 0 < pS r then 1 else 0))
theorem PI.cg {r s : Rw} (h : PI r) (e1 : s 51 6 = r 51 6) (e2 : s 51 11 = r 51 11) (e3 : ∀ a, 52 ≤ a → a ≤ 58 → s a = r a) : PI s := by
  unfold PI pS pO
  rw [e1, e2, e3 52 (by decide) (by decide), e3 53 (by decide) (by decide), e3 54 (by decide) (by decide), e3 55 (by decide) (by decide), e3 56 (by decide) (by decide), e3 57 (by decide) (by decide), e3 58 (by decide) (by decide)]
  exact h
theorem szF_up {K : Int → Int} {s k : Int} : ∀ t : Nat, (t : Int) ≤ s → szF (up K s k) t = szF K t := by
  intro t
  induction t with
  | zero => intro _; rfl
  | succ t ih =>
    intro h
    show szF (up K s k) t - opc (up K s k t) + 1 = szF K t - opc (K t) + 1
    rw [ih (by omega), up_ne (by omega)]
theorem szF_s {K : Int → Int} {s : Int} (h : 0 ≤ s) : szF K (s + 1).toNat = szF K s.toNat - opc (K s) + 1 := by
  rw [show (s + 1).toNat = s.toNat + 1 by omega]
  show szF K s.toNat - opc (K (s.toNat : Int)) + 1 = _
  rw [show ((s.toNat : Nat) : Int) = s by omega]
theorem smG_s {A B : Int → Int} {s : Int} (h : 0 ≤ s) : smG A B (s + 1).toNat = smG A B s.toNat + (opc (A s) - B s) := by
  rw [show (s + 1).toNat = s.toNat + 1 by omega]
  show smG A B s.toNat + (opc (A (s.toNat : Int)) - B (s.toNat : Int)) = _
  rw [show ((s.toNat : Nat) : Int) = s by omega]
theorem smG_cg {A B C D : Int → Int} : ∀ t : Nat, (∀ i, 0 ≤ i → i < (t : Int) → A i = C i ∧ B i = D i) → smG A B t = smG C D t := by
  intro t
  induction t with
  | zero => intro _; rfl
  | succ t ih =>
    intro h
    show smG A B t + (opc (A t) - B t) = smG C D t + (opc (C t) - D t)
    rw [ih fun i a b => h i a (by omega), (h t (by omega) (by omega)).1, (h t (by omega) (by omega)).2]
theorem smG_nn {A B : Int → Int} : ∀ t : Nat, (∀ i, 0 ≤ i → i < (t : Int) → B i ≤ opc (A i)) → 0 ≤ smG A B t := by
  intro t
  induction t with
  | zero => intro _; exact Int.le_refl _
  | succ t ih =>
    intro h
    show 0 ≤ smG A B t + (opc (A t) - B t)
    have := ih fun i a b => h i a (by omega)
    have := h t (by omega) (by omega)
    omega
/-- one node more at the top -/
theorem smG_top {A B : Int → Int} {o : Int} (h : 0 < o) : smG A (up B (o - 1) (B (o - 1) - 1)) o.toNat = smG A B o.toNat + 1 := by
  have e := smG_s (A := A) (B := B) (s := o - 1) (by omega)
  have e2 := smG_s (A := A) (B := up B (o - 1) (B (o - 1) - 1)) (s := o - 1) (by omega)
  rw [show o - 1 + 1 = o by omega] at e e2
  rw [e, e2, up_self, smG_cg (C := A) (D := B) _ fun i i0 i1 => ⟨rfl, up_ne (by omega)⟩]
  omega
theorem opc_rng (k : Int) : 0 ≤ opc k ∧ opc k ≤ 3 ∧ (2 ≤ k → 1 ≤ opc k) ∧ (k < 2 → opc k = 0) := by
  unfold opc
  split
  · omega
  · split
    · omega
    · split <;> omega
theorem dgc_rng (k : Int) : 0 ≤ dgc k ∧ dgc k ≤ 2 := by
  unfold dgc
  split
  · omega
  · split <;> omega
/-- the steps, the parts, what is open after a step more -/
theorem adS_6 (r : Rw) (k n x : Int) : adS r k n x 51 6 = r 51 6 + 1 := by unfold adS; split <;> rfl
theorem adS_F (r : Rw) (k n x : Int) {j : Int} (h : j ≠ 6) : adS r k n x 51 j = r 51 j := by
  unfold adS
  split
  · show up (r 51) 6 _ j = _
    exact up_ne h
  · show up (r 51) 6 _ j = _
    exact up_ne h
theorem adS_52 (r : Rw) (k n x : Int) : adS r k n x 52 = up (r 52) (pS r) k := by unfold adS; split <;> rfl
theorem adS_53 (r : Rw) (k n x : Int) : adS r k n x 53 = up (r 53) (pS r) n := by unfold adS; split <;> rfl
theorem adS_54 (r : Rw) (k n x : Int) : adS r k n x 54 = up (r 54) (pS r) x := by unfold adS; split <;> rfl
theorem adS_ne (r : Rw) (k n x : Int) {a : Nat} (h : a ≠ 51 ∧ a ≠ 52 ∧ a ≠ 53 ∧ a ≠ 54 ∧ a ≠ 56) : adS r k n x a = r a := by
  obtain ⟨h1, h2, h3, h4, h5⟩ := h
  unfold adS sF
  split
  · rw [ur_ne h5, ur_ne h1, ur_ne h4, ur_ne h3, ur_ne h2]
  · rw [ur_ne h1, ur_ne h4, ur_ne h3, ur_ne h2]
theorem adS_56 (r : Rw) (k n x : Int) : adS r k n x 56 = if 0 < pO r then up (r 56) (pO r - 1) (r 56 (pO r - 1) - 1) else r 56 := by unfold adS; split <;> rfl
/-- a step more: its operands are the nodes that stand on top -/
theorem PI.adq {r : Rw} {k n x : Int} (s0 : 0 ≤ pS r) (o0 : 0 ≤ pO r) (h3 : ∀ i, 0 ≤ i → i < pO r → OpO (r 55 i) (r 56 i) (r 57 i) (r 58 i)) (h4 : ∀ i, 0 ≤ i → i < pO r → 1 ≤ r 56 i)
    (h5 : ∀ t, 0 ≤ t → t < pS r → TkO (r 52 t) (r 53 t) (r 54 t) ∧ opc (r 52 t) ≤ szF (r 52) t.toNat) (h6 : szF (r 52) (pS r).toNat = smG (r 55) (r 56) (pO r).toNat + opc k) (hk : TkO k n x) (hz : pO r = 0 → szF (r 52) (pS r).toNat = opc k) : PI (adS r k n x) := by
  have e6 := adS_6 r k n x
  have e11 := adS_F r k n x (show (11 : Int) ≠ 6 by decide)
  have nn := smG_nn (A := r 55) (B := r 56) (pO r).toNat fun i i0 i1 => (h3 i i0 (by omega)).o.2.2.2.1
  unfold PI pS pO
  rw [e6, e11, adS_52, adS_53, adS_54, adS_56, adS_ne r k n x (a := 55) (by decide), adS_ne r k n x (a := 57) (by decide), adS_ne r k n x (a := 58) (by decide)]
  have u1 : 0 ≤ r 51 6 := s0
  have u2 : 0 ≤ r 51 11 := o0
  refine Box.i ⟨by omega, o0, ?_, ?_, ?_, ?_⟩
  · intro i i0 i1
    by_cases z : 0 < pO r
    · rw [if_pos z]
      have h := (h3 i i0 i1).o
      have h4 := h4 i i0 i1
      by_cases y : i = pO r - 1
      · subst y
        rw [up_self]
        exact Box.i ⟨h.1, h.2.1, by omega, by omega, h.2.2.2.2.1, h.2.2.2.2.2.1, fun q => h.2.2.2.2.2.2.1 (by omega), h.2.2.2.2.2.2.2⟩
      · rw [up_ne y]; exact Box.i h
    · rw [if_neg z]; exact h3 i i0 i1
  · intro i i0 i1
    have z : 0 < pO r := by
      have : pO r = r 51 11 := rfl
      omega
    rw [if_pos z, up_ne (by have : pO r = r 51 11 := rfl; omega)]
    exact h4 i i0 (by have : pO r = r 51 11 := rfl; omega)
  · intro t t0 t1
    have e : pS r = r 51 6 := rfl
    by_cases y : t = pS r
    · subst y
      rw [up_self, up_self, up_self, szF_up _ (by omega)]
      exact ⟨hk, by omega⟩
    · rw [up_ne y, up_ne y, up_ne y, szF_up _ (by omega)]
      exact h5 t t0 (by omega)
  · have e := szF_s (K := up (r 52) (pS r) k) (s := pS r) s0
    rw [up_self, szF_up (pS r).toNat (by omega)] at e
    have e9 : r 51 6 = pS r := rfl
    have e8 : r 51 11 = pO r := rfl
    rw [e9, e8, e]
    by_cases z : 0 < pO r
    · rw [if_pos z, smG_top z, if_neg (by omega)]
      omega
    · have z0 : pO r = 0 := by omega
      rw [if_neg z, if_pos ⟨z0, by omega⟩, z0]
      have := hz z0
      show _ = smG (r 55) (r 56) 0 + 1
      have q : smG (r 55) (r 56) 0 = 0 := rfl
      omega

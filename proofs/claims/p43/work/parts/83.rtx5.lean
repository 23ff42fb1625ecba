/-! ===== the reference: a word behind a parenthesis ===== -/
theorem opE_isL (r : Rw) (a : Int) : ∀ (n : Nat), a + n ≤ opE r a → ∀ i, 0 ≤ i → i < (n : Int) → isL r (a + i) := by
  intro n
  induction n with
  | zero => intro _ i i0 i1; omega
  | succ n ih =>
    intro h i i0 i1
    by_cases e : i = n
    · subst e
      have q : ∀ m : Nat, m ≤ n → opE r (a + m) = opE r a := by
        intro m
        induction m with
        | zero => intro _; rw [show a + ((0 : Nat) : Int) = a by omega]
        | succ m ihm =>
          intro hm
          have := ih (by omega) m (by omega) (by omega)
          have lt : a + m < r 49 1 := (tA_in (k := a + m) (by omega)).2
          rw [show a + ((m + 1 : Nat) : Int) = a + m + 1 by omega, ← opE_t lt this]
          exact ihm (by omega)
      have q2 := q n (Nat.le_refl _)
      by_cases z : isL r (a + n)
      · exact z
      · have := opE_f (r := r) (p := a + n) (Or.inr z)
        omega
    · exact ih (by omega) i i0 (by omega)
theorem opE_end (r : Rw) (a : Int) : ¬ isL r (opE r a) := by
  intro e
  have lt : opE r a < r 49 1 := (tA_in (k := opE r a) (by omega)).2
  exact of_decide_eq_false (whl_end (P := fun k => decide (isL r k)) lt) e
theorem rI_o3 (h : Hp) (X Y Z W : Int → Int) : rI (rI (rI (rI h 62 X) 72 Y) 73 Z) 62 W = rI (rI (rI h 72 Y) 73 Z) 62 W := by
  unfold rI
  congr 2
  funext q
  show (if q = 62 then W else if q = 73 then Z else if q = 72 then Y else if q = 62 then X else h.2.1 q) = (if q = 62 then W else if q = 73 then Z else if q = 72 then Y else h.2.1 q)
  by_cases e1 : q = 62
  · rw [if_pos e1, if_pos e1]
  · rw [if_neg e1, if_neg e1, if_neg e1]
theorem kdF_fst {r : Rw} {a n : Int} (n0 : 0 ≤ n) (h : ∀ i, 0 ≤ i → i < n → 97 ≤ tA r (a + i) ∧ tA r (a + i) ≤ 122) : fst (fun j => decide (wdL (j + 2) = ltF r a n.toNat)) 23 = fst (kdP r a n) 23 := by
  refine fst_congr fun j j0 j1 => ?_
  unfold kdP
  exact decide_eq_decide.mpr (wd_iff (by omega) (by omega) n0 h)
theorem kdF_0 (r : Rw) (a : Int) : kdF r a 0 = -1 := by
  rcases kdF_rng r a 0 with e | ⟨k0, k1, k2⟩
  · exact e
  · have w := wl_0 (kdF r a 0 - 2).toNat (by omega)
    rw [show (((kdF r a 0 - 2).toNat : Nat) : Int) + 2 = kdF r a 0 by omega, k2.2.1] at w
    exact absurd (if_neg (by decide)) w
/-! ===== the reference: its text, letter by letter ===== -/
def wdT : List Nat := [6579297, 6452595, 7107949, 6581857, 29295, 7499640, 7104627, 7497843, 7496051, 7760228, 7169394, 29029, 29804, 25964, 7629939, 6646899, 7627107, 7630702, 6776174, 435459550323, 1954047354, 1954047347, 6648937]
def wdL (k : Int) : Int64 := if 2 ≤ k ∧ k ≤ 24 then Int64.ofNat (wdT.getD (k - 2).toNat 0) else 0
/-- the rows hold the text -/
def TeQ (H : Rw) (r : Rw) : Prop := Box (H 62 6 = r 49 1 ∧ 0 ≤ r 49 1 ∧ r 49 1 ≤ 120 ∧ ∀ k, 0 ≤ k → k < r 49 1 → H 66 k = r 50 k)
def spk (r : Rw) (p : Int) : Int := whl (fun k => decide (tA r k = 32)) (r 49 1) p
theorem spk_rng (r : Rw) {p : Int} (h : p ≤ r 49 1) : p ≤ spk r p ∧ spk r p ≤ r 49 1 := ⟨(whl_rng _ _ _).1, (whl_rng _ _ _).2 h⟩
theorem rnW_end (P : Int → Bool) : ∀ (n : Nat) (p : Int), rnW P n p < p + n → P (rnW P n p) = false := by
  intro n
  induction n with
  | zero => intro p h; have : rnW P 0 p = p := rfl; omega
  | succ n ih =>
    intro p h
    cases e : P p with
    | true =>
      have q : rnW P (n + 1) p = rnW P n (p + 1) := if_pos e
      rw [q] at h ⊢
      exact ih (p + 1) (by omega)
    | false =>
      have q : rnW P (n + 1) p = p := if_neg (by rw [e]; decide)
      rw [q]
      exact e
theorem whl_end {P : Int → Bool} {L p : Int} (h : whl P L p < L) : P (whl P L p) = false := by
  unfold whl at h ⊢
  have q := (whl_rng P L p).1
  unfold whl at q
  exact rnW_end P _ p (by omega)
theorem spk_ne (r : Rw) (p : Int) : tA r (spk r p) ≠ 32 := by
  intro e
  have := tA_in (tAn e (by decide))
  have q := whl_end (P := fun k => decide (tA r k = 32)) (L := r 49 1) (p := p) this.2
  exact of_decide_eq_false q e
theorem spk_id {r : Rw} {p : Int} (h : tA r p ≠ 32) : spk r p = p := whl_f (Or.inr (decide_eq_false h))
theorem spk_t {r : Rw} {p : Int} (h : tA r p = 32) : spk r p = spk r (p + 1) := whl_t (tA_in (tAn h (by decide))).2 (decide_eq_true h)
/-! ===== the reference: bits that are fixed, how many, differences, conflicts, the best ===== -/
/-- all bits that a node has in each model below k; those that it has in one of them -/
def fxA (w : Int → Int) (n : Int) : Nat → Int
  | 0 => p2 (nd w n 1) - 1
  | k + 1 => if mdl w k then bAnd (fxA w n k) (vl w (asg w k) n) else fxA w n k
def fxO (w : Int → Int) (n : Int) : Nat → Int
  | 0 => 0
  | k + 1 => if mdl w k then bOr (fxO w n k) (vl w (asg w k) n) else fxO w n k
theorem fxA_s (w : Int → Int) (n : Int) (k : Nat) : fxA w n (k + 1) = if mdl w k then bAnd (fxA w n k) (vl w (asg w k) n) else fxA w n k := rfl
theorem fxO_s (w : Int → Int) (n : Int) (k : Nat) : fxO w n (k + 1) = if mdl w k then bOr (fxO w n k) (vl w (asg w k) n) else fxO w n k := rfl
theorem fx_gap (w : Int → Int) (n : Int) {j : Nat} : ∀ k : Nat, j ≤ k → (∀ N : Int, (j : Int) ≤ N → N < k → mdl w N = false) → fxA w n k = fxA w n j ∧ fxO w n k = fxO w n j := by
  intro k
  induction k with
  | zero =>
    intro h _
    obtain rfl : j = 0 := by omega
    exact ⟨rfl, rfl⟩
  | succ k ih =>
    intro h hn
    by_cases e : j = k + 1
    · subst e; exact ⟨rfl, rfl⟩
    · have := ih (by omega) fun N a b => hn N a (by omega)
      rw [fxA_s, fxO_s, hn k (by omega) (by omega), this.1, this.2]
      exact ⟨rfl, rfl⟩
/-- the folds below m are these -/
def fxAt (w : Int → Int) (n m x y : Int) : Prop := Box (0 ≤ m ∧ x = fxA w n m.toNat ∧ y = fxO w n m.toNat)
theorem fxAt.go {w : Int → Int} {n m m' x y : Int} (h : fxAt w n m x y) (hm : m ≤ m') (hn : ∀ N, 0 ≤ N → m ≤ N → N < m' → mdl w N = false) : fxAt w n m' x y := by
  obtain ⟨h0, rfl, rfl⟩ := h.o
  obtain ⟨a, b⟩ := fx_gap w n (j := m.toNat) m'.toNat (by omega) fun N a b => hn N (by omega) (by omega) (by omega)
  exact Box.i ⟨by omega, a.symm, b.symm⟩
theorem fxAt.st {w f : Int → Int} {n N x y : Int} (h : fxAt w n N x y) (hp : mdl w N = true) (h0 : 0 ≤ n) (h1 : n < w 0) (hf : Vls w (asg w N) f) : fxAt w n (N + 1) (bAnd x (f n)) (bOr y (f n)) := by
  obtain ⟨q, rfl, rfl⟩ := h.o
  refine Box.i ⟨by omega, ?_, ?_⟩
  · rw [show (N + 1).toNat = N.toNat + 1 by omega, fxA_s, show ((N.toNat : Nat) : Int) = N by omega, hp, if_pos rfl, hf.o n h0 h1]
  · rw [show (N + 1).toNat = N.toNat + 1 by omega, fxO_s, show ((N.toNat : Nat) : Int) = N by omega, hp, if_pos rfl, hf.o n h0 h1]
def cnAt (w : Int → Int) (m x : Int) : Prop := Box (0 ≤ m ∧ x = cntB (mdl w) m.toNat)
theorem cnAt.go {w : Int → Int} {m m' x : Int} (h : cnAt w m x) (hm : m ≤ m') (hn : ∀ N, 0 ≤ N → m ≤ N → N < m' → mdl w N = false) : cnAt w m' x := by
  obtain ⟨h0, rfl⟩ := h.o
  exact Box.i ⟨by omega, (cntB_gap (mdl w) (j := m.toNat) m'.toNat (by omega) fun N a b => hn N (by omega) (by omega) (by omega)).symm⟩
theorem cnAt.st {w : Int → Int} {N x : Int} (h : cnAt w N x) (hp : mdl w N = true) : cnAt w (N + 1) (x + 1) := by
  obtain ⟨q, rfl⟩ := h.o
  refine Box.i ⟨by omega, ?_⟩
  rw [show (N + 1).toNat = N.toNat + 1 by omega]
  rw [cntB_s, show ((N.toNat : Nat) : Int) = N by omega, hp, if_pos rfl]
/-- which values a node has in the models below m -/
def Mets (w : Int → Int) (n : Int) (f : Int → Int) (m : Int) : Prop := Box (∀ k, 0 ≤ k → k < 256 → (f k = 0 ∧ ∀ N, 0 ≤ N → N < m → mdl w N = true → vl w (asg w N) n ≠ k) ∨ (f k = 1 ∧ ∃ N, 0 ≤ N ∧ N < m ∧ mdl w N = true ∧ vl w (asg w N) n = k))
theorem Mets.go {w f : Int → Int} {n m m' : Int} (h : Mets w n f m) (hm : m ≤ m') (hn : ∀ N, 0 ≤ N → m ≤ N → N < m' → mdl w N = false) : Mets w n f m' := by
  refine Box.i fun k h0 h1 => ?_
  rcases h.o k h0 h1 with ⟨a, b⟩ | ⟨a, N, b1, b2, b3, b4⟩
  · refine Or.inl ⟨a, fun N c0 c1 c2 => ?_⟩
    by_cases e : N < m
    · exact b N c0 e c2
    · rw [hn N c0 (by omega) c1] at c2
      cases c2
  · exact Or.inr ⟨a, N, b1, by omega, b3, b4⟩
theorem Mets.st {w f v : Int → Int} {n N : Int} (h : Mets w n f N) (h00 : 0 ≤ N) (hp : mdl w N = true) (h0 : 0 ≤ n) (h1 : n < w 0) (hf : Vls w (asg w N) v) : Mets w n (up f (v n) 1) (N + 1) := by
  have e := hf.o n h0 h1
  refine Box.i fun k k0 k1 => ?_
  by_cases c : k = v n
  · subst c
    rw [up_self]
    exact Or.inr ⟨rfl, N, h00, by omega, hp, e.symm⟩
  · rw [up_ne c]
    rcases h.o k k0 k1 with ⟨a, b⟩ | ⟨a, M, b1, b2, b3, b4⟩
    · refine Or.inl ⟨a, fun M c0 c1 c2 => ?_⟩
      by_cases e2 : M = N
      · subst e2; rw [← e]; exact fun q => c q.symm
      · exact b M c0 (by omega) c2
    · exact Or.inr ⟨a, M, b1, by omega, b3, b4⟩
theorem sc_70 (h : Hp) (F a b c f : Int → Int) : rI (sc h F a b c) 70 f = sc (rI h 70 f) F a b c := by
  unfold sc rI
  congr 2
  funext q
  by_cases e1 : q = 70 <;> simp [e1]
theorem sc_x70 (h : Hp) (f F a b c a' b' X F' a2 b2 c' : Int → Int) : sc (rI (wvH (sc (rI h 70 f) F a b c) a' b') 70 X) F' a2 b2 c' = sc (rI h 70 X) F' a2 b2 c' := by rw [sc_wv, sc_70, rI_rI, sc_sc]
theorem Mets.z {w f : Int → Int} {n : Int} (h : Box (∀ v, 0 ≤ v → v < 256 → f v = 0)) : Mets w n f 0 := Box.i fun k a b => Or.inl ⟨h.o k a b, fun N c d => by omega⟩
/-! ===== the reference: values, differences, conflicts, the best ===== -/
def smF (f : Int → Int) : Nat → Int
  | 0 => 0
  | k + 1 => smF f k + f (k : Int)
theorem smF_s (f : Int → Int) (k : Nat) : smF f (k + 1) = smF f k + f (k : Int) := rfl
theorem smF_i (f : Int → Int) {i : Int} (h : 0 ≤ i) : smF f (i + 1).toNat = smF f i.toNat + f i := by
  rw [show (i + 1).toNat = i.toNat + 1 by omega, smF_s, show ((i.toNat : Nat) : Int) = i by omega]
theorem sc_r70 (h : Hp) (x : Int) (f F a b c : Int → Int) : sc (rI (rfH h x) 70 f) F a b c = sc (rI h 70 f) F a b c := by
  unfold sc rI rfH rI
  congr 2
  funext q
  by_cases e1 : q = 62
  · simp [e1]
  · by_cases e2 : q = 70
    · simp [e2]
    · simp [e1, e2]
theorem Mets.b01 {w f : Int → Int} {n m : Int} (h : Mets w n f m) {i : Int} (h0 : 0 ≤ i) (h1 : i < 256) : f i = 0 ∨ f i = 1 := by
  rcases h.o i h0 h1 with a | a
  · exact Or.inl a.1
  · exact Or.inr a.1
/-- the k-th value that is met -/
def kth (f : Int → Int) (k : Int) : Int := if 0 ≤ k ∧ k ≤ 199 then fst (fun v => decide (f v = 1 ∧ smF f v.toNat = k)) 256 else -1
/-- the first model in which two nodes differ -/
def dfM (w : Int → Int) (a b : Int) : Int := fst (fun N => mdl w N && decide (vl w (asg w N) a ≠ vl w (asg w N) b)) (tot w).toNat
theorem df_none {w : Int → Int} {a b : Int} (h : ∀ N, 0 ≤ N → N < tot w → mdl w N = true → vl w (asg w N) a = vl w (asg w N) b) : dfM w a b = -1 := by
  refine fst_none.mpr fun j hj => ?_
  cases e : mdl w (j : Int) with
  | false => simp [e]
  | true => simp [e, h j (by omega) (by omega) e]
theorem df_hit {w : Int → Int} {a b N : Int} (h0 : 0 ≤ N) (h1 : N < tot w) (hp : mdl w N = true) (hd : vl w (asg w N) a ≠ vl w (asg w N) b) (h : ∀ M, 0 ≤ M → M < N → mdl w M = true → vl w (asg w M) a = vl w (asg w M) b) : dfM w a b = N := by
  refine fst_hit h0 h1 (fst_none.mpr fun j hj => ?_) (by simp [hp, hd])
  cases e : mdl w (j : Int) with
  | false => simp [e]
  | true => simp [e, h j (by omega) (by omega) e]
theorem df_lt {w : Int → Int} (h : WF w) (a b : Int) : -1 ≤ dfM w a b ∧ dfM w a b < tot w := by
  have := tot_rng h
  by_cases e : dfM w a b = -1
  · omega
  · have := fst_some (P := fun N => mdl w N && decide (vl w (asg w N) a ≠ vl w (asg w N) b)) e
    have e2 : fst (fun N => mdl w N && decide (vl w (asg w N) a ≠ vl w (asg w N) b)) (tot w).toNat = dfM w a b := rfl
    rw [e2] at this
    omega
/-- no model below m in which they differ -/
def eqB (w : Int → Int) (a b m : Int) : Prop := Box (∀ N, 0 ≤ N → N < m → mdl w N = true → vl w (asg w N) a = vl w (asg w N) b)
theorem eqB.go {w : Int → Int} {a b m m' : Int} (h : eqB w a b m) (hn : ∀ N, 0 ≤ N → m ≤ N → N < m' → mdl w N = false) : eqB w a b m' := by
  refine Box.i fun N h0 h1 h2 => ?_
  by_cases e : N < m
  · exact h.o N h0 e h2
  · rw [hn N h0 (by omega) h1] at h2
    cases h2
theorem eqB.st {w f : Int → Int} {a b N : Int} (h : eqB w a b N) (a0 : 0 ≤ a) (a1 : a < w 0) (b0 : 0 ≤ b) (b1 : b < w 0) (hf : Vls w (asg w N) f) (e : f a = f b) : eqB w a b (N + 1) := by
  refine Box.i fun M h0 h1 h2 => ?_
  by_cases q : M = N
  · subst q
    rw [← hf.o a a0 a1, ← hf.o b b0 b1]; exact e
  · exact h.o M h0 (by omega) h2
theorem eqB.hit {w f : Int → Int} {a b N : Int} (h : eqB w a b N) (h0 : 0 ≤ N) (h1 : N < tot w) (hp : mdl w N = true) (a0 : 0 ≤ a) (a1 : a < w 0) (b0 : 0 ≤ b) (b1 : b < w 0) (hf : Vls w (asg w N) f) (e : f a ≠ f b) : dfM w a b = N := by
  refine df_hit h0 h1 hp ?_ fun M c d g => h.o M c d g
  rw [← hf.o a a0 a1, ← hf.o b b0 b1]; exact e
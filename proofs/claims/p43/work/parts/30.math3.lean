/-! ===== models, the first of them, the best of them ===== -/
/-- the set of the first k constraints that an assignment fulfils -/
def fulW (w : Int → Int) (N : Int) : Nat → Int
  | 0 => 0
  | k + 1 => fulW w N k + vl w (asg w N) (w (291 + (k : Int))) * p2 k
def mdl (w : Int → Int) (N : Int) : Bool := decide (fulW w N (w 290).toNat = p2 (w 290) - 1)
theorem con01 {w : Int → Int} (h : WF w) (N : Int) {k : Int} (h0 : 0 ≤ k) (h1 : k < w 290) : vl w (asg w N) (w (291 + k)) = 0 ∨ vl w (asg w N) (w (291 + k)) = 1 := by
  have q := h.con h0 h1
  have := h.vr (asg_ev w N) q.1 q.2.1
  rw [q.2.2.1, p2_1] at this
  omega
theorem fulW_rng {w : Int → Int} (h : WF w) (N : Int) : ∀ k : Nat, (k : Int) ≤ w 290 → 0 ≤ fulW w N k ∧ fulW w N k < p2 k := by
  intro k
  induction k with
  | zero => intro _; exact ⟨Int.le_refl _, (show (0 : Int) < p2 0 by decide)⟩
  | succ k ih =>
    intro hk
    have a := ih (by omega)
    have b := con01 h N (k := k) (by omega) (by omega)
    have e : p2 ((k + 1 : Nat) : Int) = 2 * p2 k := by rw [Int.natCast_add]; exact p2_succ (by omega)
    rw [e]
    unfold fulW
    rcases b with b | b <;> rw [b] <;> omega
theorem fulW_all {w : Int → Int} (h : WF w) (N : Int) : ∀ k : Nat, (k : Int) ≤ w 290 → (fulW w N k = p2 k - 1 ↔ ∀ j, 0 ≤ j → j < (k : Int) → vl w (asg w N) (w (291 + j)) = 1) := by
  intro k
  induction k with
  | zero => intro _; exact ⟨fun _ j a b => by omega, fun _ => rfl⟩
  | succ k ih =>
    intro hk
    have a := fulW_rng h N k (by omega)
    have b := con01 h N (k := k) (by omega) (by omega)
    have c := ih (by omega)
    have e : p2 ((k + 1 : Nat) : Int) = 2 * p2 k := by rw [Int.natCast_add]; exact p2_succ (by omega)
    have e2 : fulW w N (k + 1) = fulW w N k + vl w (asg w N) (w (291 + (k : Int))) * p2 k := rfl
    constructor
    · intro q j j0 j1
      rw [e, e2] at q
      rcases b with b | b
      · rw [b] at q; omega
      · rw [b] at q
        by_cases e3 : j = k
        · subst e3; exact b
        · exact c.mp (by omega) j j0 (by omega)
    · intro q
      have q1 := c.mpr fun j a b => q j a (by omega)
      rw [e, e2, q1, q k (by omega) (by omega)]
      omega
theorem mdl_iff {w : Int → Int} (h : WF w) {N : Int} : mdl w N = true ↔ ∀ j, 0 ≤ j → j < w 290 → vl w (asg w N) (w (291 + j)) = 1 := by
  have c := h.cn
  have e : (((w 290).toNat : Nat) : Int) = w 290 := by omega
  have q := fulW_all h N (w 290).toNat (by omega)
  rw [e] at q
  unfold mdl
  rw [decide_eq_true_iff]
  exact q
/-- the first model from a number on, or -1 -/
def nxt (w : Int → Int) (m : Int) : Int := fst (fun N => decide (m ≤ N) && mdl w N) (tot w).toNat
theorem nxt_none {w : Int → Int} {m : Int} (h : nxt w m = -1) : ∀ N, 0 ≤ N → m ≤ N → N < tot w → mdl w N = false := by
  intro N h0 h1 h2
  have := fst_none.mp h N.toNat (by omega)
  rw [show ((N.toNat : Nat) : Int) = N from by omega] at this
  simpa [h1] using this
theorem nxt_some {w : Int → Int} {m : Int} (h : nxt w m ≠ -1) : 0 ≤ nxt w m ∧ m ≤ nxt w m ∧ nxt w m < tot w ∧ mdl w (nxt w m) = true ∧ ∀ N, 0 ≤ N → m ≤ N → N < nxt w m → mdl w N = false := by
  have q := fst_some h
  have a := q.2.1
  have b := q.2.2.1
  have c := q.2.2.2
  have e : fst (fun N => decide (m ≤ N) && mdl w N) (tot w).toNat = nxt w m := rfl
  rw [e] at a b c
  have b' : (decide (m ≤ nxt w m) && mdl w (nxt w m)) = true := b
  rw [Bool.and_eq_true, decide_eq_true_iff] at b'
  have q1 := q.1
  rw [e] at q1
  refine ⟨q1, b'.1, by omega, b'.2, fun N h0 h1 h2 => ?_⟩
  have := c N h0 h2
  simpa [h1] using this
theorem nxt_intro {w : Int → Int} {m r : Int} (h0 : 0 ≤ r) (h1 : m ≤ r) (h2 : r < tot w) (h3 : mdl w r = true) (h4 : ∀ N, 0 ≤ N → m ≤ N → N < r → mdl w N = false) : nxt w m = r := by
  by_cases e : nxt w m = -1
  · have := nxt_none e r h0 h1 h2
    rw [h3] at this
    cases this
  · obtain ⟨a, b, c, d, f⟩ := nxt_some e
    by_cases l : nxt w m < r
    · have := h4 _ a b l
      rw [d] at this
      cases this
    · by_cases g : r < nxt w m
      · have := f r h0 h1 g
        rw [h3] at this
        cases this
      · omega
theorem nxt_no {w : Int → Int} {m : Int} (h4 : ∀ N, 0 ≤ N → m ≤ N → N < tot w → mdl w N = false) : nxt w m = -1 := by
  by_cases e : nxt w m = -1
  · exact e
  · obtain ⟨a, b, c, d, f⟩ := nxt_some e
    rw [h4 _ a b c] at d
    cases d
/-- r is the first of those below m for which P holds and g is greatest; -1 if there is none -/
def isB (P : Int → Bool) (g : Int → Int) (m r : Int) : Prop := Box ((r = -1 ∧ ∀ N, 0 ≤ N → N < m → P N = false) ∨ (0 ≤ r ∧ r < m ∧ P r = true ∧ ∀ N, 0 ≤ N → N < m → P N = true → g N ≤ g r ∧ (g N = g r → r ≤ N)))
theorem isB_0 (P : Int → Bool) (g : Int → Int) : isB P g 0 (-1) := Box.i (Or.inl ⟨rfl, fun N a b => by omega⟩)
theorem isB_lo {P : Int → Bool} {g : Int → Int} {m r : Int} (h : isB P g m r) : -1 ≤ r ∧ (0 ≤ m → r < m) := by
  rcases h.o with ⟨rfl, _⟩ | ⟨a, b, -⟩
  · exact ⟨by omega, fun _ => by omega⟩
  · exact ⟨by omega, fun _ => b⟩
theorem isB_gap {P : Int → Bool} {g : Int → Int} {m k r : Int} (h : isB P g m r) (hk : m ≤ k) (hn : ∀ N, 0 ≤ N → m ≤ N → N < k → P N = false) : isB P g k r := by
  refine Box.i ?_
  rcases h.o with ⟨rfl, h1⟩ | ⟨h1, h2, h3, h4⟩
  · refine Or.inl ⟨rfl, fun N a b => ?_⟩
    by_cases e : N < m
    · exact h1 N a e
    · exact hn N a (by omega) b
  · refine Or.inr ⟨h1, by omega, h3, fun N a b c => ?_⟩
    by_cases e : N < m
    · exact h4 N a e c
    · rw [hn N a (by omega) b] at c
      cases c
theorem isB_new {P : Int → Bool} {g : Int → Int} {n r : Int} (h : isB P g n r) (h0 : 0 ≤ n) (hp : P n = true) (hg : r = -1 ∨ g r < g n) : isB P g (n + 1) n := by
  refine Box.i (Or.inr ⟨h0, by omega, hp, fun N a b c => ?_⟩)
  by_cases e : N = n
  · subst e; exact ⟨Int.le_refl _, fun _ => Int.le_refl _⟩
  · rcases h.o with ⟨rfl, h1⟩ | ⟨h1, h2, h3, h4⟩
    · rw [h1 N a (by omega)] at c
      cases c
    · have := h4 N a (by omega) c
      rcases hg with q | q <;> omega
theorem isB_keep {P : Int → Bool} {g : Int → Int} {n r : Int} (h : isB P g n r) (h0 : 0 ≤ n) (hr : r ≠ -1) (hg : g n ≤ g r) : isB P g (n + 1) r := by
  rcases h.o with ⟨q, _⟩ | ⟨h1, h2, h3, h4⟩
  · exact absurd q hr
  · refine Box.i (Or.inr ⟨h1, by omega, h3, fun N a b c => ?_⟩)
    by_cases e : N = n
    · subst e; exact ⟨hg, fun _ => by omega⟩
    · exact h4 N a (by omega) c
theorem isB_un {P : Int → Bool} {g g' : Int → Int} {m r r' : Int} (h : isB P g m r) (h' : isB P g' m r') (e : ∀ a b, P a = true → P b = true → (g a ≤ g b ↔ g' a ≤ g' b)) : r = r' := by
  rcases h.o with ⟨rfl, h1⟩ | ⟨h1, h2, h3, h4⟩ <;> rcases h'.o with ⟨rfl, k1⟩ | ⟨k1, k2, k3, k4⟩
  · rfl
  · rw [h1 _ k1 k2] at k3; cases k3
  · rw [k1 _ h1 h2] at h3; cases h3
  · have a := h4 r' k1 k2 k3
    have b := k4 r h1 h2 h3
    have c := e r r' h3 k3
    have d := e r' r k3 h3
    by_cases q : r = r'
    · exact q
    · have e1 := c.mpr b.1
      have e2 := d.mp a.1
      have := a.2 (by omega)
      have := b.2 (by omega)
      omega
theorem isB_some {w g : Int → Int} {m r : Int} (h : isB (mdl w) g m r) (hr : r ≠ -1) : 0 ≤ r ∧ r < m ∧ mdl w r = true := by
  rcases h.o with ⟨q, _⟩ | ⟨h1, h2, h3, h4⟩
  · exact absurd q hr
  · exact ⟨h1, h2, h3⟩
/-- how many of the numbers below k -/
def cntB (P : Int → Bool) : Nat → Int
  | 0 => 0
  | k + 1 => cntB P k + (if P (k : Int) then 1 else 0)
theorem cntB_s (P : Int → Bool) (k : Nat) : cntB P (k + 1) = cntB P k + (if P (k : Int) then 1 else 0) := rfl
theorem cntB_lo (P : Int → Bool) : ∀ k : Nat, 0 ≤ cntB P k ∧ cntB P k ≤ k := by
  intro k
  induction k with
  | zero => exact ⟨Int.le_refl _, Int.le_refl _⟩
  | succ k ih =>
    rw [cntB_s]
    split <;> omega
theorem cntB_mono (P : Int → Bool) {j : Nat} : ∀ k : Nat, j ≤ k → cntB P j ≤ cntB P k := by
  intro k
  induction k with
  | zero =>
    intro h
    obtain rfl : j = 0 := by omega
    exact Int.le_refl _
  | succ k ih =>
    intro h
    by_cases e : j = k + 1
    · subst e; exact Int.le_refl _
    · have h1 := ih (by omega)
      have h2 : cntB P k ≤ cntB P (k + 1) := by
        rw [cntB_s]
        split <;> omega
      omega
theorem cntB_gap (P : Int → Bool) {j : Nat} : ∀ k : Nat, j ≤ k → (∀ N : Int, (j : Int) ≤ N → N < k → P N = false) → cntB P k = cntB P j := by
  intro k
  induction k with
  | zero => intro h _; obtain rfl : j = 0 := by omega
            rfl
  | succ k ih =>
    intro h hn
    by_cases e : j = k + 1
    · subst e; rfl
    · have := ih (by omega) fun N a b => hn N a (by omega)
      rw [cntB_s, hn k (by omega) (by omega), this]
      simp
theorem cntB_congr {P Q : Int → Bool} : ∀ k : Nat, (∀ N : Int, 0 ≤ N → N < k → P N = Q N) → cntB P k = cntB Q k := by
  intro k
  induction k with
  | zero => intro _; rfl
  | succ k ih =>
    intro h
    rw [cntB_s, cntB_s, ih fun N a b => h N a (by omega), h k (by omega) (by omega)]
theorem sc_sc (h : Hp) (F a b c F' a' b' c' : Int → Int) : sc (sc h F a b c) F' a' b' c' = sc h F' a' b' c' := by
  unfold sc
  congr 2
  funext q
  by_cases e1 : q = 62
  · simp [e1]
  by_cases e2 : q = 67
  · simp [e2]
  by_cases e3 : q = 68
  · simp [e3]
  by_cases e4 : q = 69
  · simp [e4]
  simp [e1, e2, e3, e4]
theorem sc_62 (h : Hp) (F a b c F' : Int → Int) : rI (sc h F a b c) 62 F' = sc h F' a b c := by
  unfold sc rI
  congr 2
  funext q
  by_cases e1 : q = 62 <;> simp [e1]
theorem sc_67 (h : Hp) (F a b c F' : Int → Int) : rI (sc h F a b c) 67 F' = sc h F F' b c := by
  unfold sc rI
  congr 2
  funext q
  by_cases e1 : q = 67 <;> simp [e1]
theorem sc_68 (h : Hp) (F a b c F' : Int → Int) : rI (sc h F a b c) 68 F' = sc h F a F' c := by
  unfold sc rI
  congr 2
  funext q
  by_cases e1 : q = 68 <;> simp [e1]
theorem sc_69 (h : Hp) (F a b c F' : Int → Int) : rI (sc h F a b c) 69 F' = sc h F a b F' := by
  unfold sc rI
  congr 2
  funext q
  by_cases e1 : q = 69 <;> simp [e1]
theorem sc_id (h : Hp) : sc h (hI h 62) (hI h 67) (hI h 68) (hI h 69) = h := by
  unfold sc hI
  have : (fun q => if q = 62 then h.2.1 62 else if q = 67 then h.2.1 67 else if q = 68 then h.2.1 68 else if q = 69 then h.2.1 69 else h.2.1 q) = h.2.1 := by
    funext q
    by_cases e1 : q = 62
    · simp [e1]
    by_cases e2 : q = 67
    · simp [e2]
    by_cases e3 : q = 68
    · simp [e3]
    by_cases e4 : q = 69
    · simp [e4]
    simp [e1, e2, e3, e4]
  rw [this]
theorem sc_wv (h : Hp) (F a b c a' b' : Int → Int) : wvH (sc h F a b c) a' b' = sc h F a' b' c := by
  unfold wvH
  rw [sc_67, sc_68]
theorem sc_of_wv (h : Hp) (a b : Int → Int) : wvH h a b = sc h (hI h 62) a b (hI h 69) := by
  rw [← sc_wv h (hI h 62) (hI h 67) (hI h 68) (hI h 69), sc_id]
theorem sc_of_62 (h : Hp) (F : Int → Int) : rI h 62 F = sc h F (hI h 67) (hI h 68) (hI h 69) := by
  rw [← sc_62 h (hI h 62) (hI h 67) (hI h 68) (hI h 69), sc_id]
theorem sc_of_rf (h : Hp) (x : Int) : rfH h x = sc h (up (hI h 62) 4 x) (hI h 67) (hI h 68) (hI h 69) := sc_of_62 h _
/-- what is fulfilled is right, if it isn't old -/
def FR (w F c : Int → Int) : Prop := Box (F 10 = 0 → F 11 = tot w ∧ ∀ N, 0 ≤ N → N < tot w → c N = fulW w N (w 290).toNat)
/-- the fields but for those of the row that is fulfilled -/
def Fk (F0 F : Int → Int) : Prop := Box (∀ j, j ≠ 10 → j ≠ 11 → F j = F0 j)
theorem Fk.rfl' (F : Int → Int) : Fk F F := Box.i fun _ _ _ => rfl
theorem Fk.tr {F G H : Int → Int} (a : Fk F G) (b : Fk G H) : Fk F H := Box.i fun j x y => by rw [b.o j x y, a.o j x y]
/-- fields that are no older -/
def Fz (F0 F : Int → Int) : Prop := Box (F 10 = 0 ∧ ∀ j, j ≠ 10 → j ≠ 11 → F j = F0 j)

/-! ===== what a node's description is ===== -/
def numL (x : Int) : List Int := (if 100 ≤ x then [48 + x / 100] else []) ++ ((if 10 ≤ x then [48 + x / 10 % 10] else []) ++ [48 + x % 10])
def wlen (k : Int) : Int := whl (fun i => decide (wl k i ≠ 32)) 5 0
def wdU (k : Int) : Nat → List Int
  | 0 => []
  | n + 1 => wdU k n ++ [wl k n]
def digL (w : Int → Int) (n : Int) : List Int := if nd w n 0 = 21 then [32, 48 + nd w n 5, 32, 48 + nd w n 6] else if nd w n 0 = 22 ∨ nd w n 0 = 23 then [32, 48 + nd w n 1] else []
def opsL (D : Int → List Int) (w : Int → Int) (n : Int) : Nat → List Int
  | 0 => []
  | i + 1 => opsL D w n i ++ (32 :: D (nd w n (2 + (i : Int))))
/-- the description by those of the operands -/
def dsB (D : Int → List Int) (w : Int → Int) (n : Int) : List Int := if nd w n 0 = 1 then [118, 48 + nd w n 5] else if nd w n 0 = 0 then numL (nd w n 5) ++ [58, 48 + nd w n 1] else 40 :: (wdU (nd w n 0) (wlen (nd w n 0)).toNat ++ (opsL D w n (opc (nd w n 0)).toNat ++ (digL w n ++ [41])))
def dsF (w : Int → Int) : Nat → Int → List Int
  | 0, _ => []
  | f + 1, n => dsB (dsF w f) w n
def dsc (w : Int → Int) (n : Int) : List Int := dsF w (n.toNat + 1) n
theorem opsL_cg {D E : Int → List Int} {w : Int → Int} {n : Int} : ∀ c : Nat, (∀ i : Nat, i < c → D (nd w n (2 + (i : Int))) = E (nd w n (2 + (i : Int)))) → opsL D w n c = opsL E w n c := by
  intro c
  induction c with
  | zero => intro _; rfl
  | succ c ih =>
    intro h
    show opsL D w n c ++ (32 :: D (nd w n (2 + (c : Int)))) = opsL E w n c ++ (32 :: E (nd w n (2 + (c : Int))))
    rw [ih fun i hi => h i (by omega), h c (by omega)]
/-- the operands of a node lie below it -/
theorem op_lt {w : Int → Int} {n : Int} (h : WFn w n) {i : Nat} (hi : (i : Int) < opc (nd w n 0)) : 0 ≤ nd w n (2 + (i : Int)) ∧ nd w n (2 + (i : Int)) < n := by
  obtain ⟨⟨k1, k2, k3, k4⟩, ⟨o1, o2, o3, o4, o5, o6⟩, p1, p2c, p3, p4, p5, p6, _⟩ := h.o
  have oc : opc (nd w n 0) = if nd w n 0 < 2 then 0 else if nd w n 0 ≤ 18 then 2 else if nd w n 0 = 24 then 3 else 1 := rfl
  have : i = 0 ∨ i = 1 ∨ i = 2 := by
    have := opc_rng (nd w n 0)
    omega
  rcases this with rfl | rfl | rfl
  · show 0 ≤ nd w n 2 ∧ nd w n 2 < n
    have := p4 (by split at oc <;> omega)
    omega
  · show 0 ≤ nd w n 3 ∧ nd w n 3 < n
    have := p5 (by
      split at oc
      · omega
      · split at oc
        · omega
        · split at oc
          · omega
          · omega)
    omega
  · show 0 ≤ nd w n 4 ∧ nd w n 4 < n
    have := p6 (by
      split at oc
      · omega
      · split at oc
        · omega
        · split at oc
          · omega
          · omega)
    omega
theorem dsB_cg {D E : Int → List Int} {w : Int → Int} {n : Int} (h : WFn w n) (e : ∀ m, 0 ≤ m → m < n → D m = E m) : dsB D w n = dsB E w n := by
  unfold dsB
  rw [opsL_cg (D := D) (E := E) _ fun i hi => by
    have := op_lt h (i := i) (by have := opc_rng (nd w n 0); omega)
    exact e _ this.1 this.2]
theorem dsF_eq {w : Int → Int} (hW : WF w) : ∀ f f' : Nat, ∀ n : Int, 0 ≤ n → n < w 0 → n < (f : Int) → n < (f' : Int) → dsF w f n = dsF w f' n := by
  intro f
  induction f with
  | zero => intro f' n h0 _ h1; omega
  | succ f ih =>
    intro f' n h0 hw h1 h2
    cases f' with
    | zero => omega
    | succ f' => exact dsB_cg (hW.node h0 hw) fun m m0 m1 => ih f' m m0 (by omega) (by omega) (by omega)
theorem dsc_eq {w : Int → Int} (hW : WF w) {n : Int} (h0 : 0 ≤ n) (h1 : n < w 0) : dsc w n = dsB (dsc w) w n := by
  show dsB (dsF w n.toNat) w n = _
  exact dsB_cg (hW.node h0 h1) fun m m0 m1 => dsF_eq hW _ _ m m0 (by omega) (by omega) (by omega)
/-! words -/
theorem wlen_all : ∀ j : Nat, j < 23 → 2 ≤ wlen ((j : Int) + 2) ∧ wlen ((j : Int) + 2) ≤ 5 := by decide +kernel
theorem wlen_rng {k : Int} (h0 : 2 ≤ k) (h1 : k ≤ 24) : 2 ≤ wlen k ∧ wlen k ≤ 5 := by
  have := wlen_all (k - 2).toNat (by omega)
  rw [show (((k - 2).toNat : Nat) : Int) + 2 = k by omega] at this
  exact this
theorem wdU_len (k : Int) : ∀ n : Nat, (wdU k n).length = n := by
  intro n
  induction n with
  | zero => rfl
  | succ n ih =>
    show (wdU k n ++ [wl k n]).length = _
    rw [List.length_append, ih]
    rfl
/-- the word, its first letters gone -/
def ws (k : Int) : Nat → Int64
  | 0 => wdL k
  | i + 1 => lShr (ws k i) 8
theorem ws_all : ∀ j : Nat, j < 23 → ∀ i : Nat, i < 6 → ((i : Int) < wlen ((j : Int) + 2) ∧ 0 < cmpL (ws ((j : Int) + 2) i) 0 ∧ l2I (ws ((j : Int) + 2) i &&& Int64.ofNat 255) = wl ((j : Int) + 2) i) ∨ (wlen ((j : Int) + 2) ≤ i ∧ cmpL (ws ((j : Int) + 2) i) 0 ≤ 0) := by decide +kernel
theorem ws_at {k : Int} (h0 : 2 ≤ k) (h1 : k ≤ 24) {i : Nat} (hi : i < 6) : ((i : Int) < wlen k ∧ 0 < cmpL (ws k i) 0 ∧ l2I (ws k i &&& Int64.ofNat 255) = wl k i) ∨ (wlen k ≤ i ∧ cmpL (ws k i) 0 ≤ 0) := by
  have := ws_all (k - 2).toNat (by omega) i hi
  rw [show (((k - 2).toNat : Nat) : Int) + 2 = k by omega] at this
  exact this
/-! lengths -/
theorem numL_len {x : Int} (h0 : 0 ≤ x) : (100 ≤ x ∧ (numL x).length = 3) ∨ (10 ≤ x ∧ x < 100 ∧ (numL x).length = 2) ∨ (x < 10 ∧ (numL x).length = 1) := by
  unfold numL
  by_cases a : 100 ≤ x
  · rw [if_pos a, if_pos (by omega)]
    exact Or.inl ⟨a, rfl⟩
  · rw [if_neg a]
    by_cases b : 10 ≤ x
    · rw [if_pos b]
      exact Or.inr (Or.inl ⟨b, by omega, rfl⟩)
    · rw [if_neg b]
      exact Or.inr (Or.inr ⟨by omega, rfl⟩)
theorem digL_len (w : Int → Int) (n : Int) : ((digL w n).length : Int) = 2 * dgc (nd w n 0) := by
  unfold digL dgc
  by_cases a : nd w n 0 = 21
  · rw [if_pos a, if_pos a]; rfl
  · rw [if_neg a, if_neg a]
    by_cases b : nd w n 0 = 22 ∨ nd w n 0 = 23
    · rw [if_pos b, if_pos b]; rfl
    · rw [if_neg b, if_neg b]; rfl
/-- lengths cut off above the limit -/
def lenC (w : Int → Int) (n : Int) : Int := if 121 ≤ ((dsc w n).length : Int) then 121 else ((dsc w n).length : Int)
theorem lenC_rng (w : Int → Int) (n : Int) : 0 ≤ lenC w n ∧ lenC w n ≤ 121 := by
  unfold lenC
  split <;> omega
/-- the operands' lengths added up -/
def lnS (f w : Int → Int) (n : Int) : Nat → Int
  | 0 => 0
  | i + 1 => lnS f w n i + (1 + f (nd w n (2 + (i : Int))))
theorem opsL_len {f w : Int → Int} {n : Int} : ∀ c : Nat, (∀ i : Nat, i < c → f (nd w n (2 + (i : Int))) = lenC w (nd w n (2 + (i : Int)))) → 0 ≤ lnS f w n c ∧ lnS f w n c ≤ 122 * c ∧ ((lnS f w n c = ((opsL (dsc w) w n c).length : Int)) ∨ (121 ≤ lnS f w n c ∧ 121 ≤ ((opsL (dsc w) w n c).length : Int))) := by
  intro c
  induction c with
  | zero => intro _; exact ⟨Int.le_refl _, Int.le_refl _, Or.inl rfl⟩
  | succ c ih =>
    intro h
    obtain ⟨a, a2, b⟩ := ih fun i hi => h i (by omega)
    have e := h c (by omega)
    have r := lenC_rng w (nd w n (2 + (c : Int)))
    have l : ((opsL (dsc w) w n (c + 1)).length : Int) = ((opsL (dsc w) w n c).length : Int) + 1 + ((dsc w (nd w n (2 + (c : Int)))).length : Int) := by
      show ((opsL (dsc w) w n c ++ (32 :: dsc w (nd w n (2 + (c : Int))))).length : Int) = _
      rw [List.length_append, List.length_cons]
      omega
    have s : lnS f w n (c + 1) = lnS f w n c + (1 + lenC w (nd w n (2 + (c : Int)))) := by
      show lnS f w n c + (1 + f (nd w n (2 + (c : Int)))) = _
      rw [e]
    rw [s, l]
    refine ⟨by omega, by omega, ?_⟩
    unfold lenC at *
    split at r <;> split <;> omega
/-- a node's length by those of its operands -/
def lbo (f w : Int → Int) (n : Int) : Int := if nd w n 0 = 1 then 2 else if nd w n 0 = 0 then 2 + (if 100 ≤ nd w n 5 then 3 else if 10 ≤ nd w n 5 then 2 else 1) else 2 + wlen (nd w n 0) + 2 * dgc (nd w n 0) + lnS f w n (opc (nd w n 0)).toNat
theorem lbo_eq {f w : Int → Int} {n : Int} (hW : WF w) (h0 : 0 ≤ n) (h1 : n < w 0) (hf : ∀ m, 0 ≤ m → m < n → f m = lenC w m) : 0 ≤ lbo f w n ∧ lbo f w n ≤ 500 ∧ (if 121 ≤ lbo f w n then 121 else lbo f w n) = lenC w n := by
  have hn := hW.node h0 h1
  obtain ⟨⟨k1, k2, k3, k4⟩, _, p1, p2c, _⟩ := hn.o
  unfold lenC
  rw [dsc_eq hW h0 h1]
  unfold lbo dsB
  by_cases a : nd w n 0 = 1
  · rw [if_pos a, if_pos a]
    exact ⟨by decide, by decide, rfl⟩
  rw [if_neg a, if_neg a]
  by_cases b : nd w n 0 = 0
  · rw [if_pos b, if_pos b, List.length_append]
    have q := p2c b
    have l := numL_len q.1
    show _ ∧ _ ∧ _ = if (121 : Int) ≤ ((numL (nd w n 5)).length + 2 : Nat) then 121 else (((numL (nd w n 5)).length + 2 : Nat) : Int)
    split
    · rw [if_neg (by omega), if_neg (by omega)]; omega
    · split
      · rw [if_neg (by omega), if_neg (by omega)]; omega
      · rw [if_neg (by omega), if_neg (by omega)]; omega
  rw [if_neg b, if_neg b]
  have wr := wlen_rng (k := nd w n 0) (by omega) k2
  have oc := opc_rng (nd w n 0)
  have dg := digL_len w n
  have dr := dgc_rng (nd w n 0)
  obtain ⟨s1, s2, s3⟩ := opsL_len (f := f) (w := w) (n := n) (opc (nd w n 0)).toNat fun i hi => by
    have := op_lt hn (i := i) (by omega)
    exact hf _ this.1 this.2
  rw [List.length_cons, List.length_append, List.length_append, List.length_append, wdU_len]
  show _ ∧ _ ∧ _ = if (121 : Int) ≤ (((wlen (nd w n 0)).toNat + ((opsL (dsc w) w n (opc (nd w n 0)).toNat).length + ((digL w n).length + 1)) + 1 : Nat) : Int) then 121 else (((wlen (nd w n 0)).toNat + ((opsL (dsc w) w n (opc (nd w n 0)).toNat).length + ((digL w n).length + 1)) + 1 : Nat) : Int)
  refine ⟨by omega, by omega, ?_⟩
  split <;> split <;> omega

/-! ===== the reference: small methods ===== -/
theorem look1 {a : Nat} {l : List Nat} {pc : Nat} {x : List Nat} (h : look [(a, l)] pc = some x) : pc = a ∧ x = l := by
  have := look_mem h
  simp only [List.mem_singleton, Prod.mk.injEq] at this
  exact this
theorem look2 {a b : Nat} {l k : List Nat} {pc : Nat} {x : List Nat} (h : look [(a, l), (b, k)] pc = some x) : (pc = a ∧ x = l) ∨ (pc = b ∧ x = k) := by
  have := look_mem h
  simp only [List.mem_cons, List.not_mem_nil, or_false, Prod.mk.injEq] at this
  exact this
theorem look3 {a b c : Nat} {l k m : List Nat} {pc : Nat} {x : List Nat} (h : look [(a, l), (b, k), (c, m)] pc = some x) : (pc = a ∧ x = l) ∨ (pc = b ∧ x = k) ∨ (pc = c ∧ x = m) := by
  have := look_mem h
  simp only [List.mem_cons, List.not_mem_nil, or_false, Prod.mk.injEq] at this
  exact this
/-- a field of a node in the reference's row -/
def nd (w : Int → Int) (n j : Int) : Int := w (1 + 7 * n + j)
/-- the widths of the first k variables, added up -/
def sumW (w : Int → Int) : Nat → Int
  | 0 => 0
  | k + 1 => sumW w k + nd w (w (282 + k)) 1
/-- each variable has a node and a width -/
def Vz (w : Int → Int) : Prop := ∃ _ : Unit, (0 ≤ w 281 ∧ w 281 ≤ 4) ∧ ∀ v, 0 ≤ v → v < w 281 → 0 ≤ w (282 + v) ∧ w (282 + v) < 40 ∧ 1 ≤ nd w (w (282 + v)) 1 ∧ nd w (w (282 + v)) 1 ≤ 8
theorem Vz.lo {w : Int → Int} (h : Vz w) : 0 ≤ w 281 := by obtain ⟨_, h⟩ := h; exact h.1.1
theorem Vz.hi {w : Int → Int} (h : Vz w) : w 281 ≤ 4 := by obtain ⟨_, h⟩ := h; exact h.1.2
theorem Vz.vs {w : Int → Int} (h : Vz w) : ∀ v, 0 ≤ v → v < w 281 → 0 ≤ w (282 + v) ∧ w (282 + v) < 40 ∧ 1 ≤ nd w (w (282 + v)) 1 ∧ nd w (w (282 + v)) 1 ≤ 8 := by obtain ⟨_, h⟩ := h; exact h.2
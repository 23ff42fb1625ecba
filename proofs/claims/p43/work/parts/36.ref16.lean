/-! ===== the reference: constraints, levels, wishes, the text ===== -/
theorem x62_66 (h : Hp) (A B C : Int → Int) : rI (rI (rI h 62 A) 66 B) 62 C = rI (rI h 66 B) 62 C := by rw [rI_comm h (by decide : (62 : Nat) ≠ 66), rI_rI]
def reqW (w : Int → Int) (n : Int) : Int → Int := up (up (up w (291 + w 290) n) (311 + w 290) (w 331)) 290 (w 290 + 1)
def lft (w : Int → Int) : Nat → Int
  | 0 => 0
  | k + 1 => if w (311 + (k : Int)) = w 331 then lft w k else (k : Int) + 1
theorem lft_s (w : Int → Int) (k : Nat) : lft w (k + 1) = if w (311 + (k : Int)) = w 331 then lft w k else (k : Int) + 1 := rfl
theorem lft_le (w : Int → Int) : ∀ k : Nat, 0 ≤ lft w k ∧ lft w k ≤ k := by
  intro k
  induction k with
  | zero => exact ⟨Int.le_refl _, Int.le_refl _⟩
  | succ k ih => rw [lft_s]; split <;> omega
def popW (w : Int → Int) : Int → Int := up (up w 290 (lft w (w 290).toNat)) 331 (w 331 - 1)
def wishW (w : Int → Int) (n x : Int) : Int → Int := up (up (up w (333 + w 332) n) (341 + w 332) x) 332 (w 332 + 1)
/-! ===== what holds as the constructor ends ===== -/
theorem hS_zr : Zr hS := by
  have z : Zr hZ := fun _ => rfl
  exact z.hnew.I9
theorem hS_z (a : Nat) : hI hS a = fun _ => 0 := hS_zr a
theorem hS_z1 (a : Nat) (k : Int) : hI hS a k = 0 := by rw [hS_z]
theorem hS_ci : CI hS (fun _ => 0) (fun _ => 0) 0 := by
  refine Box.i ⟨?_, WF_z, ?_, ?_, ?_, ?_, ?_, ?_⟩
  · unfold GH
    rw [hS_z 1, hS_z 2, hS_z 3, hS_z 4]
    exact Box.i ⟨rfl, rfl, fun n h0 h1 => absurd h1 (Int.not_lt.mpr h0), fun n h0 h1 => absurd h1 (Int.not_lt.mpr h0)⟩
  · exact Box.i ⟨hS_z1 _ _, hS_z1 _ _, hS_z1 _ _, fun n h0 h1 => absurd h1 (Int.not_lt.mpr h0), fun n h0 h1 => absurd h1 (Int.not_lt.mpr h0), fun n h0 h1 => absurd h1 (Int.not_lt.mpr h0)⟩
  · refine Box.i ⟨hS_z1 _ _, by decide, by decide, fun i => 13 + 6 * i.toNat, fun i h0 h1 => ?_, fun i j h0 h1 h2 => by show 13 + 6 * i.toNat ≠ 13 + 6 * j.toNat; omega, fun n h0 h1 => absurd h1 (Int.not_lt.mpr h0)⟩
    have : i = 0 ∨ i = 1 ∨ i = 2 ∨ i = 3 ∨ i = 4 := by omega
    rcases this with rfl | rfl | rfl | rfl | rfl
    · exact ⟨by decide +kernel, Box.i (by decide)⟩
    · exact ⟨by decide +kernel, Box.i (by decide)⟩
    · exact ⟨by decide +kernel, Box.i (by decide)⟩
    · exact ⟨by decide +kernel, Box.i (by decide)⟩
    · exact ⟨by decide +kernel, Box.i (by decide)⟩
  · exact Box.i fun z => absurd (hS_z1 _ _) z
  · exact Box.i (Or.inl ⟨by decide +kernel, by decide +kernel⟩)
  · show 0 ≤ hI hS 49 1 ∧ hI hS 49 1 ≤ 120
    rw [hS_z1]
    decide
  · refine Box.i fun k h0 h1 => ?_
    rw [hS_z1] at h1
    exact absurd h1 (Int.not_lt.mpr h0)
theorem nth_some {l : List (Option Nat)} {k b : Nat} (h : nth l k none = some b) : k < l.length := by
  induction l generalizing k with
  | nil => simp [nth] at h
  | cons a l ih =>
    cases k with
    | zero => simp
    | succ k => simp only [nth] at h; have := ih h; simp only [List.length_cons]; omega
theorem nth_mem {l : List (List (Option Nat))} {k : Nat} : nth l k [] ∈ l ∨ nth l k [] = [] := by
  induction l generalizing k with
  | nil => exact Or.inr rfl
  | cons a l ih =>
    cases k with
    | zero => exact Or.inl List.mem_cons_self
    | succ k => rcases ih (k := k) with h | h
                · exact Or.inl (List.mem_cons_of_mem _ h)
                · exact Or.inr h
theorem oGF_len : oGF.all (fun l => Nat.ble l.length 40) = true := by decide +kernel
theorem hS_fx : (List.range 62).all (fun a => (List.range 40).all (fun k => match tGF a k with
  | some b => decide (hR hS a (k : Nat) = some b) && Nat.blt b 62
  | none => true)) = true := by decide +kernel
theorem hS_n : hN hS = 62 := by decide +kernel
theorem fixed_hS : fixed hS := by
  intro a k b ha hk
  rw [hS_n] at ha
  have hk2 : k < 40 := by
    have h1 := nth_some hk
    rcases nth_mem (l := oGF) (k := a) with h | h
    · have := Nat.le_of_ble_eq_true (List.all_eq_true.mp oGF_len _ h)
      omega
    · rw [h] at h1
      simp at h1
  have h1 := List.all_eq_true.mp (List.all_eq_true.mp hS_fx a (List.mem_range.mpr ha)) k (List.mem_range.mpr hk2)
  rw [hk] at h1
  simp only [Bool.and_eq_true, decide_eq_true_eq] at h1
  exact ⟨h1.1, by rw [hS_n]; exact blt_spec h1.2⟩

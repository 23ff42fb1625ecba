/-! ===== what holds as the law's loop begins ===== -/
theorem hS_n : (I10 (hnew (I9 (hnew hZ)))).1 = 77 := by decide +kernel
theorem hS_a : Zr (I10a (hnew (I9 (hnew hZ)))) := by
  have z : Zr hZ := fun _ => rfl
  exact z.hnew.I9.hnew.I10a
theorem hS_I (a : Nat) : hI hS a = if a = 77 then (fun _ => 0) else if a = 62 then up (fun _ => 0) 10 1 else fun _ => 0 := by
  have e : hI hS a = if a = (I10 (hnew (I9 (hnew hZ)))).1 then (fun _ => 0) else if a = 62 then up (hI (I10a (hnew (I9 (hnew hZ)))) 62) 10 1 else hI (I10a (hnew (I9 (hnew hZ)))) a := rfl
  rw [e, hS_n, hS_a 62, hS_a a]
theorem hS_62 : hI hS 62 = up (fun _ => 0) 10 1 := by
  rw [hS_I, if_neg (by decide), if_pos rfl]
theorem hS_z {a : Nat} (h : a ≠ 62) : hI hS a = fun _ => 0 := by
  rw [hS_I, if_neg h]
  split <;> rfl
theorem hS_z1 {a : Nat} (h : a ≠ 62) (k : Int) : hI hS a k = 0 := by rw [hS_z h]
theorem hS_s {k : Int} (h : k ≠ 10) : hI hS 62 k = 0 := by rw [hS_62]; exact up_ne h
theorem WF_z : WF (fun _ => 0) := by
  refine Box.i ⟨⟨by decide, by decide⟩, ⟨by decide, by decide⟩, fun n h0 h1 => absurd h1 (Int.not_lt.mpr h0), fun v h0 h1 => absurd h1 (Int.not_lt.mpr h0), by decide, fun u v h0 h1 h2 => absurd h2 (Int.not_lt.mpr (Int.le_trans h0 (Int.le_of_lt h1))), ⟨by decide, by decide⟩, fun k h0 h1 => absurd h1 (Int.not_lt.mpr h0), ⟨by decide, by decide⟩, ⟨by decide, by decide⟩, fun k h0 h1 => absurd h1 (Int.not_lt.mpr h0), Box.i fun v h0 h1 => absurd h1 (Int.not_lt.mpr h0)⟩
theorem hS_ci : CI hS (fun _ => 0) (fun _ => 0) 0 := by
  refine Box.i ⟨?_, WF_z, ?_, ?_, ?_, ?_, ?_, ?_⟩
  · unfold GH
    rw [hS_z (a := 1) (by decide), hS_z (a := 2) (by decide), hS_z (a := 3) (by decide), hS_z (a := 4) (by decide)]
    exact Box.i ⟨rfl, rfl, fun n h0 h1 => absurd h1 (Int.not_lt.mpr h0), fun n h0 h1 => absurd h1 (Int.not_lt.mpr h0)⟩
  · exact Box.i ⟨hS_z1 (by decide) _, hS_z1 (by decide) _, hS_z1 (by decide) _, fun n h0 h1 => absurd h1 (Int.not_lt.mpr h0), fun n h0 h1 => absurd h1 (Int.not_lt.mpr h0), fun n h0 h1 => absurd h1 (Int.not_lt.mpr h0)⟩
  · refine Box.i ⟨hS_z1 (by decide) _, by decide, by decide, fun i => 13 + 6 * i.toNat, fun i h0 h1 => ?_, fun i j h0 h1 h2 => by show 13 + 6 * i.toNat ≠ 13 + 6 * j.toNat; omega, fun n h0 h1 => absurd h1 (Int.not_lt.mpr h0)⟩
    have : i = 0 ∨ i = 1 ∨ i = 2 ∨ i = 3 ∨ i = 4 := by omega
    rcases this with rfl | rfl | rfl | rfl | rfl
    · exact ⟨by decide +kernel, Box.i (by decide)⟩
    · exact ⟨by decide +kernel, Box.i (by decide)⟩
    · exact ⟨by decide +kernel, Box.i (by decide)⟩
    · exact ⟨by decide +kernel, Box.i (by decide)⟩
    · exact ⟨by decide +kernel, Box.i (by decide)⟩
  · exact Box.i fun z => absurd (hS_z1 (by decide) _) z
  · exact Box.i (Or.inl ⟨by decide +kernel, by decide +kernel⟩)
  · show 0 ≤ hI hS 49 1 ∧ hI hS 49 1 ≤ 120
    rw [hS_z1 (by decide)]
    decide
  · refine Box.i fun k h0 h1 => ?_
    rw [hS_z1 (by decide)] at h1
    exact absurd h1 (Int.not_lt.mpr h0)
theorem LI_hS : LI hS := by
  unfold LI
  rw [hS_z (a := 63) (by decide), hS_z (a := 64) (by decide), hS_s (k := 3) (by decide)]
  refine Box.i ⟨hS_ci, ?_, Box.i fun i h0 h1 => absurd h1 (Int.not_lt.mpr h0), ?_⟩
  · refine Box.i fun z => ?_
    rw [hS_62, up_self] at z
    exact absurd z (by decide)
  · refine Box.i ⟨?_, ?_, ?_, fun k h0 h1 => ?_⟩
    · rw [hS_s (by decide), hS_z1 (by decide)]
    · rw [hS_z1 (by decide)]; decide
    · rw [hS_z1 (by decide)]; decide
    · rw [hS_z1 (by decide)] at h1
      exact absurd h1 (Int.not_lt.mpr h0)
theorem nth_some {l : List (Option Nat)} {k b : Nat} (h : nth l k none = some b) : k < l.length := by
  induction l generalizing k with
  | nil => simp [nth] at h
  | cons a l ih =>
    cases k with
    | zero => simp
    | succ k => simp only [nth] at h; have := ih h; simp only [List.length_cons]; omega
theorem nth_mem {l : List (List (Option Nat))} {k : Nat} : nth l k [] ∈ l ∨ nth l k [] = [] := by
  induction l generalizing k with
  | nil => exact Or.inr rfl
  | cons a l ih =>
    cases k with
    | zero => exact Or.inl List.mem_cons_self
    | succ k => rcases ih (k := k) with h | h
                · exact Or.inl (List.mem_cons_of_mem _ h)
                · exact Or.inr h
theorem oGF_len : oGF.all (fun l => Nat.ble l.length 40) = true := by decide +kernel
theorem hS_fx : (List.range 78).all (fun a => (List.range 40).all (fun k => match tGF a k with
  | some b => decide (hR hS a (k : Nat) = some b) && Nat.blt b 78
  | none => true)) = true := by decide +kernel
theorem fixed_hS : fixed hS := by
  intro a k b ha hk
  have hn : hN hS = 78 := by decide +kernel
  rw [hn] at ha
  have hk2 : k < 40 := by
    have h1 := nth_some hk
    rcases nth_mem (l := oGF) (k := a) with h | h
    · have := Nat.le_of_ble_eq_true (List.all_eq_true.mp oGF_len _ h)
      omega
    · rw [h] at h1
      simp at h1
  have h1 := List.all_eq_true.mp (List.all_eq_true.mp hS_fx a (List.mem_range.mpr ha)) k (List.mem_range.mpr hk2)
  rw [hk] at h1
  simp only [Bool.and_eq_true, decide_eq_true_eq] at h1
  exact ⟨h1.1, by rw [hn]; exact blt_spec h1.2⟩

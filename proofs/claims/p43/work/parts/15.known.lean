/-! ===== what the tables say of all methods ===== -/
def allP (P : Nat → Prop) : List Nat → Prop
  | [] => True
  | n :: l => P n ∧ allP P l
theorem allP_mem {P : Nat → Prop} {l : List Nat} (h : allP P l) {n : Nat} (hn : n ∈ l) : P n := by
  induction l with
  | nil => cases hn
  | cons a l ih =>
    rcases List.mem_cons.mp hn with rfl | hn
    · exact h.1
    · exact ih h.2 hn
theorem mrB_0 : kl0.all mrB = true := by decide +kernel
theorem cdW_0 : allP (fun n => tb (nth (mI (tMR n)) 4 0) = some (codeW (tMR n))) kl0 := ⟨rfl, rfl, rfl, rfl, rfl, rfl, rfl, rfl, rfl, rfl, rfl, rfl, rfl, rfl, rfl, trivial⟩
theorem mrB_1 : kl1.all mrB = true := by decide +kernel
theorem cdW_1 : allP (fun n => tb (nth (mI (tMR n)) 4 0) = some (codeW (tMR n))) kl1 := ⟨rfl, rfl, rfl, rfl, rfl, rfl, rfl, rfl, rfl, rfl, rfl, rfl, rfl, rfl, rfl, trivial⟩
theorem mrB_2 : kl2.all mrB = true := by decide +kernel
theorem cdW_2 : allP (fun n => tb (nth (mI (tMR n)) 4 0) = some (codeW (tMR n))) kl2 := ⟨rfl, rfl, rfl, rfl, rfl, rfl, rfl, rfl, rfl, rfl, rfl, rfl, rfl, rfl, rfl, trivial⟩
theorem mrB_3 : kl3.all mrB = true := by decide +kernel
theorem cdW_3 : allP (fun n => tb (nth (mI (tMR n)) 4 0) = some (codeW (tMR n))) kl3 := ⟨rfl, rfl, rfl, rfl, rfl, rfl, rfl, rfl, rfl, rfl, rfl, rfl, rfl, rfl, rfl, trivial⟩
theorem mrB_4 : kl4.all mrB = true := by decide +kernel
theorem cdW_4 : allP (fun n => tb (nth (mI (tMR n)) 4 0) = some (codeW (tMR n))) kl4 := ⟨rfl, rfl, rfl, rfl, rfl, rfl, rfl, rfl, rfl, rfl, rfl, rfl, rfl, rfl, rfl, trivial⟩
theorem mrB_5 : kl5.all mrB = true := by decide +kernel
theorem cdW_5 : allP (fun n => tb (nth (mI (tMR n)) 4 0) = some (codeW (tMR n))) kl5 := ⟨rfl, rfl, rfl, rfl, rfl, rfl, rfl, rfl, rfl, rfl, rfl, rfl, rfl, rfl, rfl, trivial⟩
theorem mrB_6 : kl6.all mrB = true := by decide +kernel
theorem cdW_6 : allP (fun n => tb (nth (mI (tMR n)) 4 0) = some (codeW (tMR n))) kl6 := ⟨rfl, rfl, rfl, rfl, rfl, rfl, rfl, rfl, rfl, rfl, rfl, rfl, rfl, rfl, rfl, trivial⟩
theorem mrB_7 : kl7.all mrB = true := by decide +kernel
theorem cdW_7 : allP (fun n => tb (nth (mI (tMR n)) 4 0) = some (codeW (tMR n))) kl7 := ⟨rfl, rfl, rfl, rfl, rfl, rfl, rfl, rfl, rfl, rfl, rfl, rfl, rfl, rfl, rfl, trivial⟩
theorem mrB_8 : kl8.all mrB = true := by decide +kernel
theorem cdW_8 : allP (fun n => tb (nth (mI (tMR n)) 4 0) = some (codeW (tMR n))) kl8 := ⟨rfl, rfl, rfl, rfl, rfl, rfl, rfl, rfl, rfl, rfl, rfl, rfl, rfl, rfl, rfl, trivial⟩
theorem mrB_9 : kl9.all mrB = true := by decide +kernel
theorem cdW_9 : allP (fun n => tb (nth (mI (tMR n)) 4 0) = some (codeW (tMR n))) kl9 := ⟨rfl, rfl, rfl, rfl, rfl, rfl, rfl, rfl, rfl, rfl, rfl, rfl, rfl, rfl, rfl, trivial⟩
theorem mrB_10 : kl10.all mrB = true := by decide +kernel
theorem cdW_10 : allP (fun n => tb (nth (mI (tMR n)) 4 0) = some (codeW (tMR n))) kl10 := ⟨rfl, rfl, rfl, rfl, rfl, rfl, rfl, rfl, rfl, rfl, rfl, rfl, rfl, rfl, rfl, trivial⟩
theorem mrB_11 : kl11.all mrB = true := by decide +kernel
theorem cdW_11 : allP (fun n => tb (nth (mI (tMR n)) 4 0) = some (codeW (tMR n))) kl11 := ⟨rfl, rfl, rfl, rfl, rfl, rfl, rfl, rfl, rfl, rfl, rfl, rfl, rfl, rfl, rfl, trivial⟩
theorem mrB_12 : kl12.all mrB = true := by decide +kernel
theorem cdW_12 : allP (fun n => tb (nth (mI (tMR n)) 4 0) = some (codeW (tMR n))) kl12 := ⟨rfl, rfl, rfl, rfl, rfl, rfl, rfl, rfl, rfl, rfl, rfl, rfl, rfl, rfl, rfl, trivial⟩
theorem mrB_13 : kl13.all mrB = true := by decide +kernel
theorem cdW_13 : allP (fun n => tb (nth (mI (tMR n)) 4 0) = some (codeW (tMR n))) kl13 := ⟨rfl, rfl, rfl, rfl, rfl, rfl, rfl, rfl, rfl, rfl, rfl, rfl, rfl, rfl, rfl, trivial⟩
theorem mrB_14 : kl14.all mrB = true := by decide +kernel
theorem cdW_14 : allP (fun n => tb (nth (mI (tMR n)) 4 0) = some (codeW (tMR n))) kl14 := ⟨rfl, rfl, rfl, rfl, rfl, trivial⟩
theorem mrB_all : ∀ n, knows n = true → mrB n = true ∧ tb (nth (mI (tMR n)) 4 0) = some (codeW (tMR n)) := by
  intro n hn
  unfold knows at hn
  simp only [Bool.or_eq_true] at hn
  rcases hn with hn | hn | hn | hn | hn | hn | hn | hn | hn | hn | hn | hn | hn | hn | hn
  · have hm := anyB hn
    exact ⟨List.all_eq_true.mp mrB_0 n hm, allP_mem cdW_0 hm⟩
  · have hm := anyB hn
    exact ⟨List.all_eq_true.mp mrB_1 n hm, allP_mem cdW_1 hm⟩
  · have hm := anyB hn
    exact ⟨List.all_eq_true.mp mrB_2 n hm, allP_mem cdW_2 hm⟩
  · have hm := anyB hn
    exact ⟨List.all_eq_true.mp mrB_3 n hm, allP_mem cdW_3 hm⟩
  · have hm := anyB hn
    exact ⟨List.all_eq_true.mp mrB_4 n hm, allP_mem cdW_4 hm⟩
  · have hm := anyB hn
    exact ⟨List.all_eq_true.mp mrB_5 n hm, allP_mem cdW_5 hm⟩
  · have hm := anyB hn
    exact ⟨List.all_eq_true.mp mrB_6 n hm, allP_mem cdW_6 hm⟩
  · have hm := anyB hn
    exact ⟨List.all_eq_true.mp mrB_7 n hm, allP_mem cdW_7 hm⟩
  · have hm := anyB hn
    exact ⟨List.all_eq_true.mp mrB_8 n hm, allP_mem cdW_8 hm⟩
  · have hm := anyB hn
    exact ⟨List.all_eq_true.mp mrB_9 n hm, allP_mem cdW_9 hm⟩
  · have hm := anyB hn
    exact ⟨List.all_eq_true.mp mrB_10 n hm, allP_mem cdW_10 hm⟩
  · have hm := anyB hn
    exact ⟨List.all_eq_true.mp mrB_11 n hm, allP_mem cdW_11 hm⟩
  · have hm := anyB hn
    exact ⟨List.all_eq_true.mp mrB_12 n hm, allP_mem cdW_12 hm⟩
  · have hm := anyB hn
    exact ⟨List.all_eq_true.mp mrB_13 n hm, allP_mem cdW_13 hm⟩
  · have hm := anyB hn
    exact ⟨List.all_eq_true.mp mrB_14 n hm, allP_mem cdW_14 hm⟩

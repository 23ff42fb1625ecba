/-! ===== what the tables say of all methods ===== -/
def allP (P : Nat → Prop) : List Nat → Prop
  | [] => True
  | n :: l => P n ∧ allP P l
theorem allP_mem {P : Nat → Prop} {l : List Nat} (h : allP P l) {n : Nat} (hn : n ∈ l) : P n := by
  induction l with
  | nil => cases hn
  | cons a l ih =>
    rcases List.mem_cons.mp hn with rfl | hn
    · exact h.1
    · exact ih h.2 hn
theorem mrB_0 : ([0, 1, 2, 3, 4, 5, 6, 7, 8, 9, 10, 11, 12, 13, 14] : List Nat).all mrB = true := by decide +kernel
theorem cdW_0 : allP (fun n => tb (nth (mI (tMR n)) 4 0) = some (codeW (tMR n))) [0, 1, 2, 3, 4, 5, 6, 7, 8, 9, 10, 11, 12, 13, 14] := ⟨rfl, rfl, rfl, rfl, rfl, rfl, rfl, rfl, rfl, rfl, rfl, rfl, rfl, rfl, rfl, trivial⟩
theorem mrB_1 : ([15, 16, 17, 18, 19, 20, 21, 22, 23, 24, 25, 26, 27, 28, 29] : List Nat).all mrB = true := by decide +kernel
theorem cdW_1 : allP (fun n => tb (nth (mI (tMR n)) 4 0) = some (codeW (tMR n))) [15, 16, 17, 18, 19, 20, 21, 22, 23, 24, 25, 26, 27, 28, 29] := ⟨rfl, rfl, rfl, rfl, rfl, rfl, rfl, rfl, rfl, rfl, rfl, rfl, rfl, rfl, rfl, trivial⟩
theorem mrB_2 : ([30, 31, 32, 33, 34, 35, 36, 37, 38, 39, 40, 41, 42, 43, 44] : List Nat).all mrB = true := by decide +kernel
theorem cdW_2 : allP (fun n => tb (nth (mI (tMR n)) 4 0) = some (codeW (tMR n))) [30, 31, 32, 33, 34, 35, 36, 37, 38, 39, 40, 41, 42, 43, 44] := ⟨rfl, rfl, rfl, rfl, rfl, rfl, rfl, rfl, rfl, rfl, rfl, rfl, rfl, rfl, rfl, trivial⟩
theorem mrB_3 : ([45, 46, 47, 48, 49, 50, 51, 52, 53, 54, 55, 56, 57, 58, 59] : List Nat).all mrB = true := by decide +kernel
theorem cdW_3 : allP (fun n => tb (nth (mI (tMR n)) 4 0) = some (codeW (tMR n))) [45, 46, 47, 48, 49, 50, 51, 52, 53, 54, 55, 56, 57, 58, 59] := ⟨rfl, rfl, rfl, rfl, rfl, rfl, rfl, rfl, rfl, rfl, rfl, rfl, rfl, rfl, rfl, trivial⟩
theorem mrB_4 : ([60, 61, 62, 63, 64, 65, 66, 67, 68, 69, 70, 71, 72, 73, 74] : List Nat).all mrB = true := by decide +kernel
theorem cdW_4 : allP (fun n => tb (nth (mI (tMR n)) 4 0) = some (codeW (tMR n))) [60, 61, 62, 63, 64, 65, 66, 67, 68, 69, 70, 71, 72, 73, 74] := ⟨rfl, rfl, rfl, rfl, rfl, rfl, rfl, rfl, rfl, rfl, rfl, rfl, rfl, rfl, rfl, trivial⟩
theorem mrB_5 : ([75, 76, 77, 78, 79, 80, 81, 82, 83, 84, 85, 86, 87, 88, 89] : List Nat).all mrB = true := by decide +kernel
theorem cdW_5 : allP (fun n => tb (nth (mI (tMR n)) 4 0) = some (codeW (tMR n))) [75, 76, 77, 78, 79, 80, 81, 82, 83, 84, 85, 86, 87, 88, 89] := ⟨rfl, rfl, rfl, rfl, rfl, rfl, rfl, rfl, rfl, rfl, rfl, rfl, rfl, rfl, rfl, trivial⟩
theorem mrB_6 : ([90, 91, 92, 93, 94, 95, 96, 97, 98, 99, 100, 101, 102, 103, 104] : List Nat).all mrB = true := by decide +kernel
theorem cdW_6 : allP (fun n => tb (nth (mI (tMR n)) 4 0) = some (codeW (tMR n))) [90, 91, 92, 93, 94, 95, 96, 97, 98, 99, 100, 101, 102, 103, 104] := ⟨rfl, rfl, rfl, rfl, rfl, rfl, rfl, rfl, rfl, rfl, rfl, rfl, rfl, rfl, rfl, trivial⟩
theorem mrB_7 : ([105, 106, 107, 108, 109, 110, 111, 112, 113, 114, 115, 116, 117, 118, 119] : List Nat).all mrB = true := by decide +kernel
theorem cdW_7 : allP (fun n => tb (nth (mI (tMR n)) 4 0) = some (codeW (tMR n))) [105, 106, 107, 108, 109, 110, 111, 112, 113, 114, 115, 116, 117, 118, 119] := ⟨rfl, rfl, rfl, rfl, rfl, rfl, rfl, rfl, rfl, rfl, rfl, rfl, rfl, rfl, rfl, trivial⟩
theorem mrB_8 : ([120, 121, 122, 123, 124, 125, 126, 127, 128, 129, 130, 131, 132, 133, 134] : List Nat).all mrB = true := by decide +kernel
theorem cdW_8 : allP (fun n => tb (nth (mI (tMR n)) 4 0) = some (codeW (tMR n))) [120, 121, 122, 123, 124, 125, 126, 127, 128, 129, 130, 131, 132, 133, 134] := ⟨rfl, rfl, rfl, rfl, rfl, rfl, rfl, rfl, rfl, rfl, rfl, rfl, rfl, rfl, rfl, trivial⟩
theorem mrB_9 : ([135, 136, 137, 138, 139, 140, 141, 142, 143, 144, 145, 146, 147, 148, 149] : List Nat).all mrB = true := by decide +kernel
theorem cdW_9 : allP (fun n => tb (nth (mI (tMR n)) 4 0) = some (codeW (tMR n))) [135, 136, 137, 138, 139, 140, 141, 142, 143, 144, 145, 146, 147, 148, 149] := ⟨rfl, rfl, rfl, rfl, rfl, rfl, rfl, rfl, rfl, rfl, rfl, rfl, rfl, rfl, rfl, trivial⟩
theorem mrB_10 : ([150, 151, 152, 153, 154, 155, 156, 157, 158, 159, 160, 161, 162, 163, 164] : List Nat).all mrB = true := by decide +kernel
theorem cdW_10 : allP (fun n => tb (nth (mI (tMR n)) 4 0) = some (codeW (tMR n))) [150, 151, 152, 153, 154, 155, 156, 157, 158, 159, 160, 161, 162, 163, 164] := ⟨rfl, rfl, rfl, rfl, rfl, rfl, rfl, rfl, rfl, rfl, rfl, rfl, rfl, rfl, rfl, trivial⟩
theorem mrB_11 : ([165, 166, 167, 168, 169, 170, 171, 172, 173, 174, 175, 176, 177, 178, 179] : List Nat).all mrB = true := by decide +kernel
theorem cdW_11 : allP (fun n => tb (nth (mI (tMR n)) 4 0) = some (codeW (tMR n))) [165, 166, 167, 168, 169, 170, 171, 172, 173, 174, 175, 176, 177, 178, 179] := ⟨rfl, rfl, rfl, rfl, rfl, rfl, rfl, rfl, rfl, rfl, rfl, rfl, rfl, rfl, rfl, trivial⟩
theorem mrB_12 : ([180, 181, 182, 183, 184, 185, 186, 187, 188, 189, 190, 191, 192, 193, 194] : List Nat).all mrB = true := by decide +kernel
theorem cdW_12 : allP (fun n => tb (nth (mI (tMR n)) 4 0) = some (codeW (tMR n))) [180, 181, 182, 183, 184, 185, 186, 187, 188, 189, 190, 191, 192, 193, 194] := ⟨rfl, rfl, rfl, rfl, rfl, rfl, rfl, rfl, rfl, rfl, rfl, rfl, rfl, rfl, rfl, trivial⟩
theorem mrB_13 : ([195, 196, 197, 198, 199, 200, 201, 202, 203, 204, 205, 206, 207, 208, 209] : List Nat).all mrB = true := by decide +kernel
theorem cdW_13 : allP (fun n => tb (nth (mI (tMR n)) 4 0) = some (codeW (tMR n))) [195, 196, 197, 198, 199, 200, 201, 202, 203, 204, 205, 206, 207, 208, 209] := ⟨rfl, rfl, rfl, rfl, rfl, rfl, rfl, rfl, rfl, rfl, rfl, rfl, rfl, rfl, rfl, trivial⟩
theorem mrB_14 : ([210, 211, 212, 213, 214, 215, 216, 217, 218, 219, 220, 221, 222, 223, 224] : List Nat).all mrB = true := by decide +kernel
theorem cdW_14 : allP (fun n => tb (nth (mI (tMR n)) 4 0) = some (codeW (tMR n))) [210, 211, 212, 213, 214, 215, 216, 217, 218, 219, 220, 221, 222, 223, 224] := ⟨rfl, rfl, rfl, rfl, rfl, rfl, rfl, rfl, rfl, rfl, rfl, rfl, rfl, rfl, rfl, trivial⟩
theorem mrB_15 : ([225, 226, 227, 228, 229, 230, 231, 232, 233, 234, 235, 236, 237, 238, 239] : List Nat).all mrB = true := by decide +kernel
theorem cdW_15 : allP (fun n => tb (nth (mI (tMR n)) 4 0) = some (codeW (tMR n))) [225, 226, 227, 228, 229, 230, 231, 232, 233, 234, 235, 236, 237, 238, 239] := ⟨rfl, rfl, rfl, rfl, rfl, rfl, rfl, rfl, rfl, rfl, rfl, rfl, rfl, rfl, rfl, trivial⟩
theorem mrB_16 : ([240, 241, 242, 243, 244, 245, 246, 247, 248, 249, 250, 251, 252, 253, 254] : List Nat).all mrB = true := by decide +kernel
theorem cdW_16 : allP (fun n => tb (nth (mI (tMR n)) 4 0) = some (codeW (tMR n))) [240, 241, 242, 243, 244, 245, 246, 247, 248, 249, 250, 251, 252, 253, 254] := ⟨rfl, rfl, rfl, rfl, rfl, rfl, rfl, rfl, rfl, rfl, rfl, rfl, rfl, rfl, rfl, trivial⟩
theorem mrB_17 : ([255, 256, 257, 258, 259, 260, 261, 262, 263, 264, 265, 266, 267, 268, 269] : List Nat).all mrB = true := by decide +kernel
theorem cdW_17 : allP (fun n => tb (nth (mI (tMR n)) 4 0) = some (codeW (tMR n))) [255, 256, 257, 258, 259, 260, 261, 262, 263, 264, 265, 266, 267, 268, 269] := ⟨rfl, rfl, rfl, rfl, rfl, rfl, rfl, rfl, rfl, rfl, rfl, rfl, rfl, rfl, rfl, trivial⟩
theorem mrB_18 : ([270, 271, 272, 273, 274, 275, 276, 277, 278, 279, 280, 281, 282, 283, 284] : List Nat).all mrB = true := by decide +kernel
theorem cdW_18 : allP (fun n => tb (nth (mI (tMR n)) 4 0) = some (codeW (tMR n))) [270, 271, 272, 273, 274, 275, 276, 277, 278, 279, 280, 281, 282, 283, 284] := ⟨rfl, rfl, rfl, rfl, rfl, rfl, rfl, rfl, rfl, rfl, rfl, rfl, rfl, rfl, rfl, trivial⟩
theorem mrB_19 : ([285, 286, 287, 288, 289, 290, 302, 303, 304, 305, 306, 307, 308, 309, 310, 311, 312] : List Nat).all mrB = true := by decide +kernel
theorem cdW_19 : allP (fun n => tb (nth (mI (tMR n)) 4 0) = some (codeW (tMR n))) [285, 286, 287, 288, 289, 290, 302, 303, 304, 305, 306, 307, 308, 309, 310, 311, 312] := ⟨rfl, rfl, rfl, rfl, rfl, rfl, rfl, rfl, rfl, rfl, rfl, rfl, rfl, rfl, rfl, rfl, rfl, trivial⟩
theorem mrB_20 : ([313, 314, 315, 316, 317, 318, 319, 320, 321, 322, 323, 324, 325, 326, 327] : List Nat).all mrB = true := by decide +kernel
theorem cdW_20 : allP (fun n => tb (nth (mI (tMR n)) 4 0) = some (codeW (tMR n))) [313, 314, 315, 316, 317, 318, 319, 320, 321, 322, 323, 324, 325, 326, 327] := ⟨rfl, rfl, rfl, rfl, rfl, rfl, rfl, rfl, rfl, rfl, rfl, rfl, rfl, rfl, rfl, trivial⟩
theorem mrB_21 : ([328, 329, 330] : List Nat).all mrB = true := by decide +kernel
theorem cdW_21 : allP (fun n => tb (nth (mI (tMR n)) 4 0) = some (codeW (tMR n))) [328, 329, 330] := ⟨rfl, rfl, rfl, trivial⟩
theorem mrB_all : ∀ n, knows n = true → mrB n = true ∧ tb (nth (mI (tMR n)) 4 0) = some (codeW (tMR n)) := by
  intro n hn
  have h1 : n < 331 ∧ (302 ≤ n ∨ n ≤ 290) := by
    unfold knows at hn
    rw [Bool.and_eq_true, Bool.or_eq_true] at hn
    exact ⟨blt_spec hn.1, hn.2.imp Nat.le_of_ble_eq_true Nat.le_of_ble_eq_true⟩
  by_cases a0 : n < 15
  · have hm : n ∈ ([0, 1, 2, 3, 4, 5, 6, 7, 8, 9, 10, 11, 12, 13, 14] : List Nat) := by simp only [List.mem_cons, List.not_mem_nil]; omega
    exact ⟨List.all_eq_true.mp mrB_0 n hm, allP_mem cdW_0 hm⟩
  by_cases a1 : n < 30
  · have hm : n ∈ ([15, 16, 17, 18, 19, 20, 21, 22, 23, 24, 25, 26, 27, 28, 29] : List Nat) := by simp only [List.mem_cons, List.not_mem_nil]; omega
    exact ⟨List.all_eq_true.mp mrB_1 n hm, allP_mem cdW_1 hm⟩
  by_cases a2 : n < 45
  · have hm : n ∈ ([30, 31, 32, 33, 34, 35, 36, 37, 38, 39, 40, 41, 42, 43, 44] : List Nat) := by simp only [List.mem_cons, List.not_mem_nil]; omega
    exact ⟨List.all_eq_true.mp mrB_2 n hm, allP_mem cdW_2 hm⟩
  by_cases a3 : n < 60
  · have hm : n ∈ ([45, 46, 47, 48, 49, 50, 51, 52, 53, 54, 55, 56, 57, 58, 59] : List Nat) := by simp only [List.mem_cons, List.not_mem_nil]; omega
    exact ⟨List.all_eq_true.mp mrB_3 n hm, allP_mem cdW_3 hm⟩
  by_cases a4 : n < 75
  · have hm : n ∈ ([60, 61, 62, 63, 64, 65, 66, 67, 68, 69, 70, 71, 72, 73, 74] : List Nat) := by simp only [List.mem_cons, List.not_mem_nil]; omega
    exact ⟨List.all_eq_true.mp mrB_4 n hm, allP_mem cdW_4 hm⟩
  by_cases a5 : n < 90
  · have hm : n ∈ ([75, 76, 77, 78, 79, 80, 81, 82, 83, 84, 85, 86, 87, 88, 89] : List Nat) := by simp only [List.mem_cons, List.not_mem_nil]; omega
    exact ⟨List.all_eq_true.mp mrB_5 n hm, allP_mem cdW_5 hm⟩
  by_cases a6 : n < 105
  · have hm : n ∈ ([90, 91, 92, 93, 94, 95, 96, 97, 98, 99, 100, 101, 102, 103, 104] : List Nat) := by simp only [List.mem_cons, List.not_mem_nil]; omega
    exact ⟨List.all_eq_true.mp mrB_6 n hm, allP_mem cdW_6 hm⟩
  by_cases a7 : n < 120
  · have hm : n ∈ ([105, 106, 107, 108, 109, 110, 111, 112, 113, 114, 115, 116, 117, 118, 119] : List Nat) := by simp only [List.mem_cons, List.not_mem_nil]; omega
    exact ⟨List.all_eq_true.mp mrB_7 n hm, allP_mem cdW_7 hm⟩
  by_cases a8 : n < 135
  · have hm : n ∈ ([120, 121, 122, 123, 124, 125, 126, 127, 128, 129, 130, 131, 132, 133, 134] : List Nat) := by simp only [List.mem_cons, List.not_mem_nil]; omega
    exact ⟨List.all_eq_true.mp mrB_8 n hm, allP_mem cdW_8 hm⟩
  by_cases a9 : n < 150
  · have hm : n ∈ ([135, 136, 137, 138, 139, 140, 141, 142, 143, 144, 145, 146, 147, 148, 149] : List Nat) := by simp only [List.mem_cons, List.not_mem_nil]; omega
    exact ⟨List.all_eq_true.mp mrB_9 n hm, allP_mem cdW_9 hm⟩
  by_cases a10 : n < 165
  · have hm : n ∈ ([150, 151, 152, 153, 154, 155, 156, 157, 158, 159, 160, 161, 162, 163, 164] : List Nat) := by simp only [List.mem_cons, List.not_mem_nil]; omega
    exact ⟨List.all_eq_true.mp mrB_10 n hm, allP_mem cdW_10 hm⟩
  by_cases a11 : n < 180
  · have hm : n ∈ ([165, 166, 167, 168, 169, 170, 171, 172, 173, 174, 175, 176, 177, 178, 179] : List Nat) := by simp only [List.mem_cons, List.not_mem_nil]; omega
    exact ⟨List.all_eq_true.mp mrB_11 n hm, allP_mem cdW_11 hm⟩
  by_cases a12 : n < 195
  · have hm : n ∈ ([180, 181, 182, 183, 184, 185, 186, 187, 188, 189, 190, 191, 192, 193, 194] : List Nat) := by simp only [List.mem_cons, List.not_mem_nil]; omega
    exact ⟨List.all_eq_true.mp mrB_12 n hm, allP_mem cdW_12 hm⟩
  by_cases a13 : n < 210
  · have hm : n ∈ ([195, 196, 197, 198, 199, 200, 201, 202, 203, 204, 205, 206, 207, 208, 209] : List Nat) := by simp only [List.mem_cons, List.not_mem_nil]; omega
    exact ⟨List.all_eq_true.mp mrB_13 n hm, allP_mem cdW_13 hm⟩
  by_cases a14 : n < 225
  · have hm : n ∈ ([210, 211, 212, 213, 214, 215, 216, 217, 218, 219, 220, 221, 222, 223, 224] : List Nat) := by simp only [List.mem_cons, List.not_mem_nil]; omega
    exact ⟨List.all_eq_true.mp mrB_14 n hm, allP_mem cdW_14 hm⟩
  by_cases a15 : n < 240
  · have hm : n ∈ ([225, 226, 227, 228, 229, 230, 231, 232, 233, 234, 235, 236, 237, 238, 239] : List Nat) := by simp only [List.mem_cons, List.not_mem_nil]; omega
    exact ⟨List.all_eq_true.mp mrB_15 n hm, allP_mem cdW_15 hm⟩
  by_cases a16 : n < 255
  · have hm : n ∈ ([240, 241, 242, 243, 244, 245, 246, 247, 248, 249, 250, 251, 252, 253, 254] : List Nat) := by simp only [List.mem_cons, List.not_mem_nil]; omega
    exact ⟨List.all_eq_true.mp mrB_16 n hm, allP_mem cdW_16 hm⟩
  by_cases a17 : n < 270
  · have hm : n ∈ ([255, 256, 257, 258, 259, 260, 261, 262, 263, 264, 265, 266, 267, 268, 269] : List Nat) := by simp only [List.mem_cons, List.not_mem_nil]; omega
    exact ⟨List.all_eq_true.mp mrB_17 n hm, allP_mem cdW_17 hm⟩
  by_cases a18 : n < 285
  · have hm : n ∈ ([270, 271, 272, 273, 274, 275, 276, 277, 278, 279, 280, 281, 282, 283, 284] : List Nat) := by simp only [List.mem_cons, List.not_mem_nil]; omega
    exact ⟨List.all_eq_true.mp mrB_18 n hm, allP_mem cdW_18 hm⟩
  by_cases a19 : n < 313
  · have hm : n ∈ ([285, 286, 287, 288, 289, 290, 302, 303, 304, 305, 306, 307, 308, 309, 310, 311, 312] : List Nat) := by simp only [List.mem_cons, List.not_mem_nil]; omega
    exact ⟨List.all_eq_true.mp mrB_19 n hm, allP_mem cdW_19 hm⟩
  by_cases a20 : n < 328
  · have hm : n ∈ ([313, 314, 315, 316, 317, 318, 319, 320, 321, 322, 323, 324, 325, 326, 327] : List Nat) := by simp only [List.mem_cons, List.not_mem_nil]; omega
    exact ⟨List.all_eq_true.mp mrB_20 n hm, allP_mem cdW_20 hm⟩
  have hm : n ∈ ([328, 329, 330] : List Nat) := by simp only [List.mem_cons, List.not_mem_nil]; omega
  exact ⟨List.all_eq_true.mp mrB_21 n hm, allP_mem cdW_21 hm⟩

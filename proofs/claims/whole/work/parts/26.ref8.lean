/-! ===== the reference: values ===== -/
/-- a word of a width, read with its sign -/
def sgn (v w : Int) : Int := if p2 (w - 1) ≤ v then v - p2 w else v
def shfW (k a b w : Int) : Int := if k = 10 then (sgn a w / p2 (if b < w then b else w)) % p2 w else if w ≤ b then 0 else if k = 8 then a * p2 b % p2 w else a / p2 b
def cmpW (k a b w : Int) : Int := if (if k = 13 then a = b else if k = 14 ∨ k = 16 then (if 15 < k then sgn a w else a) < (if 15 < k then sgn b w else b) else (if 15 < k then sgn a w else a) ≤ (if 15 < k then sgn b w else b)) then 1 else 0
theorem bAnd1 (x : Int) : bAnd x 1 = x % 2 := bAnd_mask (k := 1) (by decide) (by decide)
theorem sgn_bit {v w : Int} (h1 : 1 ≤ w) (h8 : w ≤ 8) (h0 : 0 ≤ v) (hv : v < p2 w) : bAnd (sShr v (w - 1)) 1 = if p2 (w - 1) ≤ v then 1 else 0 := by
  have e : p2 w = 2 * p2 (w - 1) := by rw [← p2_succ (by omega)]; congr 1; omega
  have hp := p2_pos (w - 1)
  have h256 := p2_le8 h8
  rw [bAnd1, sShr_eq ⟨by omega, by omega⟩ (by omega) (by omega)]
  split
  · have : v / p2 (w - 1) = 1 := by
      rw [Int.ediv_eq_iff_of_pos hp]
      omega
    rw [this]; rfl
  · rw [Int.ediv_eq_zero_of_lt h0 (by omega)]; rfl
theorem sgn_rng {v w : Int} (h1 : 1 ≤ w) (h8 : w ≤ 8) (h0 : 0 ≤ v) (hv : v < p2 w) : -128 ≤ sgn v w ∧ sgn v w < 128 := by
  have e : p2 w = 2 * p2 (w - 1) := by rw [← p2_succ (by omega)]; congr 1; omega
  have hp := p2_pos (w - 1)
  have h256 : p2 (w - 1) ≤ 128 := p2_le (b := 7) (by omega)
  unfold sgn
  split <;> omega
def s_X10_signed : CS := (zc 1, ap [(0, 0), (0, 0)] (fun v w h Rt X =>
(1 ≤ w ∧ w ≤ 8 ∧ 0 ≤ v ∧ v < p2 w) ∧ Rt (some (.inl (sgn v w))) h))
set_option maxRecDepth 100000 in
set_option maxHeartbeats 4000000 in
theorem o_X10_signed : Obl true 1 2 (sp []) [] code_X10_signed s_X10_signed := by
  refine obl0 (by rfl) ?_
  intro v r_v w r_w h Rt X hh hf hs
  obtain ⟨h1, h2⟩ := hs
  obtain ⟨a1, a2, a3, a4⟩ := h1
  have e := sgn_bit a1 a2 a3 a4
  have e2 : sShl 1 w = p2 w := by rw [sShl_eq (by omega) (by omega) (by omega) (by have := p2_le8 a2; omega), Int.one_mul]
  have e3 := p2_le8 a2
  by_cases c : p2 (w - 1) ≤ v
  · rw [if_pos c] at e
    have e1 : sgn v w = v - sShl 1 w := by unfold sgn; rw [if_pos c, e2]
    rw [e1] at h2
    repeat' (first | apply And.intro | (intro _; try (exfalso; omega)) | exact h1 | exact h1 (by omega) | exact h2 | exact h2 (by omega) | omega | (simp only [rI_rI, rJ_rJ, hI_rI, hJ_rI, hI_rJ, hJ_rJ, hR_rI, hR_rJ, hN_rI, hN_rJ, reduceIte, Nat.reduceEqDiff, eq_self, up_up, up_self, up_ne, ne_eq, not_false_eq_true, Int.reduceEq, Int.reduceNeg, svH_63, rfH_63]; omega))
  · rw [if_neg c] at e
    have e1 : sgn v w = v := by unfold sgn; rw [if_neg c]
    rw [e1] at h2
    repeat' (first | apply And.intro | (intro _; try (exfalso; omega)) | exact h1 | exact h1 (by omega) | exact h2 | exact h2 (by omega) | omega | (simp only [rI_rI, rJ_rJ, hI_rI, hJ_rI, hI_rJ, hJ_rJ, hR_rI, hR_rJ, hN_rI, hN_rJ, reduceIte, Nat.reduceEqDiff, eq_self, up_up, up_self, up_ne, ne_eq, not_false_eq_true, Int.reduceEq, Int.reduceNeg, svH_63, rfH_63]; omega))
theorem m_X10_signed : MM 224 s_X10_signed := mm_of (own := 9) (by rfl) k_X10_signed (cl := []) trivial o_X10_signed
def s_X10_shifted : CS := (zc 2, ap [(0, 0), (0, 0), (0, 0), (0, 0)] (fun k a b w h Rt X =>
(1 ≤ w ∧ w ≤ 8 ∧ 0 ≤ a ∧ a < p2 w ∧ 0 ≤ b ∧ b < p2 w) ∧ Rt (some (.inl (shfW k a b w))) h))
set_option maxRecDepth 100000 in
set_option maxHeartbeats 4000000 in
theorem o_X10_shifted : Obl true 1 4 (sp [(224, s_X10_signed), (201, s_X10_mask)]) [] code_X10_shifted s_X10_shifted := by
  refine obl0 (by rfl) ?_
  intro k r_k a r_a b r_b w r_w h Rt X hh hf hs
  obtain ⟨h1, h2⟩ := hs
  obtain ⟨a1, a2, a3, a4, a5, a6⟩ := h1
  have e3 := p2_le8 a2
  have e4 := sgn_rng a1 a2 a3 a4
  have f1 : k = 10 → b < w → shfW k a b w = bAnd (sShr (sgn a w) b) (p2 w - 1) := fun z1 z2 => by
    unfold shfW; rw [if_pos z1, if_pos z2, bAnd_mask (by omega) (by omega), sShr_eq ⟨by omega, by omega⟩ (by omega) (by omega)]
  have f2 : k = 10 → ¬ b < w → shfW k a b w = bAnd (sShr (sgn a w) w) (p2 w - 1) := fun z1 z2 => by
    unfold shfW; rw [if_pos z1, if_neg z2, bAnd_mask (by omega) (by omega), sShr_eq ⟨by omega, by omega⟩ (by omega) (by omega)]
  have f3 : k ≠ 10 → w ≤ b → shfW k a b w = 0 := fun z1 z2 => by unfold shfW; rw [if_neg z1, if_pos z2]
  have f4 : k = 8 → ¬ w ≤ b → shfW k a b w = bAnd (sShl a b) (p2 w - 1) := fun z1 z2 => by
    have hb : p2 b ≤ 128 := p2_le (b := 7) (by omega)
    have hp := p2_pos b
    have hm : a * p2 b ≤ 256 * 128 := Int.mul_le_mul (by omega) hb (by omega) (by omega)
    unfold shfW; rw [if_neg (by omega), if_neg z2, if_pos z1, bAnd_mask (by omega) (by omega), sShl_eq (by omega) (by omega) a3 (by omega)]
  have f5 : k ≠ 10 → k ≠ 8 → ¬ w ≤ b → shfW k a b w = sShr a b := fun z1 z3 z2 => by
    unfold shfW; rw [if_neg z1, if_neg z2, if_neg z3, sShr_eq ⟨by omega, by omega⟩ (by omega) (by omega)]
  repeat' (first | apply And.intro | (intro _; try (exfalso; omega)) | exact rt_eq h2 (by rw [f1 (by omega) (by omega)]) rfl | exact rt_eq h2 (by rw [f2 (by omega) (by omega)]) rfl | exact rt_eq h2 (by rw [f3 (by omega) (by omega)]) rfl | exact rt_eq h2 (by rw [f4 (by omega) (by omega)]) rfl | exact rt_eq h2 (by rw [f5 (by omega) (by omega) (by omega)]) rfl | exact h1 | exact h1 (by omega) | exact h2 | exact h2 (by omega) | omega | (simp only [rI_rI, rJ_rJ, hI_rI, hJ_rI, hI_rJ, hJ_rJ, hR_rI, hR_rJ, hN_rI, hN_rJ, reduceIte, Nat.reduceEqDiff, eq_self, up_up, up_self, up_ne, ne_eq, not_false_eq_true, Int.reduceEq, Int.reduceNeg, svH_63, rfH_63]; omega))
theorem m_X10_shifted : MM 225 s_X10_shifted := mm_of (own := 9) (by rfl) k_X10_shifted (cl := [(224, s_X10_signed), (201, s_X10_mask)]) ⟨m_X10_signed, m_X10_mask, trivial⟩ o_X10_shifted
def s_X10_compares : CS := (zc 2, ap [(0, 0), (0, 0), (0, 0), (0, 0)] (fun k a b w h Rt X =>
(13 ≤ k ∧ k ≤ 17 ∧ 1 ≤ w ∧ w ≤ 8 ∧ 0 ≤ a ∧ a < p2 w ∧ 0 ≤ b ∧ b < p2 w) ∧ (cmpW k a b w = 1 → Rt (some (.inl 1)) h) ∧ (cmpW k a b w = 0 → Rt (some (.inl 0)) h)))
set_option maxRecDepth 100000 in
set_option maxHeartbeats 4000000 in
theorem o_X10_compares : Obl true 2 6 (sp [(224, s_X10_signed)]) [] code_X10_compares s_X10_compares := by
  refine obl0 (by rfl) ?_
  intro k r_k a r_a b r_b w r_w h Rt X hh hf hs
  obtain ⟨h1, h2, h3⟩ := hs
  obtain ⟨k1, k2, a1, a2, a3, a4, a5, a6⟩ := h1
  unfold cmpW at h2 h3
  have k3 : k = 13 ∨ k = 14 ∨ k = 15 ∨ k = 16 ∨ k = 17 := by omega
  rcases k3 with rfl | rfl | rfl | rfl | rfl
  · by_cases c : a = b
    · have h4 := h2 (by simp [c])
      repeat' (first | apply And.intro | (intro _; try (exfalso; omega)) | exact h4 | exact h1 | exact h1 (by omega) | exact h2 | exact h2 (by omega) | exact h3 | exact h3 (by omega) | omega | (simp only [rI_rI, rJ_rJ, hI_rI, hJ_rI, hI_rJ, hJ_rJ, hR_rI, hR_rJ, hN_rI, hN_rJ, reduceIte, Nat.reduceEqDiff, eq_self, up_up, up_self, up_ne, ne_eq, not_false_eq_true, Int.reduceEq, Int.reduceNeg, svH_63, rfH_63]; omega))
    · have h4 := h3 (by simp [c])
      repeat' (first | apply And.intro | (intro _; try (exfalso; omega)) | exact h4 | exact h1 | exact h1 (by omega) | exact h2 | exact h2 (by omega) | exact h3 | exact h3 (by omega) | omega | (simp only [rI_rI, rJ_rJ, hI_rI, hJ_rI, hI_rJ, hJ_rJ, hR_rI, hR_rJ, hN_rI, hN_rJ, reduceIte, Nat.reduceEqDiff, eq_self, up_up, up_self, up_ne, ne_eq, not_false_eq_true, Int.reduceEq, Int.reduceNeg, svH_63, rfH_63]; omega))
  · by_cases c : a < b
    · have h4 := h2 (by simp [c])
      repeat' (first | apply And.intro | (intro _; try (exfalso; omega)) | exact h4 | exact h1 | exact h1 (by omega) | exact h2 | exact h2 (by omega) | exact h3 | exact h3 (by omega) | omega | (simp only [rI_rI, rJ_rJ, hI_rI, hJ_rI, hI_rJ, hJ_rJ, hR_rI, hR_rJ, hN_rI, hN_rJ, reduceIte, Nat.reduceEqDiff, eq_self, up_up, up_self, up_ne, ne_eq, not_false_eq_true, Int.reduceEq, Int.reduceNeg, svH_63, rfH_63]; omega))
    · have h4 := h3 (by simp [c])
      repeat' (first | apply And.intro | (intro _; try (exfalso; omega)) | exact h4 | exact h1 | exact h1 (by omega) | exact h2 | exact h2 (by omega) | exact h3 | exact h3 (by omega) | omega | (simp only [rI_rI, rJ_rJ, hI_rI, hJ_rI, hI_rJ, hJ_rJ, hR_rI, hR_rJ, hN_rI, hN_rJ, reduceIte, Nat.reduceEqDiff, eq_self, up_up, up_self, up_ne, ne_eq, not_false_eq_true, Int.reduceEq, Int.reduceNeg, svH_63, rfH_63]; omega))
  · by_cases c : a ≤ b
    · have h4 := h2 (by simp [c])
      repeat' (first | apply And.intro | (intro _; try (exfalso; omega)) | exact h4 | exact h1 | exact h1 (by omega) | exact h2 | exact h2 (by omega) | exact h3 | exact h3 (by omega) | omega | (simp only [rI_rI, rJ_rJ, hI_rI, hJ_rI, hI_rJ, hJ_rJ, hR_rI, hR_rJ, hN_rI, hN_rJ, reduceIte, Nat.reduceEqDiff, eq_self, up_up, up_self, up_ne, ne_eq, not_false_eq_true, Int.reduceEq, Int.reduceNeg, svH_63, rfH_63]; omega))
    · have h4 := h3 (by simp [c])
      repeat' (first | apply And.intro | (intro _; try (exfalso; omega)) | exact h4 | exact h1 | exact h1 (by omega) | exact h2 | exact h2 (by omega) | exact h3 | exact h3 (by omega) | omega | (simp only [rI_rI, rJ_rJ, hI_rI, hJ_rI, hI_rJ, hJ_rJ, hR_rI, hR_rJ, hN_rI, hN_rJ, reduceIte, Nat.reduceEqDiff, eq_self, up_up, up_self, up_ne, ne_eq, not_false_eq_true, Int.reduceEq, Int.reduceNeg, svH_63, rfH_63]; omega))
  · by_cases c : sgn a w < sgn b w
    · have h4 := h2 (by simp [c])
      repeat' (first | apply And.intro | (intro _; try (exfalso; omega)) | exact h4 | exact h1 | exact h1 (by omega) | exact h2 | exact h2 (by omega) | exact h3 | exact h3 (by omega) | omega | (simp only [rI_rI, rJ_rJ, hI_rI, hJ_rI, hI_rJ, hJ_rJ, hR_rI, hR_rJ, hN_rI, hN_rJ, reduceIte, Nat.reduceEqDiff, eq_self, up_up, up_self, up_ne, ne_eq, not_false_eq_true, Int.reduceEq, Int.reduceNeg, svH_63, rfH_63]; omega))
    · have h4 := h3 (by simp [c])
      repeat' (first | apply And.intro | (intro _; try (exfalso; omega)) | exact h4 | exact h1 | exact h1 (by omega) | exact h2 | exact h2 (by omega) | exact h3 | exact h3 (by omega) | omega | (simp only [rI_rI, rJ_rJ, hI_rI, hJ_rI, hI_rJ, hJ_rJ, hR_rI, hR_rJ, hN_rI, hN_rJ, reduceIte, Nat.reduceEqDiff, eq_self, up_up, up_self, up_ne, ne_eq, not_false_eq_true, Int.reduceEq, Int.reduceNeg, svH_63, rfH_63]; omega))
  · by_cases c : sgn a w ≤ sgn b w
    · have h4 := h2 (by simp [c])
      repeat' (first | apply And.intro | (intro _; try (exfalso; omega)) | exact h4 | exact h1 | exact h1 (by omega) | exact h2 | exact h2 (by omega) | exact h3 | exact h3 (by omega) | omega | (simp only [rI_rI, rJ_rJ, hI_rI, hJ_rI, hI_rJ, hJ_rJ, hR_rI, hR_rJ, hN_rI, hN_rJ, reduceIte, Nat.reduceEqDiff, eq_self, up_up, up_self, up_ne, ne_eq, not_false_eq_true, Int.reduceEq, Int.reduceNeg, svH_63, rfH_63]; omega))
    · have h4 := h3 (by simp [c])
      repeat' (first | apply And.intro | (intro _; try (exfalso; omega)) | exact h4 | exact h1 | exact h1 (by omega) | exact h2 | exact h2 (by omega) | exact h3 | exact h3 (by omega) | omega | (simp only [rI_rI, rJ_rJ, hI_rI, hJ_rI, hI_rJ, hJ_rJ, hR_rI, hR_rJ, hN_rI, hN_rJ, reduceIte, Nat.reduceEqDiff, eq_self, up_up, up_self, up_ne, ne_eq, not_false_eq_true, Int.reduceEq, Int.reduceNeg, svH_63, rfH_63]; omega))
theorem m_X10_compares : MM 226 s_X10_compares := mm_of (own := 9) (by rfl) k_X10_compares (cl := [(224, s_X10_signed)]) ⟨m_X10_signed, trivial⟩ o_X10_compares

/-! ===== the reference: what is told of a node ===== -/
def orI (s : Int64) (x : Int) : Int64 := if x = -1 then s ||| 0 else s ||| lShl 1 x
def orN (w : Int → Int) (s : Int64) (k i : Int) : Int64 :=
  if i = 2 then orI (orI (orI s (nd w k 2)) (nd w k 3)) (nd w k 4) else if i = 3 then orI (orI s (nd w k 3)) (nd w k 4) else if i = 4 then orI s (nd w k 4) else s
/-- how many nodes below k belong to what a set of them reaches -/
def pF (w : Int → Int) : Nat → Int64 → Int
  | 0, _ => 0
  | k + 1, s => if lShr s (k : Int) &&& 1 = 1 then 1 + pF w k (orN w s (k : Int) 2) else pF w k s
def partsW (w : Int → Int) (n : Int) : Int := pF w (n + 1).toNat (lShl 1 n)
def toldW (w : Int → Int) (n x : Int) : Int :=
  if x = 8 then partsW w n else if x = 5 then (if nd w n 0 < 2 then nd w n 5 else -1) else if 5 < x then (if nd w n 0 = 21 then nd w n (x - 1) else -1) else nd w n x
def s_X10_parts : CS := (zc 2, ap [(3, 62), (0, 0)] (fun n h Rt X =>
(0 ≤ n ∧ n < 40) ∧ Rt (some (.inl (partsW (hI h 63) n))) h))
set_option maxRecDepth 100000 in
set_option maxHeartbeats 4000000 in
theorem o_X10_parts : Obl true 1 7 (sp [(196, s_X10_of)]) [] code_X10_parts s_X10_parts := by
  refine oblL (by rfl) [(10, [0, 1, 2, 4, 5]), (32, [0, 1, 2, 4, 5, 6])] ?_
  intro n r_n h Rt X hh hf hs
  obtain ⟨h1, h2⟩ := hs
  refine ⟨fun k pc vs g => ∃ (s : Int64) (m i : Int), g = h ∧ -1 ≤ i ∧ i ≤ n ∧ 0 ≤ m ∧ m + i ≤ 40 ∧ ((pc = 10 ∧ vs = [.inr (.inr (some 62)), .inl n, .inr (.inl s), .inl m, .inl i] ∧ m + i < 40 ∧ partsW (hI h 63) n = m + pF (hI h 63) (i + 1).toNat s ∧ k = 10 * (i + 1).toNat) ∨ (pc = 32 ∧ 0 ≤ i ∧ ∃ (j : Int), vs = [.inr (.inr (some 62)), .inl n, .inr (.inl s), .inl m, .inl i, .inl j] ∧ 2 ≤ j ∧ j ≤ 5 ∧ partsW (hI h 63) n = m + pF (hI h 63) i.toNat (orN (hI h 63) s i j) ∧ k = 10 * i.toNat + (6 - j).toNat)), ?_, ?_⟩
  · repeat' (first | apply And.intro | (intro _; try (exfalso; omega)) | exact Exists.intro _ ⟨_, 0, n, rfl, by omega, by omega, by omega, by omega, Or.inl ⟨rfl, rfl, by omega, by rw [Int.zero_add]; rfl, rfl⟩⟩ | exact h1 | exact h1 (by omega) | exact h2 | exact h2 (by omega) | omega | (simp only [rI_rI, rJ_rJ, hI_rI, hJ_rI, hI_rJ, hJ_rJ, hR_rI, hR_rJ, hN_rI, hN_rJ, reduceIte, Nat.reduceEqDiff, eq_self, up_up, up_self, up_ne, ne_eq, not_false_eq_true, Int.reduceEq, Int.reduceNeg, svH_63, rfH_63]; omega))
  · rintro k pc live vs g hl ⟨s, m, i, rfl, i1, i2, i3, i4, ⟨rfl, rfl, i5, i6, rfl⟩ | ⟨rfl, i5, j, rfl, j1, j2, j3, rfl⟩⟩ hv hh1 hf1
    · rcases look2 hl with ⟨_, rfl⟩ | ⟨q, _⟩
      · by_cases hi : i = -1
        · subst hi
          have e : partsW (hI g 63) n = m := by rw [i6]; exact Int.add_zero m
          repeat' (first | apply And.intro | (intro _; try (exfalso; omega)) | exact rt_eq h2 (by rw [e]) rfl | exact h1 | exact h1 (by omega) | exact h2 | exact h2 (by omega) | omega | (simp only [rI_rI, rJ_rJ, hI_rI, hJ_rI, hI_rJ, hJ_rJ, hR_rI, hR_rJ, hN_rI, hN_rJ, reduceIte, Nat.reduceEqDiff, eq_self, up_up, up_self, up_ne, ne_eq, not_false_eq_true, Int.reduceEq, Int.reduceNeg, svH_63, rfH_63]; omega))
        · have e0 : (i + 1).toNat = i.toNat + 1 := by omega
          have e1 : ((i.toNat : Nat) : Int) = i := by omega
          rw [e0] at i6
          unfold pF at i6
          rw [e1] at i6
          by_cases e : lShr s i &&& 1 = 1
          · rw [if_pos e] at i6
            have e2 := cmpL_0.mpr e
            repeat' (first | apply And.intro | (intro _; try (exfalso; omega)) | exact Exists.intro _ ⟨by omega, s, m + 1, i, rfl, by omega, by omega, by omega, by omega, Or.inr ⟨rfl, by omega, 2, rfl, by omega, by omega, by omega, rfl⟩⟩ | exact h1 | exact h1 (by omega) | exact h2 | exact h2 (by omega) | omega | (simp only [rI_rI, rJ_rJ, hI_rI, hJ_rI, hI_rJ, hJ_rJ, hR_rI, hR_rJ, hN_rI, hN_rJ, reduceIte, Nat.reduceEqDiff, eq_self, up_up, up_self, up_ne, ne_eq, not_false_eq_true, Int.reduceEq, Int.reduceNeg, svH_63, rfH_63]; omega))
          · rw [if_neg e] at i6
            have e2 : ¬ cmpL (lShr s i &&& 1) 1 = 0 := fun q => e (cmpL_0.mp q)
            repeat' (first | apply And.intro | (intro _; try (exfalso; omega)) | exact Exists.intro _ ⟨by omega, s, m, i + -1, rfl, by omega, by omega, by omega, by omega, Or.inl ⟨rfl, rfl, by omega, by rw [show i + -1 + 1 = i from by omega]; exact i6, rfl⟩⟩ | exact h1 | exact h1 (by omega) | exact h2 | exact h2 (by omega) | omega | (simp only [rI_rI, rJ_rJ, hI_rI, hJ_rI, hI_rJ, hJ_rJ, hR_rI, hR_rJ, hN_rI, hN_rJ, reduceIte, Nat.reduceEqDiff, eq_self, up_up, up_self, up_ne, ne_eq, not_false_eq_true, Int.reduceEq, Int.reduceNeg, svH_63, rfH_63]; omega))
      · cases q
    · rcases look2 hl with ⟨q, _⟩ | ⟨_, rfl⟩
      · cases q
      · have j4 : j = 2 ∨ j = 3 ∨ j = 4 ∨ j = 5 := by omega
        rcases j4 with rfl | rfl | rfl | rfl
        · repeat' (first | apply And.intro | (intro _; try (exfalso; omega)) | exact Exists.intro _ ⟨by omega, _, m, i, rfl, by omega, by omega, by omega, by omega, Or.inr ⟨rfl, by omega, 3, rfl, by omega, by omega, by rw [j3]; unfold orN orI; simp [*], rfl⟩⟩ | exact h1 | exact h1 (by omega) | exact h2 | exact h2 (by omega) | omega | (simp only [rI_rI, rJ_rJ, hI_rI, hJ_rI, hI_rJ, hJ_rJ, hR_rI, hR_rJ, hN_rI, hN_rJ, reduceIte, Nat.reduceEqDiff, eq_self, up_up, up_self, up_ne, ne_eq, not_false_eq_true, Int.reduceEq, Int.reduceNeg, svH_63, rfH_63]; omega))
        · repeat' (first | apply And.intro | (intro _; try (exfalso; omega)) | exact Exists.intro _ ⟨by omega, _, m, i, rfl, by omega, by omega, by omega, by omega, Or.inr ⟨rfl, by omega, 4, rfl, by omega, by omega, by rw [j3]; unfold orN orI; simp [*], rfl⟩⟩ | exact h1 | exact h1 (by omega) | exact h2 | exact h2 (by omega) | omega | (simp only [rI_rI, rJ_rJ, hI_rI, hJ_rI, hI_rJ, hJ_rJ, hR_rI, hR_rJ, hN_rI, hN_rJ, reduceIte, Nat.reduceEqDiff, eq_self, up_up, up_self, up_ne, ne_eq, not_false_eq_true, Int.reduceEq, Int.reduceNeg, svH_63, rfH_63]; omega))
        · repeat' (first | apply And.intro | (intro _; try (exfalso; omega)) | exact Exists.intro _ ⟨by omega, _, m, i, rfl, by omega, by omega, by omega, by omega, Or.inr ⟨rfl, by omega, 5, rfl, by omega, by omega, by rw [j3]; unfold orN orI; simp [*], rfl⟩⟩ | exact h1 | exact h1 (by omega) | exact h2 | exact h2 (by omega) | omega | (simp only [rI_rI, rJ_rJ, hI_rI, hJ_rI, hI_rJ, hJ_rJ, hR_rI, hR_rJ, hN_rI, hN_rJ, reduceIte, Nat.reduceEqDiff, eq_self, up_up, up_self, up_ne, ne_eq, not_false_eq_true, Int.reduceEq, Int.reduceNeg, svH_63, rfH_63]; omega))
        · repeat' (first | apply And.intro | (intro _; try (exfalso; omega)) | exact Exists.intro _ ⟨by omega, s, m, i + -1, rfl, by omega, by omega, by omega, by omega, Or.inl ⟨rfl, rfl, by omega, by rw [show i + -1 + 1 = i from by omega]; exact j3, rfl⟩⟩ | exact h1 | exact h1 (by omega) | exact h2 | exact h2 (by omega) | omega | (simp only [rI_rI, rJ_rJ, hI_rI, hJ_rI, hI_rJ, hJ_rJ, hR_rI, hR_rJ, hN_rI, hN_rJ, reduceIte, Nat.reduceEqDiff, eq_self, up_up, up_self, up_ne, ne_eq, not_false_eq_true, Int.reduceEq, Int.reduceNeg, svH_63, rfH_63]; omega))
theorem m_X10_parts : MM 220 s_X10_parts := mm_of (own := 9) (by rfl) k_X10_parts (cl := [(196, s_X10_of)]) ⟨m_X10_of, trivial⟩ o_X10_parts
def s_X10_told : CS := (zc 3, ap [(3, 62), (0, 0), (0, 0)] (fun n x h Rt X =>
(0 ≤ n ∧ n < 40 ∧ 0 ≤ x ∧ x ≤ 8) ∧ Rt (some (.inl (toldW (hI h 63) n x))) h))
set_option maxRecDepth 100000 in
set_option maxHeartbeats 4000000 in
theorem o_X10_told : Obl true 1 3 (sp [(220, s_X10_parts), (197, s_X10_kind), (196, s_X10_of)]) [] code_X10_told s_X10_told := by
  refine obl0 (by rfl) ?_
  intro n r_n x r_x h Rt X hh hf hs
  obtain ⟨h1, h2⟩ := hs
  unfold toldW at h2
  repeat' (first | apply And.intro | (intro _; try (exfalso; omega)) | exact rt_eq h2 (by rw [if_pos (by omega)]) rfl | exact rt_eq h2 (by rw [if_neg (by omega), if_neg (by omega), if_neg (by omega)]) rfl | exact rt_eq h2 (by rw [if_neg (by omega), if_neg (by omega), if_pos (by omega), if_pos (by omega)]) rfl | exact rt_eq h2 (by rw [if_neg (by omega), if_neg (by omega), if_pos (by omega), if_neg (by omega)]) rfl | exact rt_eq h2 (by rw [if_neg (by omega), if_pos (by omega), if_pos (by omega)]) rfl | exact rt_eq h2 (by rw [if_neg (by omega), if_pos (by omega), if_neg (by omega)]) rfl | exact h1 | exact h1 (by omega) | exact h2 | exact h2 (by omega) | omega | (simp only [rI_rI, rJ_rJ, hI_rI, hJ_rI, hI_rJ, hJ_rJ, hR_rI, hR_rJ, hN_rI, hN_rJ, reduceIte, Nat.reduceEqDiff, eq_self, up_up, up_self, up_ne, ne_eq, not_false_eq_true, Int.reduceEq, Int.reduceNeg, svH_63, rfH_63]; omega))
theorem m_X10_told : MM 221 s_X10_told := mm_of (own := 9) (by rfl) k_X10_told (cl := [(220, s_X10_parts), (197, s_X10_kind), (196, s_X10_of)]) ⟨m_X10_parts, m_X10_kind, m_X10_of, trivial⟩ o_X10_told
def s_X10_info : CS := (zc 4, ap [(3, 62), (0, 0), (0, 0)] (fun n x h Rt X =>
(0 ≤ hI h 63 0 ∧ hI h 63 0 ≤ 40) ∧ (¬ (0 ≤ n ∧ n < hI h 63 0) → Rt (some (.inl 0)) (rfH h 1)) ∧ (0 ≤ n → n < hI h 63 0 → ¬ (0 ≤ x ∧ x ≤ 8) → Rt (some (.inl 0)) (rfH h 2)) ∧ (0 ≤ n → n < hI h 63 0 → 0 ≤ x → x ≤ 8 → Rt (some (.inl (toldW (hI h 63) n x))) (rfH h 0))))
set_option maxRecDepth 100000 in
set_option maxHeartbeats 4000000 in
theorem o_X10_info : Obl true 1 3 (sp [(199, s_X10_isNode), (192, s_X10_within), (191, s_X10_refused), (221, s_X10_told)]) [] code_X10_info s_X10_info := by
  refine obl0 (by rfl) ?_
  intro n r_n x r_x h Rt X hh hf hs
  obtain ⟨⟨a1, a2⟩, h2, h3, h4⟩ := hs
  repeat' (first | apply And.intro | (intro _; try (exfalso; omega)) | exact h2 (by omega) | exact h3 (by omega) (by omega) (by omega) | exact h4 (by omega) (by omega) (by omega) (by omega) | exact h2 | exact h2 (by omega) | exact h3 | exact h3 (by omega) | exact h4 | exact h4 (by omega) | omega | (simp only [rI_rI, rJ_rJ, hI_rI, hJ_rI, hI_rJ, hJ_rJ, hR_rI, hR_rJ, hN_rI, hN_rJ, reduceIte, Nat.reduceEqDiff, eq_self, up_up, up_self, up_ne, ne_eq, not_false_eq_true, Int.reduceEq, Int.reduceNeg, svH_63, rfH_63]; omega))
theorem m_X10_info : MM 222 s_X10_info := mm_of (own := 9) (by rfl) k_X10_info (cl := [(199, s_X10_isNode), (192, s_X10_within), (191, s_X10_refused), (221, s_X10_told)]) ⟨m_X10_isNode, m_X10_within, m_X10_refused, m_X10_told, trivial⟩ o_X10_info
def s_X10_input : CS := (zc 3, ap [(3, 62), (0, 0), (0, 0)] (fun v x h Rt X =>
(0 ≤ hI h 62 3 ∧ hI h 62 3 ≤ 5 ∧ Vz (hI h 63)) ∧ (¬ (0 ≤ v ∧ v < hI h 63 281) → Rt (some (.inl 0)) (rfH h 1)) ∧ (0 ≤ v → v < hI h 63 281 → ¬ (0 ≤ x ∧ x ≤ p2 (nd (hI h 63) (hI h 63 (282 + v)) 1) - 1) → Rt (some (.inl 0)) (rfH h 2)) ∧ (0 ≤ v → v < hI h 63 281 → 0 ≤ x → x ≤ p2 (nd (hI h 63) (hI h 63 (282 + v)) 1) - 1 → Rt (some (.inl (hI h 63 (286 + v)))) (rI (svH (rfH h 0)) 63 (up (hI h 63) (286 + v) x)))))
set_option maxRecDepth 100000 in
set_option maxHeartbeats 4000000 in
theorem o_X10_input : Obl true 1 5 (sp [(200, s_X10_isVariable), (198, s_X10_width), (201, s_X10_mask), (192, s_X10_within), (191, s_X10_refused), (194, s_X10_saves)]) [] code_X10_input s_X10_input := by
  refine obl0 (by rfl) ?_
  intro v r_v x r_x h Rt X hh hf hs
  obtain ⟨⟨a3, a4, a5⟩, h2, h3, h4⟩ := hs
  have b1 := a5.lo
  have b2 := a5.hi
  have b3 := a5.vs v
  have e6 : hI (svH (rI h 62 (up (hI h 62) 4 0))) 63 281 = hI h 63 281 := rfl
  repeat' (first | apply And.intro | (intro _; try (exfalso; omega)) | exact h2 (by omega) | exact h3 (by omega) (by omega) (by omega) | exact h4 (by omega) (by omega) (by omega) (by omega) | exact h2 | exact h2 (by omega) | exact h3 | exact h3 (by omega) | exact h4 | exact h4 (by omega) | omega | (simp only [rI_rI, rJ_rJ, hI_rI, hJ_rI, hI_rJ, hJ_rJ, hR_rI, hR_rJ, hN_rI, hN_rJ, reduceIte, Nat.reduceEqDiff, eq_self, up_up, up_self, up_ne, ne_eq, not_false_eq_true, Int.reduceEq, Int.reduceNeg, svH_63, rfH_63]; omega))
theorem m_X10_input : MM 223 s_X10_input := mm_of (own := 9) (by rfl) k_X10_input (cl := [(200, s_X10_isVariable), (198, s_X10_width), (201, s_X10_mask), (192, s_X10_within), (191, s_X10_refused), (194, s_X10_saves)]) ⟨m_X10_isVariable, m_X10_width, m_X10_mask, m_X10_within, m_X10_refused, m_X10_saves, trivial⟩ o_X10_input

/-! ===== the reference: the calls that make nodes ===== -/
/-- what a call that makes a node gives: found, no room, new -/
def mkR (h : Hp) (q k wd a b c x y : Int) (Rt : Option AV → Hp → Prop) : Prop :=
  (found (hI h 63) k wd a b c x y ≠ -1 → Rt (some (.inl (found (hI h 63) k wd a b c x y))) (mdF h)) ∧ (found (hI h 63) k wd a b c x y = -1 → hI h 63 0 = 40 → Rt (some (.inl 0)) (rfH h q)) ∧
    (found (hI h 63) k wd a b c x y = -1 → hI h 63 0 < 40 → Rt (some (.inl (hI h 63 0))) (mdN h k wd a b c x y))
theorem rfH_rfH (h : Hp) (x y : Int) : rfH (rfH h x) y = rfH h y := by
  unfold rfH
  simp only [rI_rI, rJ_rJ, hI_rI, hJ_rI, hI_rJ, hJ_rJ, hR_rI, hR_rJ, hN_rI, hN_rJ, reduceIte, Nat.reduceEqDiff, eq_self, up_up, up_self, up_ne, ne_eq, not_false_eq_true, Int.reduceEq, Int.reduceNeg, svH_63, rfH_63]
theorem mdF_rf (h : Hp) (x : Int) : mdF (rfH h x) = mdF h := by
  unfold mdF
  rw [rfH_rfH]
theorem mdN_rf (h : Hp) (u k wd a b c x y : Int) : mdN (rfH h u) k wd a b c x y = mdN h k wd a b c x y := by
  unfold mdN
  rw [rfH_rfH]
  rfl
theorem mkR_rf {h : Hp} {u q k wd a b c x y : Int} {Rt : Option AV → Hp → Prop} (hs : mkR h q k wd a b c x y Rt) : mkR (rfH h u) q k wd a b c x y Rt := by
  obtain ⟨h1, h2, h3⟩ := hs
  refine ⟨fun z => ?_, fun z z2 => ?_, fun z z2 => ?_⟩
  · rw [mdF_rf]; exact h1 z
  · rw [rfH_rfH]; exact h2 z z2
  · rw [mdN_rf]; exact h3 z z2
/-- sizes that hold always -/
def Sz (h : Hp) : Prop := 0 ≤ hI h 63 0 ∧ hI h 63 0 ≤ 40 ∧ 0 ≤ hI h 62 3 ∧ hI h 62 3 ≤ 5 ∧ ∀ n, 0 ≤ n → n < hI h 63 0 → 1 ≤ nd (hI h 63) n 1 ∧ nd (hI h 63) n 1 ≤ 8
theorem Sz.rf {h : Hp} (s : Sz h) (x : Int) : Sz (rfH h x) := s
def s_X10_nodes : CS := (zc 1, ap [(3, 62)] (fun  h Rt X =>
Rt (some (.inl (hI h 63 0))) (rfH h 0)))
set_option maxRecDepth 100000 in
set_option maxHeartbeats 4000000 in
theorem o_X10_nodes : Obl true 1 1 (sp []) [] code_X10_nodes s_X10_nodes := by
  refine obl0 (by rfl) ?_
  intro  h Rt X hh hf hs
  repeat' (first | apply And.intro | (intro _; try (exfalso; omega)) | exact hs | omega | (simp only [rI_rI, rJ_rJ, hI_rI, hJ_rI, hI_rJ, hJ_rJ, hR_rI, hR_rJ, hN_rI, hN_rJ, reduceIte, Nat.reduceEqDiff, eq_self, up_up, up_self, up_ne, ne_eq, not_false_eq_true, Int.reduceEq, Int.reduceNeg, svH_63, rfH_63]; omega))
theorem m_X10_nodes : MM 218 s_X10_nodes := mm_of (own := 9) (by rfl) k_X10_nodes (cl := []) trivial o_X10_nodes
def s_X10_variables : CS := (zc 1, ap [(3, 62)] (fun  h Rt X =>
Rt (some (.inl (hI h 63 281))) (rfH h 0)))
set_option maxRecDepth 100000 in
set_option maxHeartbeats 4000000 in
theorem o_X10_variables : Obl true 1 1 (sp []) [] code_X10_variables s_X10_variables := by
  refine obl0 (by rfl) ?_
  intro  h Rt X hh hf hs
  repeat' (first | apply And.intro | (intro _; try (exfalso; omega)) | exact hs | omega | (simp only [rI_rI, rJ_rJ, hI_rI, hJ_rI, hI_rJ, hJ_rJ, hR_rI, hR_rJ, hN_rI, hN_rJ, reduceIte, Nat.reduceEqDiff, eq_self, up_up, up_self, up_ne, ne_eq, not_false_eq_true, Int.reduceEq, Int.reduceNeg, svH_63, rfH_63]; omega))
theorem m_X10_variables : MM 219 s_X10_variables := mm_of (own := 9) (by rfl) k_X10_variables (cl := []) trivial o_X10_variables
def s_X10_constraints : CS := (zc 1, ap [(3, 62)] (fun  h Rt X =>
Rt (some (.inl (hI h 63 290))) (rfH h 0)))
set_option maxRecDepth 100000 in
set_option maxHeartbeats 4000000 in
theorem o_X10_constraints : Obl true 1 1 (sp []) [] code_X10_constraints s_X10_constraints := by
  refine obl0 (by rfl) ?_
  intro  h Rt X hh hf hs
  repeat' (first | apply And.intro | (intro _; try (exfalso; omega)) | exact hs | omega | (simp only [rI_rI, rJ_rJ, hI_rI, hJ_rI, hI_rJ, hJ_rJ, hR_rI, hR_rJ, hN_rI, hN_rJ, reduceIte, Nat.reduceEqDiff, eq_self, up_up, up_self, up_ne, ne_eq, not_false_eq_true, Int.reduceEq, Int.reduceNeg, svH_63, rfH_63]; omega))
theorem m_X10_constraints : MM 235 s_X10_constraints := mm_of (own := 9) (by rfl) k_X10_constraints (cl := []) trivial o_X10_constraints
def s_X10_constant : CS := (zc 5, ap [(3, 62), (0, 0), (0, 0)] (fun wd v h Rt X =>
Sz h ∧ (¬ (1 ≤ wd ∧ wd ≤ 8 ∧ 0 ≤ v ∧ v ≤ p2 wd - 1) → Rt (some (.inl 0)) (rfH h 1)) ∧ (1 ≤ wd ∧ wd ≤ 8 ∧ 0 ≤ v ∧ v ≤ p2 wd - 1 → mkR h 2 0 wd (-1) (-1) (-1) v (-1) Rt)))
set_option maxRecDepth 100000 in
set_option maxHeartbeats 4000000 in
theorem o_X10_constant : Obl true 1 3 (sp [(206, s_X10_isWord), (191, s_X10_refused), (203, s_X10_madeBy)]) [] code_X10_constant s_X10_constant := by
  refine obl0 (by rfl) ?_
  intro wd r_wd v r_v h Rt X hh hf hs
  obtain ⟨⟨a1, a2, a3, a4, a5⟩, h2, h3⟩ := hs
  have h4 := fun z => mkR_rf (u := 0) (h3 z)
  repeat' (first | apply And.intro | (intro _; try (exfalso; omega)) | exact h2 (by omega) | exact (h4 (by omega)).1 (by assumption) | exact (h4 (by omega)).2.1 (by assumption) (by assumption) | exact (h4 (by omega)).2.2 (by assumption) (by assumption) | exact h2 | exact h2 (by omega) | exact h3 | exact h3 (by omega) | omega | (simp only [rI_rI, rJ_rJ, hI_rI, hJ_rI, hI_rJ, hJ_rJ, hR_rI, hR_rJ, hN_rI, hN_rJ, reduceIte, Nat.reduceEqDiff, eq_self, up_up, up_self, up_ne, ne_eq, not_false_eq_true, Int.reduceEq, Int.reduceNeg, svH_63, rfH_63]; omega))
theorem m_X10_constant : MM 207 s_X10_constant := mm_of (own := 9) (by rfl) k_X10_constant (cl := [(206, s_X10_isWord), (191, s_X10_refused), (203, s_X10_madeBy)]) ⟨m_X10_isWord, m_X10_refused, m_X10_madeBy, trivial⟩ o_X10_constant
def s_X10_widthBy : CS := (zc 3, ap [(3, 62), (0, 0), (0, 0), (0, 0)] (fun k a b h Rt X =>
(0 ≤ a ∧ a < 40 ∧ 0 ≤ b ∧ b < 40 ∧ 0 ≤ nd (hI h 63) a 1 ∧ nd (hI h 63) a 1 ≤ 8 ∧ 0 ≤ nd (hI h 63) b 1 ∧ nd (hI h 63) b 1 ≤ 8) ∧ (k = 18 → Rt (some (.inl (nd (hI h 63) a 1 + nd (hI h 63) b 1))) h) ∧ (k ≠ 18 → 13 ≤ k → Rt (some (.inl 1)) h) ∧ (k < 13 → Rt (some (.inl (nd (hI h 63) a 1))) h)))
set_option maxRecDepth 100000 in
set_option maxHeartbeats 4000000 in
theorem o_X10_widthBy : Obl true 1 4 (sp [(198, s_X10_width)]) [] code_X10_widthBy s_X10_widthBy := by
  refine obl0 (by rfl) ?_
  intro k r_k a r_a b r_b h Rt X hh hf hs
  obtain ⟨⟨a1, a2, a3, a4⟩, h2, h3, h4⟩ := hs
  repeat' (first | apply And.intro | (intro _; try (exfalso; omega)) | exact h3 (by omega) (by omega) | exact h2 | exact h2 (by omega) | exact h3 | exact h3 (by omega) | exact h4 | exact h4 (by omega) | omega | (simp only [rI_rI, rJ_rJ, hI_rI, hJ_rI, hI_rJ, hJ_rJ, hR_rI, hR_rJ, hN_rI, hN_rJ, reduceIte, Nat.reduceEqDiff, eq_self, up_up, up_self, up_ne, ne_eq, not_false_eq_true, Int.reduceEq, Int.reduceNeg, svH_63, rfH_63]; omega))
theorem m_X10_widthBy : MM 209 s_X10_widthBy := mm_of (own := 9) (by rfl) k_X10_widthBy (cl := [(198, s_X10_width)]) ⟨m_X10_width, trivial⟩ o_X10_widthBy
def s_X10_isSlice : CS := (zc 3, ap [(3, 62), (0, 0), (0, 0), (0, 0)] (fun a hi lo h Rt X =>
(0 ≤ a ∧ a < 40) ∧ (0 ≤ lo ∧ lo ≤ hi ∧ hi < nd (hI h 63) a 1 → Rt (some (.inl 1)) h) ∧ (¬ (0 ≤ lo ∧ lo ≤ hi ∧ hi < nd (hI h 63) a 1) → Rt (some (.inl 0)) h)))
set_option maxRecDepth 100000 in
set_option maxHeartbeats 4000000 in
theorem o_X10_isSlice : Obl true 2 4 (sp [(198, s_X10_width)]) [] code_X10_isSlice s_X10_isSlice := by
  refine obl0 (by rfl) ?_
  intro a r_a hi r_hi lo r_lo h Rt X hh hf hs
  obtain ⟨⟨a1, a2⟩, h2, h3⟩ := hs
  repeat' (first | apply And.intro | (intro _; try (exfalso; omega)) | exact h2 | exact h2 (by omega) | exact h3 | exact h3 (by omega) | omega | (simp only [rI_rI, rJ_rJ, hI_rI, hJ_rI, hI_rJ, hJ_rJ, hR_rI, hR_rJ, hN_rI, hN_rJ, reduceIte, Nat.reduceEqDiff, eq_self, up_up, up_self, up_ne, ne_eq, not_false_eq_true, Int.reduceEq, Int.reduceNeg, svH_63, rfH_63]; omega))
theorem m_X10_isSlice : MM 212 s_X10_isSlice := mm_of (own := 9) (by rfl) k_X10_isSlice (cl := [(198, s_X10_width)]) ⟨m_X10_width, trivial⟩ o_X10_isSlice
def s_X10_isExtended : CS := (zc 3, ap [(3, 62), (0, 0), (0, 0)] (fun a w h Rt X =>
(0 ≤ a ∧ a < 40) ∧ (nd (hI h 63) a 1 < w ∧ w ≤ 8 → Rt (some (.inl 1)) h) ∧ (¬ (nd (hI h 63) a 1 < w ∧ w ≤ 8) → Rt (some (.inl 0)) h)))
set_option maxRecDepth 100000 in
set_option maxHeartbeats 4000000 in
theorem o_X10_isExtended : Obl true 2 3 (sp [(198, s_X10_width)]) [] code_X10_isExtended s_X10_isExtended := by
  refine obl0 (by rfl) ?_
  intro a r_a w r_w h Rt X hh hf hs
  obtain ⟨⟨a1, a2⟩, h2, h3⟩ := hs
  repeat' (first | apply And.intro | (intro _; try (exfalso; omega)) | exact h2 | exact h2 (by omega) | exact h3 | exact h3 (by omega) | omega | (simp only [rI_rI, rJ_rJ, hI_rI, hJ_rI, hI_rJ, hJ_rJ, hR_rI, hR_rJ, hN_rI, hN_rJ, reduceIte, Nat.reduceEqDiff, eq_self, up_up, up_self, up_ne, ne_eq, not_false_eq_true, Int.reduceEq, Int.reduceNeg, svH_63, rfH_63]; omega))
theorem m_X10_isExtended : MM 214 s_X10_isExtended := mm_of (own := 9) (by rfl) k_X10_isExtended (cl := [(198, s_X10_width)]) ⟨m_X10_width, trivial⟩ o_X10_isExtended
def s_X10_isChoice : CS := (zc 3, ap [(3, 62), (0, 0), (0, 0), (0, 0)] (fun a b c h Rt X =>
(0 ≤ a ∧ a < 40 ∧ 0 ≤ b ∧ b < 40 ∧ 0 ≤ c ∧ c < 40) ∧ (nd (hI h 63) a 1 = 1 ∧ nd (hI h 63) b 1 = nd (hI h 63) c 1 → Rt (some (.inl 1)) h) ∧ (¬ (nd (hI h 63) a 1 = 1 ∧ nd (hI h 63) b 1 = nd (hI h 63) c 1) → Rt (some (.inl 0)) h)))
set_option maxRecDepth 100000 in
set_option maxHeartbeats 4000000 in
theorem o_X10_isChoice : Obl true 2 4 (sp [(198, s_X10_width)]) [] code_X10_isChoice s_X10_isChoice := by
  refine obl0 (by rfl) ?_
  intro a r_a b r_b c r_c h Rt X hh hf hs
  obtain ⟨⟨a1, a2, a3, a4, a5, a6⟩, h2, h3⟩ := hs
  repeat' (first | apply And.intro | (intro _; try (exfalso; omega)) | exact h2 | exact h2 (by omega) | exact h3 | exact h3 (by omega) | omega | (simp only [rI_rI, rJ_rJ, hI_rI, hJ_rI, hI_rJ, hJ_rJ, hR_rI, hR_rJ, hN_rI, hN_rJ, reduceIte, Nat.reduceEqDiff, eq_self, up_up, up_self, up_ne, ne_eq, not_false_eq_true, Int.reduceEq, Int.reduceNeg, svH_63, rfH_63]; omega))
theorem m_X10_isChoice : MM 216 s_X10_isChoice := mm_of (own := 9) (by rfl) k_X10_isChoice (cl := [(198, s_X10_width)]) ⟨m_X10_width, trivial⟩ o_X10_isChoice
def s_X10_unary : CS := (zc 5, ap [(3, 62), (0, 0), (0, 0)] (fun k a h Rt X =>
Sz h ∧ (¬ (19 ≤ k ∧ k ≤ 20) → Rt (some (.inl 0)) (rfH h 1)) ∧ (19 ≤ k → k ≤ 20 → ¬ (0 ≤ a ∧ a < hI h 63 0) → Rt (some (.inl 0)) (rfH h 2)) ∧ (19 ≤ k → k ≤ 20 → 0 ≤ a → a < hI h 63 0 → mkR h 3 k (nd (hI h 63) a 1) a (-1) (-1) (-1) (-1) Rt)))
set_option maxRecDepth 100000 in
set_option maxHeartbeats 4000000 in
theorem o_X10_unary : Obl true 1 3 (sp [(192, s_X10_within), (199, s_X10_isNode), (191, s_X10_refused), (198, s_X10_width), (203, s_X10_madeBy)]) [] code_X10_unary s_X10_unary := by
  refine obl0 (by rfl) ?_
  intro k r_k a r_a h Rt X hh hf hs
  obtain ⟨⟨a1, a2, a3, a4, a5⟩, h2, h3, h4⟩ := hs
  have h5 := fun z1 z2 z3 z4 => mkR_rf (u := 0) (h4 z1 z2 z3 z4)
  have b1 := a5 a
  repeat' (first | apply And.intro | (intro _; try (exfalso; omega)) | exact h2 (by omega) | exact h3 (by omega) (by omega) (by omega) | exact (h5 (by omega) (by omega) (by omega) (by omega)).1 (by assumption) | exact (h5 (by omega) (by omega) (by omega) (by omega)).2.1 (by assumption) (by assumption) | exact (h5 (by omega) (by omega) (by omega) (by omega)).2.2 (by assumption) (by assumption) | exact h2 | exact h2 (by omega) | exact h3 | exact h3 (by omega) | exact h4 | exact h4 (by omega) | omega | (simp only [rI_rI, rJ_rJ, hI_rI, hJ_rI, hI_rJ, hJ_rJ, hR_rI, hR_rJ, hN_rI, hN_rJ, reduceIte, Nat.reduceEqDiff, eq_self, up_up, up_self, up_ne, ne_eq, not_false_eq_true, Int.reduceEq, Int.reduceNeg, svH_63, rfH_63]; omega))
theorem m_X10_unary : MM 211 s_X10_unary := mm_of (own := 9) (by rfl) k_X10_unary (cl := [(192, s_X10_within), (199, s_X10_isNode), (191, s_X10_refused), (198, s_X10_width), (203, s_X10_madeBy)]) ⟨m_X10_within, m_X10_isNode, m_X10_refused, m_X10_width, m_X10_madeBy, trivial⟩ o_X10_unary
def s_X10_slice : CS := (zc 5, ap [(3, 62), (0, 0), (0, 0), (0, 0)] (fun a hi lo h Rt X =>
Sz h ∧ (¬ (0 ≤ a ∧ a < hI h 63 0) → Rt (some (.inl 0)) (rfH h 1)) ∧ (0 ≤ a → a < hI h 63 0 → ¬ (0 ≤ lo ∧ lo ≤ hi ∧ hi < nd (hI h 63) a 1) → Rt (some (.inl 0)) (rfH h 2)) ∧ (0 ≤ a → a < hI h 63 0 → 0 ≤ lo → lo ≤ hi → hi < nd (hI h 63) a 1 → mkR h 3 21 (hi - lo + 1) a (-1) (-1) hi lo Rt)))
set_option maxRecDepth 100000 in
set_option maxHeartbeats 4000000 in
theorem o_X10_slice : Obl true 1 4 (sp [(199, s_X10_isNode), (212, s_X10_isSlice), (191, s_X10_refused), (203, s_X10_madeBy)]) [] code_X10_slice s_X10_slice := by
  refine obl0 (by rfl) ?_
  intro a r_a hi r_hi lo r_lo h Rt X hh hf hs
  obtain ⟨⟨a1, a2, a3, a4, a5⟩, h2, h3, h4⟩ := hs
  have h5 := fun z1 z2 z3 z4 z5 => mkR_rf (u := 0) (h4 z1 z2 z3 z4 z5)
  have b1 := a5 a
  repeat' (first | apply And.intro | (intro _; try (exfalso; omega)) | exact h2 (by omega) | exact h3 (by omega) (by omega) (by omega) | exact (h5 (by omega) (by omega) (by omega) (by omega) (by omega)).1 (by assumption) | exact (h5 (by omega) (by omega) (by omega) (by omega) (by omega)).2.1 (by assumption) (by assumption) | exact (h5 (by omega) (by omega) (by omega) (by omega) (by omega)).2.2 (by assumption) (by assumption) | exact h2 | exact h2 (by omega) | exact h3 | exact h3 (by omega) | exact h4 | exact h4 (by omega) | omega | (simp only [rI_rI, rJ_rJ, hI_rI, hJ_rI, hI_rJ, hJ_rJ, hR_rI, hR_rJ, hN_rI, hN_rJ, reduceIte, Nat.reduceEqDiff, eq_self, up_up, up_self, up_ne, ne_eq, not_false_eq_true, Int.reduceEq, Int.reduceNeg, svH_63, rfH_63]; omega))
theorem m_X10_slice : MM 213 s_X10_slice := mm_of (own := 9) (by rfl) k_X10_slice (cl := [(199, s_X10_isNode), (212, s_X10_isSlice), (191, s_X10_refused), (203, s_X10_madeBy)]) ⟨m_X10_isNode, m_X10_isSlice, m_X10_refused, m_X10_madeBy, trivial⟩ o_X10_slice
def s_X10_extend : CS := (zc 5, ap [(3, 62), (0, 0), (0, 0), (0, 0)] (fun a w g h Rt X =>
Sz h ∧ (¬ (0 ≤ a ∧ a < hI h 63 0) → Rt (some (.inl 0)) (rfH h 1)) ∧ (0 ≤ a → a < hI h 63 0 → ¬ (nd (hI h 63) a 1 < w ∧ w ≤ 8) → Rt (some (.inl 0)) (rfH h 2)) ∧ (0 ≤ a → a < hI h 63 0 → nd (hI h 63) a 1 < w → w ≤ 8 → (g ≠ 0 → mkR h 3 23 w a (-1) (-1) (-1) (-1) Rt) ∧ (g = 0 → mkR h 3 22 w a (-1) (-1) (-1) (-1) Rt))))
set_option maxRecDepth 100000 in
set_option maxHeartbeats 4000000 in
theorem o_X10_extend : Obl true 1 4 (sp [(199, s_X10_isNode), (214, s_X10_isExtended), (191, s_X10_refused), (203, s_X10_madeBy)]) [] code_X10_extend s_X10_extend := by
  refine obl0 (by rfl) ?_
  intro a r_a w r_w g r_g h Rt X hh hf hs
  obtain ⟨⟨a1, a2, a3, a4, a5⟩, h2, h3, h4⟩ := hs
  have h5 := fun z1 z2 z3 z4 z5 => mkR_rf (u := 0) ((h4 z1 z2 z3 z4).1 z5)
  have h6 := fun z1 z2 z3 z4 z5 => mkR_rf (u := 0) ((h4 z1 z2 z3 z4).2 z5)
  have b1 := a5 a
  repeat' (first | apply And.intro | (intro _; try (exfalso; omega)) | exact h2 (by omega) | exact h3 (by omega) (by omega) (by omega) | exact (h5 (by omega) (by omega) (by omega) (by omega) (by omega)).1 (by assumption) | exact (h5 (by omega) (by omega) (by omega) (by omega) (by omega)).2.1 (by assumption) (by assumption) | exact (h5 (by omega) (by omega) (by omega) (by omega) (by omega)).2.2 (by assumption) (by assumption) | exact (h6 (by omega) (by omega) (by omega) (by omega) (by omega)).1 (by assumption) | exact (h6 (by omega) (by omega) (by omega) (by omega) (by omega)).2.1 (by assumption) (by assumption) | exact (h6 (by omega) (by omega) (by omega) (by omega) (by omega)).2.2 (by assumption) (by assumption) | exact h2 | exact h2 (by omega) | exact h3 | exact h3 (by omega) | exact h4 | exact h4 (by omega) | omega | (simp only [rI_rI, rJ_rJ, hI_rI, hJ_rI, hI_rJ, hJ_rJ, hR_rI, hR_rJ, hN_rI, hN_rJ, reduceIte, Nat.reduceEqDiff, eq_self, up_up, up_self, up_ne, ne_eq, not_false_eq_true, Int.reduceEq, Int.reduceNeg, svH_63, rfH_63]; omega))
theorem m_X10_extend : MM 215 s_X10_extend := mm_of (own := 9) (by rfl) k_X10_extend (cl := [(199, s_X10_isNode), (214, s_X10_isExtended), (191, s_X10_refused), (203, s_X10_madeBy)]) ⟨m_X10_isNode, m_X10_isExtended, m_X10_refused, m_X10_madeBy, trivial⟩ o_X10_extend
def s_X10_choice : CS := (zc 5, ap [(3, 62), (0, 0), (0, 0), (0, 0)] (fun a b c h Rt X =>
Sz h ∧ (¬ (0 ≤ a ∧ a < hI h 63 0 ∧ 0 ≤ b ∧ b < hI h 63 0 ∧ 0 ≤ c ∧ c < hI h 63 0) → Rt (some (.inl 0)) (rfH h 1)) ∧ (0 ≤ a ∧ a < hI h 63 0 ∧ 0 ≤ b ∧ b < hI h 63 0 ∧ 0 ≤ c ∧ c < hI h 63 0 → ¬ (nd (hI h 63) a 1 = 1 ∧ nd (hI h 63) b 1 = nd (hI h 63) c 1) → Rt (some (.inl 0)) (rfH h 2)) ∧ (0 ≤ a ∧ a < hI h 63 0 ∧ 0 ≤ b ∧ b < hI h 63 0 ∧ 0 ≤ c ∧ c < hI h 63 0 → nd (hI h 63) a 1 = 1 ∧ nd (hI h 63) b 1 = nd (hI h 63) c 1 → mkR h 2 24 (nd (hI h 63) b 1) a b c (-1) (-1) Rt)))
set_option maxRecDepth 100000 in
set_option maxHeartbeats 4000000 in
theorem o_X10_choice : Obl true 1 5 (sp [(199, s_X10_isNode), (216, s_X10_isChoice), (191, s_X10_refused), (198, s_X10_width), (203, s_X10_madeBy)]) [] code_X10_choice s_X10_choice := by
  refine obl0 (by rfl) ?_
  intro a r_a b r_b c r_c h Rt X hh hf hs
  obtain ⟨⟨a1, a2, a3, a4, a5⟩, h2, h3, h4⟩ := hs
  have h5 := fun z1 z2 => mkR_rf (u := 0) (h4 z1 z2)
  have b1 := a5 a
  repeat' (first | apply And.intro | (intro _; try (exfalso; omega)) | exact h2 (by omega) | exact h3 (by omega) (by omega) | exact (h5 (by omega) (by omega)).1 (by assumption) | exact (h5 (by omega) (by omega)).2.1 (by assumption) (by assumption) | exact (h5 (by omega) (by omega)).2.2 (by assumption) (by assumption) | exact h2 | exact h2 (by omega) | exact h3 | exact h3 (by omega) | exact h4 | exact h4 (by omega) | omega | (simp only [rI_rI, rJ_rJ, hI_rI, hJ_rI, hI_rJ, hJ_rJ, hR_rI, hR_rJ, hN_rI, hN_rJ, reduceIte, Nat.reduceEqDiff, eq_self, up_up, up_self, up_ne, ne_eq, not_false_eq_true, Int.reduceEq, Int.reduceNeg, svH_63, rfH_63]; omega))
theorem m_X10_choice : MM 217 s_X10_choice := mm_of (own := 9) (by rfl) k_X10_choice (cl := [(199, s_X10_isNode), (216, s_X10_isChoice), (191, s_X10_refused), (198, s_X10_width), (203, s_X10_madeBy)]) ⟨m_X10_isNode, m_X10_isChoice, m_X10_refused, m_X10_width, m_X10_madeBy, trivial⟩ o_X10_choice
def s_X10_binary : CS := (zc 5, ap [(3, 62), (0, 0), (0, 0), (0, 0)] (fun k a b h Rt X =>
Sz h ∧ (¬ (2 ≤ k ∧ k ≤ 18) → Rt (some (.inl 0)) (rfH h 1)) ∧ (2 ≤ k ∧ k ≤ 18 → ¬ (0 ≤ a ∧ a < hI h 63 0 ∧ 0 ≤ b ∧ b < hI h 63 0) → Rt (some (.inl 0)) (rfH h 2)) ∧
(2 ≤ k ∧ k ≤ 18 ∧ 0 ≤ a ∧ a < hI h 63 0 ∧ 0 ≤ b ∧ b < hI h 63 0 → ¬ ((k = 18 ∧ nd (hI h 63) a 1 + nd (hI h 63) b 1 ≤ 8) ∨ (k ≠ 18 ∧ nd (hI h 63) a 1 = nd (hI h 63) b 1)) → Rt (some (.inl 0)) (rfH h 3)) ∧
(k = 18 ∧ 0 ≤ a ∧ a < hI h 63 0 ∧ 0 ≤ b ∧ b < hI h 63 0 ∧ nd (hI h 63) a 1 + nd (hI h 63) b 1 ≤ 8 → mkR h 3 k (nd (hI h 63) a 1 + nd (hI h 63) b 1) a b (-1) (-1) (-1) Rt) ∧
(13 ≤ k ∧ k < 18 ∧ 0 ≤ a ∧ a < hI h 63 0 ∧ 0 ≤ b ∧ b < hI h 63 0 ∧ nd (hI h 63) a 1 = nd (hI h 63) b 1 → mkR h 3 k 1 a b (-1) (-1) (-1) Rt) ∧
(2 ≤ k ∧ k < 13 ∧ 0 ≤ a ∧ a < hI h 63 0 ∧ 0 ≤ b ∧ b < hI h 63 0 ∧ nd (hI h 63) a 1 = nd (hI h 63) b 1 → mkR h 3 k (nd (hI h 63) a 1) a b (-1) (-1) (-1) Rt)))
set_option maxRecDepth 100000 in
set_option maxHeartbeats 4000000 in
theorem o_X10_binary : Obl true 1 6 (sp [(192, s_X10_within), (199, s_X10_isNode), (208, s_X10_fits), (191, s_X10_refused), (209, s_X10_widthBy), (203, s_X10_madeBy)]) [] code_X10_binary s_X10_binary := by
  refine obl0 (by rfl) ?_
  intro k r_k a r_a b r_b h Rt X hh hf hs
  obtain ⟨⟨a1, a2, a3, a4, a5⟩, h2, h3, h4, h5, h6, h7⟩ := hs
  have g5 := fun z => mkR_rf (u := 0) (h5 z)
  have g6 := fun z => mkR_rf (u := 0) (h6 z)
  have g7 := fun z => mkR_rf (u := 0) (h7 z)
  have b1 := a5 a
  have b2 := a5 b
  repeat' (first | apply And.intro | (intro _; try (exfalso; omega)) | exact h2 (by omega) | exact h3 (by omega) (by omega) | exact h4 (by omega) (by omega) | exact (g5 (by omega)).1 (by assumption) | exact (g5 (by omega)).2.1 (by assumption) (by assumption) | exact (g5 (by omega)).2.2 (by assumption) (by assumption) | exact (g6 (by omega)).1 (by assumption) | exact (g6 (by omega)).2.1 (by assumption) (by assumption) | exact (g6 (by omega)).2.2 (by assumption) (by assumption) | exact (g7 (by omega)).1 (by assumption) | exact (g7 (by omega)).2.1 (by assumption) (by assumption) | exact (g7 (by omega)).2.2 (by assumption) (by assumption) | exact h2 | exact h2 (by omega) | exact h3 | exact h3 (by omega) | exact h4 | exact h4 (by omega) | exact h5 | exact h5 (by omega) | exact h6 | exact h6 (by omega) | exact h7 | exact h7 (by omega) | omega | (simp only [rI_rI, rJ_rJ, hI_rI, hJ_rI, hI_rJ, hJ_rJ, hR_rI, hR_rJ, hN_rI, hN_rJ, reduceIte, Nat.reduceEqDiff, eq_self, up_up, up_self, up_ne, ne_eq, not_false_eq_true, Int.reduceEq, Int.reduceNeg, svH_63, rfH_63]; omega))
theorem m_X10_binary : MM 210 s_X10_binary := mm_of (own := 9) (by rfl) k_X10_binary (cl := [(192, s_X10_within), (199, s_X10_isNode), (208, s_X10_fits), (191, s_X10_refused), (209, s_X10_widthBy), (203, s_X10_madeBy)]) ⟨m_X10_within, m_X10_isNode, m_X10_fits, m_X10_refused, m_X10_widthBy, m_X10_madeBy, trivial⟩ o_X10_binary

/-! ===== the reference: small methods ===== -/
/-- a field of a node in the reference's row -/
def nd (w : Int → Int) (n j : Int) : Int := w (1 + 7 * n + j)
def s_X10_thrown : CS := (zc 1, ap [65] (fun  h Rt X =>
Rt (some (.inl (hI h 62 4))) h))
set_option maxRecDepth 100000 in
set_option maxHeartbeats 4000000 in
theorem o_X10_thrown : Obl true 1 1 (sp []) [] code_X10_thrown s_X10_thrown := by
  refine obl0 (by rfl) ?_
  intro  h Rt X hh hf hs
  repeat' (first | apply And.intro | (intro _; try (exfalso; omega)) | exact hs | omega)
theorem m_X10_thrown : MM 190 s_X10_thrown := mm_of (own := 9) (by rfl) k_X10_thrown (cl := []) trivial o_X10_thrown
def s_X10_refused : CS := (zc 1, ap [65, 0] (fun w h Rt X =>
(0 < w → Rt (some (.inl 1)) (rI h 62 (up (hI h 62) 4 w))) ∧ (w ≤ 0 → Rt (some (.inl 0)) (rI h 62 (up (hI h 62) 4 w)))))
set_option maxRecDepth 100000 in
set_option maxHeartbeats 4000000 in
theorem o_X10_refused : Obl true 2 2 (sp []) [] code_X10_refused s_X10_refused := by
  refine obl0 (by rfl) ?_
  intro w r_w h Rt X hh hf hs
  obtain ⟨h1, h2⟩ := hs
  repeat' (first | apply And.intro | (intro _; try (exfalso; omega)) | exact h1 | exact h1 (by omega) | exact h2 | exact h2 (by omega) | omega)
theorem m_X10_refused : MM 191 s_X10_refused := mm_of (own := 9) (by rfl) k_X10_refused (cl := []) trivial o_X10_refused
def s_X10_within : CS := (zc 1, ap [0, 0, 0] (fun v a b h Rt X =>
(a ≤ v ∧ v ≤ b → Rt (some (.inl 1)) h) ∧ (¬ (a ≤ v ∧ v ≤ b) → Rt (some (.inl 0)) h)))
set_option maxRecDepth 100000 in
set_option maxHeartbeats 4000000 in
theorem o_X10_within : Obl true 2 3 (sp []) [] code_X10_within s_X10_within := by
  refine obl0 (by rfl) ?_
  intro v r_v a r_a b r_b h Rt X hh hf hs
  obtain ⟨h1, h2⟩ := hs
  repeat' (first | apply And.intro | (intro _; try (exfalso; omega)) | exact h1 | exact h1 (by omega) | exact h2 | exact h2 (by omega) | omega)
theorem m_X10_within : MM 192 s_X10_within := mm_of (own := 9) (by rfl) k_X10_within (cl := []) trivial o_X10_within
def s_X10_need : CS := (zc 1, ap [65, 0] (fun b h Rt X =>
(b ≠ 0 → Rt (some (.inl 0)) h) ∧ (b = 0 → Rt (some (.inl 1)) h)))
set_option maxRecDepth 100000 in
set_option maxHeartbeats 4000000 in
theorem o_X10_need : Obl true 1 2 (sp []) [] code_X10_need s_X10_need := by
  refine obl0 (by rfl) ?_
  intro b r_b h Rt X hh hf hs
  obtain ⟨h1, h2⟩ := hs
  repeat' (first | apply And.intro | (intro _; try (exfalso; omega)) | exact h1 | exact h1 (by omega) | exact h2 | exact h2 (by omega) | omega)
theorem m_X10_need : MM 193 s_X10_need := mm_of (own := 9) (by rfl) k_X10_need (cl := []) trivial o_X10_need
def s_X10_of : CS := (zc 1, ap [65, 0, 0] (fun n j h Rt X =>
(0 ≤ n ∧ n < 40 ∧ 0 ≤ j ∧ j < 7) ∧ Rt (some (.inl (nd (hI h 63) n j))) h))
set_option maxRecDepth 100000 in
set_option maxHeartbeats 4000000 in
theorem o_X10_of : Obl true 1 3 (sp []) [] code_X10_of s_X10_of := by
  refine obl0 (by rfl) ?_
  intro n r_n j r_j h Rt X hh hf hs
  obtain ⟨h1, h2⟩ := hs
  repeat' (first | apply And.intro | (intro _; try (exfalso; omega)) | exact h1 | exact h1 (by omega) | exact h2 | exact h2 (by omega) | omega)
theorem m_X10_of : MM 196 s_X10_of := mm_of (own := 9) (by rfl) k_X10_of (cl := []) trivial o_X10_of
def s_X10_kind : CS := (zc 2, ap [65, 0] (fun n h Rt X =>
(0 ≤ n ∧ n < 40) ∧ Rt (some (.inl (nd (hI h 63) n 0))) h))
set_option maxRecDepth 100000 in
set_option maxHeartbeats 4000000 in
theorem o_X10_kind : Obl true 1 2 (sp [(196, s_X10_of)]) [] code_X10_kind s_X10_kind := by
  refine obl0 (by rfl) ?_
  intro n r_n h Rt X hh hf hs
  obtain ⟨h1, h2⟩ := hs
  repeat' (first | apply And.intro | (intro _; try (exfalso; omega)) | exact h1 | exact h1 (by omega) | exact h2 | exact h2 (by omega) | omega)
theorem m_X10_kind : MM 197 s_X10_kind := mm_of (own := 9) (by rfl) k_X10_kind (cl := [(196, s_X10_of)]) ⟨m_X10_of, trivial⟩ o_X10_kind
def s_X10_width : CS := (zc 2, ap [65, 0] (fun n h Rt X =>
(0 ≤ n ∧ n < 40) ∧ Rt (some (.inl (nd (hI h 63) n 1))) h))
set_option maxRecDepth 100000 in
set_option maxHeartbeats 4000000 in
theorem o_X10_width : Obl true 1 2 (sp [(196, s_X10_of)]) [] code_X10_width s_X10_width := by
  refine obl0 (by rfl) ?_
  intro n r_n h Rt X hh hf hs
  obtain ⟨h1, h2⟩ := hs
  repeat' (first | apply And.intro | (intro _; try (exfalso; omega)) | exact h1 | exact h1 (by omega) | exact h2 | exact h2 (by omega) | omega)
theorem m_X10_width : MM 198 s_X10_width := mm_of (own := 9) (by rfl) k_X10_width (cl := [(196, s_X10_of)]) ⟨m_X10_of, trivial⟩ o_X10_width
def s_X10_isNode : CS := (zc 2, ap [65, 0] (fun n h Rt X =>
hI h 63 0 ≤ 40 ∧ (0 ≤ n ∧ n < hI h 63 0 → Rt (some (.inl 1)) h) ∧ (¬ (0 ≤ n ∧ n < hI h 63 0) → Rt (some (.inl 0)) h)))
set_option maxRecDepth 100000 in
set_option maxHeartbeats 4000000 in
theorem o_X10_isNode : Obl true 2 2 (sp [(192, s_X10_within)]) [] code_X10_isNode s_X10_isNode := by
  refine obl0 (by rfl) ?_
  intro n r_n h Rt X hh hf hs
  obtain ⟨h1, h2, h3⟩ := hs
  repeat' (first | apply And.intro | (intro _; try (exfalso; omega)) | exact h1 | exact h1 (by omega) | exact h2 | exact h2 (by omega) | exact h3 | exact h3 (by omega) | omega)
theorem m_X10_isNode : MM 199 s_X10_isNode := mm_of (own := 9) (by rfl) k_X10_isNode (cl := [(192, s_X10_within)]) ⟨m_X10_within, trivial⟩ o_X10_isNode
def s_X10_isVariable : CS := (zc 2, ap [65, 0] (fun n h Rt X =>
hI h 63 281 ≤ 4 ∧ (0 ≤ n ∧ n < hI h 63 281 → Rt (some (.inl 1)) h) ∧ (¬ (0 ≤ n ∧ n < hI h 63 281) → Rt (some (.inl 0)) h)))
set_option maxRecDepth 100000 in
set_option maxHeartbeats 4000000 in
theorem o_X10_isVariable : Obl true 2 2 (sp [(192, s_X10_within)]) [] code_X10_isVariable s_X10_isVariable := by
  refine obl0 (by rfl) ?_
  intro n r_n h Rt X hh hf hs
  obtain ⟨h1, h2, h3⟩ := hs
  repeat' (first | apply And.intro | (intro _; try (exfalso; omega)) | exact h1 | exact h1 (by omega) | exact h2 | exact h2 (by omega) | exact h3 | exact h3 (by omega) | omega)
theorem m_X10_isVariable : MM 200 s_X10_isVariable := mm_of (own := 9) (by rfl) k_X10_isVariable (cl := [(192, s_X10_within)]) ⟨m_X10_within, trivial⟩ o_X10_isVariable

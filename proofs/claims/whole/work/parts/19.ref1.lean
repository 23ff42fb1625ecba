/-! ===== the reference: small methods ===== -/
theorem look1 {a : Nat} {l : List Nat} {pc : Nat} {x : List Nat} (h : look [(a, l)] pc = some x) : pc = a ∧ x = l := by
  have := look_mem h
  simp only [List.mem_singleton, Prod.mk.injEq] at this
  exact this
theorem look2 {a b : Nat} {l k : List Nat} {pc : Nat} {x : List Nat} (h : look [(a, l), (b, k)] pc = some x) : (pc = a ∧ x = l) ∨ (pc = b ∧ x = k) := by
  have := look_mem h
  simp only [List.mem_cons, List.not_mem_nil, or_false, Prod.mk.injEq] at this
  exact this
theorem look3 {a b c : Nat} {l k m : List Nat} {pc : Nat} {x : List Nat} (h : look [(a, l), (b, k), (c, m)] pc = some x) : (pc = a ∧ x = l) ∨ (pc = b ∧ x = k) ∨ (pc = c ∧ x = m) := by
  have := look_mem h
  simp only [List.mem_cons, List.not_mem_nil, or_false, Prod.mk.injEq] at this
  exact this
/-- a field of a node in the reference's row -/
def nd (w : Int → Int) (n j : Int) : Int := w (1 + 7 * n + j)
/-- the widths of the first k variables, added up -/
def sumW (w : Int → Int) : Nat → Int
  | 0 => 0
  | k + 1 => sumW w k + nd w (w (282 + k)) 1
/-- each variable has a node and a width -/
def Vz (w : Int → Int) : Prop := ∃ _ : Unit, (0 ≤ w 281 ∧ w 281 ≤ 4) ∧ ∀ v, 0 ≤ v → v < w 281 → 0 ≤ w (282 + v) ∧ w (282 + v) < 40 ∧ 1 ≤ nd w (w (282 + v)) 1 ∧ nd w (w (282 + v)) 1 ≤ 8
theorem Vz.lo {w : Int → Int} (h : Vz w) : 0 ≤ w 281 := by obtain ⟨_, h⟩ := h; exact h.1.1
theorem Vz.hi {w : Int → Int} (h : Vz w) : w 281 ≤ 4 := by obtain ⟨_, h⟩ := h; exact h.1.2
theorem Vz.vs {w : Int → Int} (h : Vz w) : ∀ v, 0 ≤ v → v < w 281 → 0 ≤ w (282 + v) ∧ w (282 + v) < 40 ∧ 1 ≤ nd w (w (282 + v)) 1 ∧ nd w (w (282 + v)) 1 ≤ 8 := by obtain ⟨_, h⟩ := h; exact h.2
def s_X10_thrown : CS := (zc 1, ap [(3, 62)] (fun  h Rt X =>
Rt (some (.inl (hI h 62 4))) h))
set_option maxRecDepth 100000 in
set_option maxHeartbeats 4000000 in
theorem o_X10_thrown : Obl true 1 1 (sp []) [] code_X10_thrown s_X10_thrown := by
  refine obl0 (by rfl) ?_
  intro  h Rt X hh hf hs
  repeat' (first | apply And.intro | (intro _; try (exfalso; omega)) | exact hs | omega | (simp only [rI_rI, rJ_rJ, hI_rI, hJ_rI, hI_rJ, hJ_rJ, hR_rI, hR_rJ, hN_rI, hN_rJ, reduceIte, Nat.reduceEqDiff, eq_self, up_up, up_self, up_ne, ne_eq, not_false_eq_true, Int.reduceEq, Int.reduceNeg]; omega))
theorem m_X10_thrown : MM 190 s_X10_thrown := mm_of (own := 9) (by rfl) k_X10_thrown (cl := []) trivial o_X10_thrown
def s_X10_refused : CS := (zc 1, ap [(3, 62), (0, 0)] (fun w h Rt X =>
(0 < w → Rt (some (.inl 1)) (rI h 62 (up (hI h 62) 4 w))) ∧ (w ≤ 0 → Rt (some (.inl 0)) (rI h 62 (up (hI h 62) 4 w)))))
set_option maxRecDepth 100000 in
set_option maxHeartbeats 4000000 in
theorem o_X10_refused : Obl true 2 2 (sp []) [] code_X10_refused s_X10_refused := by
  refine obl0 (by rfl) ?_
  intro w r_w h Rt X hh hf hs
  obtain ⟨h1, h2⟩ := hs
  repeat' (first | apply And.intro | (intro _; try (exfalso; omega)) | exact h1 | exact h1 (by omega) | exact h2 | exact h2 (by omega) | omega | (simp only [rI_rI, rJ_rJ, hI_rI, hJ_rI, hI_rJ, hJ_rJ, hR_rI, hR_rJ, hN_rI, hN_rJ, reduceIte, Nat.reduceEqDiff, eq_self, up_up, up_self, up_ne, ne_eq, not_false_eq_true, Int.reduceEq, Int.reduceNeg]; omega))
theorem m_X10_refused : MM 191 s_X10_refused := mm_of (own := 9) (by rfl) k_X10_refused (cl := []) trivial o_X10_refused
def s_X10_within : CS := (zc 1, ap [(0, 0), (0, 0), (0, 0)] (fun v a b h Rt X =>
(a ≤ v ∧ v ≤ b → Rt (some (.inl 1)) h) ∧ (¬ (a ≤ v ∧ v ≤ b) → Rt (some (.inl 0)) h)))
set_option maxRecDepth 100000 in
set_option maxHeartbeats 4000000 in
theorem o_X10_within : Obl true 2 3 (sp []) [] code_X10_within s_X10_within := by
  refine obl0 (by rfl) ?_
  intro v r_v a r_a b r_b h Rt X hh hf hs
  obtain ⟨h1, h2⟩ := hs
  repeat' (first | apply And.intro | (intro _; try (exfalso; omega)) | exact h1 | exact h1 (by omega) | exact h2 | exact h2 (by omega) | omega | (simp only [rI_rI, rJ_rJ, hI_rI, hJ_rI, hI_rJ, hJ_rJ, hR_rI, hR_rJ, hN_rI, hN_rJ, reduceIte, Nat.reduceEqDiff, eq_self, up_up, up_self, up_ne, ne_eq, not_false_eq_true, Int.reduceEq, Int.reduceNeg]; omega))
theorem m_X10_within : MM 192 s_X10_within := mm_of (own := 9) (by rfl) k_X10_within (cl := []) trivial o_X10_within
def s_X10_need : CS := (zc 1, ap [(3, 62), (0, 0)] (fun b h Rt X =>
(b ≠ 0 → Rt (some (.inl 0)) h) ∧ (b = 0 → Rt (some (.inl 1)) h)))
set_option maxRecDepth 100000 in
set_option maxHeartbeats 4000000 in
theorem o_X10_need : Obl true 1 2 (sp []) [] code_X10_need s_X10_need := by
  refine obl0 (by rfl) ?_
  intro b r_b h Rt X hh hf hs
  obtain ⟨h1, h2⟩ := hs
  repeat' (first | apply And.intro | (intro _; try (exfalso; omega)) | exact h1 | exact h1 (by omega) | exact h2 | exact h2 (by omega) | omega | (simp only [rI_rI, rJ_rJ, hI_rI, hJ_rI, hI_rJ, hJ_rJ, hR_rI, hR_rJ, hN_rI, hN_rJ, reduceIte, Nat.reduceEqDiff, eq_self, up_up, up_self, up_ne, ne_eq, not_false_eq_true, Int.reduceEq, Int.reduceNeg]; omega))
theorem m_X10_need : MM 193 s_X10_need := mm_of (own := 9) (by rfl) k_X10_need (cl := []) trivial o_X10_need
def s_X10_of : CS := (zc 1, ap [(3, 62), (0, 0), (0, 0)] (fun n j h Rt X =>
(0 ≤ n ∧ n < 40 ∧ 0 ≤ j ∧ j < 7) ∧ Rt (some (.inl (nd (hI h 63) n j))) h))
set_option maxRecDepth 100000 in
set_option maxHeartbeats 4000000 in
theorem o_X10_of : Obl true 1 3 (sp []) [] code_X10_of s_X10_of := by
  refine obl0 (by rfl) ?_
  intro n r_n j r_j h Rt X hh hf hs
  obtain ⟨h1, h2⟩ := hs
  repeat' (first | apply And.intro | (intro _; try (exfalso; omega)) | exact h1 | exact h1 (by omega) | exact h2 | exact h2 (by omega) | omega | (simp only [rI_rI, rJ_rJ, hI_rI, hJ_rI, hI_rJ, hJ_rJ, hR_rI, hR_rJ, hN_rI, hN_rJ, reduceIte, Nat.reduceEqDiff, eq_self, up_up, up_self, up_ne, ne_eq, not_false_eq_true, Int.reduceEq, Int.reduceNeg]; omega))
theorem m_X10_of : MM 196 s_X10_of := mm_of (own := 9) (by rfl) k_X10_of (cl := []) trivial o_X10_of
def s_X10_kind : CS := (zc 2, ap [(3, 62), (0, 0)] (fun n h Rt X =>
(0 ≤ n ∧ n < 40) ∧ Rt (some (.inl (nd (hI h 63) n 0))) h))
set_option maxRecDepth 100000 in
set_option maxHeartbeats 4000000 in
theorem o_X10_kind : Obl true 1 2 (sp [(196, s_X10_of)]) [] code_X10_kind s_X10_kind := by
  refine obl0 (by rfl) ?_
  intro n r_n h Rt X hh hf hs
  obtain ⟨h1, h2⟩ := hs
  repeat' (first | apply And.intro | (intro _; try (exfalso; omega)) | exact h1 | exact h1 (by omega) | exact h2 | exact h2 (by omega) | omega | (simp only [rI_rI, rJ_rJ, hI_rI, hJ_rI, hI_rJ, hJ_rJ, hR_rI, hR_rJ, hN_rI, hN_rJ, reduceIte, Nat.reduceEqDiff, eq_self, up_up, up_self, up_ne, ne_eq, not_false_eq_true, Int.reduceEq, Int.reduceNeg]; omega))
theorem m_X10_kind : MM 197 s_X10_kind := mm_of (own := 9) (by rfl) k_X10_kind (cl := [(196, s_X10_of)]) ⟨m_X10_of, trivial⟩ o_X10_kind
def s_X10_width : CS := (zc 2, ap [(3, 62), (0, 0)] (fun n h Rt X =>
(0 ≤ n ∧ n < 40) ∧ Rt (some (.inl (nd (hI h 63) n 1))) h))
set_option maxRecDepth 100000 in
set_option maxHeartbeats 4000000 in
theorem o_X10_width : Obl true 1 2 (sp [(196, s_X10_of)]) [] code_X10_width s_X10_width := by
  refine obl0 (by rfl) ?_
  intro n r_n h Rt X hh hf hs
  obtain ⟨h1, h2⟩ := hs
  repeat' (first | apply And.intro | (intro _; try (exfalso; omega)) | exact h1 | exact h1 (by omega) | exact h2 | exact h2 (by omega) | omega | (simp only [rI_rI, rJ_rJ, hI_rI, hJ_rI, hI_rJ, hJ_rJ, hR_rI, hR_rJ, hN_rI, hN_rJ, reduceIte, Nat.reduceEqDiff, eq_self, up_up, up_self, up_ne, ne_eq, not_false_eq_true, Int.reduceEq, Int.reduceNeg]; omega))
theorem m_X10_width : MM 198 s_X10_width := mm_of (own := 9) (by rfl) k_X10_width (cl := [(196, s_X10_of)]) ⟨m_X10_of, trivial⟩ o_X10_width
def s_X10_isNode : CS := (zc 2, ap [(3, 62), (0, 0)] (fun n h Rt X =>
(0 ≤ hI h 63 0 ∧ hI h 63 0 ≤ 40) ∧ (0 ≤ n ∧ n < hI h 63 0 → Rt (some (.inl 1)) h) ∧ (¬ (0 ≤ n ∧ n < hI h 63 0) → Rt (some (.inl 0)) h)))
set_option maxRecDepth 100000 in
set_option maxHeartbeats 4000000 in
theorem o_X10_isNode : Obl true 2 2 (sp [(192, s_X10_within)]) [] code_X10_isNode s_X10_isNode := by
  refine obl0 (by rfl) ?_
  intro n r_n h Rt X hh hf hs
  obtain ⟨h1, h2, h3⟩ := hs
  repeat' (first | apply And.intro | (intro _; try (exfalso; omega)) | exact h1 | exact h1 (by omega) | exact h2 | exact h2 (by omega) | exact h3 | exact h3 (by omega) | omega | (simp only [rI_rI, rJ_rJ, hI_rI, hJ_rI, hI_rJ, hJ_rJ, hR_rI, hR_rJ, hN_rI, hN_rJ, reduceIte, Nat.reduceEqDiff, eq_self, up_up, up_self, up_ne, ne_eq, not_false_eq_true, Int.reduceEq, Int.reduceNeg]; omega))
theorem m_X10_isNode : MM 199 s_X10_isNode := mm_of (own := 9) (by rfl) k_X10_isNode (cl := [(192, s_X10_within)]) ⟨m_X10_within, trivial⟩ o_X10_isNode
def s_X10_isVariable : CS := (zc 2, ap [(3, 62), (0, 0)] (fun n h Rt X =>
(0 ≤ hI h 63 281 ∧ hI h 63 281 ≤ 4) ∧ (0 ≤ n ∧ n < hI h 63 281 → Rt (some (.inl 1)) h) ∧ (¬ (0 ≤ n ∧ n < hI h 63 281) → Rt (some (.inl 0)) h)))
set_option maxRecDepth 100000 in
set_option maxHeartbeats 4000000 in
theorem o_X10_isVariable : Obl true 2 2 (sp [(192, s_X10_within)]) [] code_X10_isVariable s_X10_isVariable := by
  refine obl0 (by rfl) ?_
  intro n r_n h Rt X hh hf hs
  obtain ⟨h1, h2, h3⟩ := hs
  repeat' (first | apply And.intro | (intro _; try (exfalso; omega)) | exact h1 | exact h1 (by omega) | exact h2 | exact h2 (by omega) | exact h3 | exact h3 (by omega) | omega | (simp only [rI_rI, rJ_rJ, hI_rI, hJ_rI, hI_rJ, hJ_rJ, hR_rI, hR_rJ, hN_rI, hN_rJ, reduceIte, Nat.reduceEqDiff, eq_self, up_up, up_self, up_ne, ne_eq, not_false_eq_true, Int.reduceEq, Int.reduceNeg]; omega))
theorem m_X10_isVariable : MM 200 s_X10_isVariable := mm_of (own := 9) (by rfl) k_X10_isVariable (cl := [(192, s_X10_within)]) ⟨m_X10_within, trivial⟩ o_X10_isVariable
def s_X10_mask : CS := (zc 1, ap [(0, 0)] (fun k h Rt X =>
(0 ≤ k ∧ k ≤ 20) ∧ Rt (some (.inl (p2 k - 1))) h))
set_option maxRecDepth 100000 in
set_option maxHeartbeats 4000000 in
theorem o_X10_mask : Obl true 1 1 (sp []) [] code_X10_mask s_X10_mask := by
  refine obl0 (by rfl) ?_
  intro k r_k h Rt X hh hf hs
  obtain ⟨h1, h2⟩ := hs
  have hp := p2_pos k
  have hp2 := p2_le20 h1.2
  have e : sShl 1 k = p2 k := by rw [sShl_eq (by omega) (by omega) (by omega) (by omega), Int.one_mul]
  rw [← e] at h2 hp hp2
  repeat' (first | apply And.intro | (intro _; try (exfalso; omega)) | exact h1 | exact h1 (by omega) | exact h2 | exact h2 (by omega) | omega | (simp only [rI_rI, rJ_rJ, hI_rI, hJ_rI, hI_rJ, hJ_rJ, hR_rI, hR_rJ, hN_rI, hN_rJ, reduceIte, Nat.reduceEqDiff, eq_self, up_up, up_self, up_ne, ne_eq, not_false_eq_true, Int.reduceEq, Int.reduceNeg]; omega))
theorem m_X10_mask : MM 201 s_X10_mask := mm_of (own := 9) (by rfl) k_X10_mask (cl := []) trivial o_X10_mask
def s_X10_isWord : CS := (zc 2, ap [(0, 0), (0, 0)] (fun k v h Rt X =>
(1 ≤ k ∧ k ≤ 8 ∧ 0 ≤ v ∧ v ≤ p2 k - 1 → Rt (some (.inl 1)) h) ∧ (¬ (1 ≤ k ∧ k ≤ 8 ∧ 0 ≤ v ∧ v ≤ p2 k - 1) → Rt (some (.inl 0)) h)))
set_option maxRecDepth 100000 in
set_option maxHeartbeats 4000000 in
theorem o_X10_isWord : Obl true 2 2 (sp [(192, s_X10_within), (201, s_X10_mask)]) [] code_X10_isWord s_X10_isWord := by
  refine obl0 (by rfl) ?_
  intro k r_k v r_v h Rt X hh hf hs
  obtain ⟨h1, h2⟩ := hs
  repeat' (first | apply And.intro | (intro _; try (exfalso; omega)) | exact h1 | exact h1 (by omega) | exact h2 | exact h2 (by omega) | omega | (simp only [rI_rI, rJ_rJ, hI_rI, hJ_rI, hI_rJ, hJ_rJ, hR_rI, hR_rJ, hN_rI, hN_rJ, reduceIte, Nat.reduceEqDiff, eq_self, up_up, up_self, up_ne, ne_eq, not_false_eq_true, Int.reduceEq, Int.reduceNeg]; omega))
theorem m_X10_isWord : MM 206 s_X10_isWord := mm_of (own := 9) (by rfl) k_X10_isWord (cl := [(192, s_X10_within), (201, s_X10_mask)]) ⟨m_X10_within, m_X10_mask, trivial⟩ o_X10_isWord
def s_X10_fits : CS := (zc 3, ap [(3, 62), (0, 0), (0, 0), (0, 0)] (fun k a b h Rt X =>
(0 ≤ a ∧ a < 40 ∧ 0 ≤ b ∧ b < 40 ∧ 0 ≤ nd (hI h 63) a 1 ∧ nd (hI h 63) a 1 ≤ 8 ∧ 0 ≤ nd (hI h 63) b 1 ∧ nd (hI h 63) b 1 ≤ 8) ∧
((k = 18 ∧ nd (hI h 63) a 1 + nd (hI h 63) b 1 ≤ 8) ∨ (k ≠ 18 ∧ nd (hI h 63) a 1 = nd (hI h 63) b 1) → Rt (some (.inl 1)) h) ∧ (¬ ((k = 18 ∧ nd (hI h 63) a 1 + nd (hI h 63) b 1 ≤ 8) ∨ (k ≠ 18 ∧ nd (hI h 63) a 1 = nd (hI h 63) b 1)) → Rt (some (.inl 0)) h)))
set_option maxRecDepth 100000 in
set_option maxHeartbeats 4000000 in
theorem o_X10_fits : Obl true 2 4 (sp [(198, s_X10_width)]) [] code_X10_fits s_X10_fits := by
  refine obl0 (by rfl) ?_
  intro k r_k a r_a b r_b h Rt X hh hf hs
  obtain ⟨h1, h2, h3⟩ := hs
  repeat' (first | apply And.intro | (intro _; try (exfalso; omega)) | exact h1 | exact h1 (by omega) | exact h2 | exact h2 (by omega) | exact h3 | exact h3 (by omega) | omega | (simp only [rI_rI, rJ_rJ, hI_rI, hJ_rI, hI_rJ, hJ_rJ, hR_rI, hR_rJ, hN_rI, hN_rJ, reduceIte, Nat.reduceEqDiff, eq_self, up_up, up_self, up_ne, ne_eq, not_false_eq_true, Int.reduceEq, Int.reduceNeg]; omega))
theorem m_X10_fits : MM 208 s_X10_fits := mm_of (own := 9) (by rfl) k_X10_fits (cl := [(198, s_X10_width)]) ⟨m_X10_width, trivial⟩ o_X10_fits
def s_X10_bitsOfAll : CS := (zc 3, ap [(3, 62)] (fun  h Rt X =>
Vz (hI h 63) ∧ Rt (some (.inl (sumW (hI h 63) (hI h 63 281).toNat))) h))
set_option maxRecDepth 100000 in
set_option maxHeartbeats 4000000 in
theorem o_X10_bitsOfAll : Obl true 1 3 (sp [(198, s_X10_width)]) [] code_X10_bitsOfAll s_X10_bitsOfAll := by
  refine oblL (by rfl) [(4, [0, 1, 2])] ?_
  intro  h Rt X hh hf hs
  obtain ⟨h1, h2⟩ := hs
  have p1 := h1.lo
  have p2 := h1.hi
  have p3 := h1.vs
  clear h1
  refine ⟨fun k pc vs h1 => ∃ (s i : Int), vs = [.inr (.inr (some 62)), .inl s, .inl i] ∧ h1 = h ∧ 0 ≤ i ∧ i ≤ hI h 63 281 ∧ s = sumW (hI h 63) i.toNat ∧ 0 ≤ s ∧ s ≤ 8 * i ∧ k = (hI h 63 281 - i).toNat, ?_, ?_⟩
  · repeat' (first | apply And.intro | (intro _; try (exfalso; omega)) | exact Exists.intro _ ⟨0, 0, rfl, rfl, by omega, by omega, rfl, by omega, by omega, rfl⟩ | exact h1 | exact h1 (by omega) | exact h2 | exact h2 (by omega) | omega | (simp only [rI_rI, rJ_rJ, hI_rI, hJ_rI, hI_rJ, hJ_rJ, hR_rI, hR_rJ, hN_rI, hN_rJ, reduceIte, Nat.reduceEqDiff, eq_self, up_up, up_self, up_ne, ne_eq, not_false_eq_true, Int.reduceEq, Int.reduceNeg]; omega))
  · rintro k pc live vs h1 hl ⟨s, i, rfl, rfl, i1, i2, i3, i4, i5, i6⟩ hv hh1 hf1
    obtain ⟨rfl, rfl⟩ := look1 hl
    have q := p3 i i1
    repeat' (first | apply And.intro | (intro _; try (exfalso; omega)) | exact Exists.intro _ ⟨by omega, _, i + 1, rfl, rfl, by omega, by omega, by rw [show (i + 1).toNat = i.toNat + 1 from by omega]; unfold sumW; rw [i3, show ((i.toNat : Nat) : Int) = i from by omega], by omega, by omega, rfl⟩ | (rw [show i = hI h1 63 281 from by omega] at i3; subst i3; exact h2) | exact h1 | exact h1 (by omega) | exact h2 | exact h2 (by omega) | omega | (simp only [rI_rI, rJ_rJ, hI_rI, hJ_rI, hI_rJ, hJ_rJ, hR_rI, hR_rJ, hN_rI, hN_rJ, reduceIte, Nat.reduceEqDiff, eq_self, up_up, up_self, up_ne, ne_eq, not_false_eq_true, Int.reduceEq, Int.reduceNeg]; omega))
theorem m_X10_bitsOfAll : MM 204 s_X10_bitsOfAll := mm_of (own := 9) (by rfl) k_X10_bitsOfAll (cl := [(198, s_X10_width)]) ⟨m_X10_width, trivial⟩ o_X10_bitsOfAll

/-! ===== the law's methods that call one of the class and tell what it throws ===== -/
def s_L_variable : CS := (xc 2 12 5, ap [(3, 0), (0, 0)] (fun wd h Rt X =>
∃ w ps s, CI h w ps s ∧ ¬ (1 ≤ wd ∧ wd ≤ 8) ∧ Rt (some (.inl 1)) h))
set_option maxRecDepth 100000 in
set_option maxHeartbeats 4000000 in
theorem o_L_variable : Obl true 1 3 (sp [(136, s_X9_variable)]) hd_L_variable code_L_variable s_L_variable := by
  refine obl0x (by rfl) ?_
  intro wd r_wd h Rt X hh hf hs
  obtain ⟨w, ps, s, hC, z, K⟩ := hs
  repeat' (first | apply And.intro | (with_reducible assumption) | (intro h9; first | (exfalso; omega) | (simp only [rI_rI, rJ_rJ, hI_rI, hJ_rI, hI_rJ, hJ_rJ, hI_rR, hR_rI, hR_rJ, hN_rI, hN_rJ, svH_63, svH_66, rfH_63, wvH_63, wvH_62, wvH_67, wvH_68, wvH_69, sc_63, sc_n62, sc_n67, sc_n68, sc_n69, sc_n70, reduceIte, Nat.reduceEqDiff, eq_self, up_up, up_self, up_ne, ne_eq, not_false_eq_true, Int.reduceEq, Int.reduceNeg, hs_1, hs_2, hs_5, hs_10, hs_46, se_aI, se_aJ] at h9; first | (exfalso; omega) | skip) | skip) | refine Exists.intro w (Exists.intro ps (Exists.intro s (And.intro hC ?_))) | exact K | exact hs | omega | exact True.intro | (simp only [rI_rI, rJ_rJ, hI_rI, hJ_rI, hI_rJ, hJ_rJ, hI_rR, hR_rI, hR_rJ, hN_rI, hN_rJ, svH_63, svH_66, rfH_63, wvH_63, wvH_62, wvH_67, wvH_68, wvH_69, sc_63, sc_n62, sc_n67, sc_n68, sc_n69, sc_n70, reduceIte, Nat.reduceEqDiff, eq_self, up_up, up_self, up_ne, ne_eq, not_false_eq_true, Int.reduceEq, Int.reduceNeg, hs_1, hs_2, hs_5, hs_10, hs_46, se_aI, se_aJ]; omega))
theorem m_L_variable : MM 302 s_L_variable := mm_of (own := 11) (by rfl) k_L_variable (cl := [(136, s_X9_variable)]) ⟨m_X9_variable, trivial⟩ o_L_variable
def s_L_constant : CS := (xc 2 12 5, ap [(3, 0), (0, 0), (0, 0)] (fun wd v h Rt X =>
∃ w ps s, CI h w ps s ∧ ¬ (1 ≤ wd ∧ wd ≤ 8 ∧ 0 ≤ v ∧ v ≤ p2 wd - 1) ∧ Rt (some (.inl 1)) h))
set_option maxRecDepth 100000 in
set_option maxHeartbeats 4000000 in
theorem o_L_constant : Obl true 1 4 (sp [(137, s_X9_constant)]) hd_L_constant code_L_constant s_L_constant := by
  refine obl0x (by rfl) ?_
  intro wd r_wd v r_v h Rt X hh hf hs
  obtain ⟨w, ps, s, hC, z, K⟩ := hs
  repeat' (first | apply And.intro | (with_reducible assumption) | (intro h9; first | (exfalso; omega) | (simp only [rI_rI, rJ_rJ, hI_rI, hJ_rI, hI_rJ, hJ_rJ, hI_rR, hR_rI, hR_rJ, hN_rI, hN_rJ, svH_63, svH_66, rfH_63, wvH_63, wvH_62, wvH_67, wvH_68, wvH_69, sc_63, sc_n62, sc_n67, sc_n68, sc_n69, sc_n70, reduceIte, Nat.reduceEqDiff, eq_self, up_up, up_self, up_ne, ne_eq, not_false_eq_true, Int.reduceEq, Int.reduceNeg, hs_1, hs_2, hs_5, hs_10, hs_46, se_aI, se_aJ] at h9; first | (exfalso; omega) | skip) | skip) | refine Exists.intro w (Exists.intro ps (Exists.intro s (And.intro hC ?_))) | exact K | exact hs | omega | exact True.intro | (simp only [rI_rI, rJ_rJ, hI_rI, hJ_rI, hI_rJ, hJ_rJ, hI_rR, hR_rI, hR_rJ, hN_rI, hN_rJ, svH_63, svH_66, rfH_63, wvH_63, wvH_62, wvH_67, wvH_68, wvH_69, sc_63, sc_n62, sc_n67, sc_n68, sc_n69, sc_n70, reduceIte, Nat.reduceEqDiff, eq_self, up_up, up_self, up_ne, ne_eq, not_false_eq_true, Int.reduceEq, Int.reduceNeg, hs_1, hs_2, hs_5, hs_10, hs_46, se_aI, se_aJ]; omega))
theorem m_L_constant : MM 303 s_L_constant := mm_of (own := 11) (by rfl) k_L_constant (cl := [(137, s_X9_constant)]) ⟨m_X9_constant, trivial⟩ o_L_constant
def s_L_binary : CS := (xc 4 24 6, ap [(3, 0), (0, 0), (0, 0), (0, 0)] (fun k a b h Rt X =>
∃ w ps s, CI h w ps s ∧ (2 ≤ k ∧ k ≤ 18 → ¬ (0 ≤ a ∧ a < w 0 ∧ 0 ≤ b ∧ b < w 0)) ∧ (¬ (2 ≤ k ∧ k ≤ 18) → Rt (some (.inl 1)) h) ∧ (2 ≤ k ∧ k ≤ 18 → Rt (some (.inl 2)) h)))
set_option maxRecDepth 100000 in
set_option maxHeartbeats 4000000 in
theorem o_L_binary : Obl true 1 5 (sp [(138, s_X9_binary)]) hd_L_binary code_L_binary s_L_binary := by
  refine obl0x (by rfl) ?_
  intro k r_k a r_a b r_b h Rt X hh hf hs
  obtain ⟨w, ps, s, hC, z, k1, k2⟩ := hs
  repeat' (first | apply And.intro | (with_reducible assumption) | (intro h9; first | (exfalso; omega) | (simp only [rI_rI, rJ_rJ, hI_rI, hJ_rI, hI_rJ, hJ_rJ, hI_rR, hR_rI, hR_rJ, hN_rI, hN_rJ, svH_63, svH_66, rfH_63, wvH_63, wvH_62, wvH_67, wvH_68, wvH_69, sc_63, sc_n62, sc_n67, sc_n68, sc_n69, sc_n70, reduceIte, Nat.reduceEqDiff, eq_self, up_up, up_self, up_ne, ne_eq, not_false_eq_true, Int.reduceEq, Int.reduceNeg, hs_1, hs_2, hs_5, hs_10, hs_46, se_aI, se_aJ] at h9; first | (exfalso; omega) | skip) | skip) | refine Exists.intro w (Exists.intro ps (Exists.intro s (And.intro hC ?_))) | exact k1 (by assumption) | exact k2 (by assumption) | exact hs | omega | exact True.intro | (simp only [rI_rI, rJ_rJ, hI_rI, hJ_rI, hI_rJ, hJ_rJ, hI_rR, hR_rI, hR_rJ, hN_rI, hN_rJ, svH_63, svH_66, rfH_63, wvH_63, wvH_62, wvH_67, wvH_68, wvH_69, sc_63, sc_n62, sc_n67, sc_n68, sc_n69, sc_n70, reduceIte, Nat.reduceEqDiff, eq_self, up_up, up_self, up_ne, ne_eq, not_false_eq_true, Int.reduceEq, Int.reduceNeg, hs_1, hs_2, hs_5, hs_10, hs_46, se_aI, se_aJ]; omega))
theorem m_L_binary : MM 304 s_L_binary := mm_of (own := 11) (by rfl) k_L_binary (cl := [(138, s_X9_binary)]) ⟨m_X9_binary, trivial⟩ o_L_binary
def s_L_slice : CS := (xc 3 18 6, ap [(3, 0), (0, 0), (0, 0), (0, 0)] (fun a hi lo h Rt X =>
∃ w ps s, CI h w ps s ∧ (0 ≤ a ∧ a < w 0 → ¬ (0 ≤ lo ∧ lo ≤ hi ∧ hi < nd w a 1)) ∧ (¬ (0 ≤ a ∧ a < w 0) → Rt (some (.inl 1)) h) ∧ (0 ≤ a ∧ a < w 0 → Rt (some (.inl 2)) h)))
set_option maxRecDepth 100000 in
set_option maxHeartbeats 4000000 in
theorem o_L_slice : Obl true 1 5 (sp [(140, s_X9_slice)]) hd_L_slice code_L_slice s_L_slice := by
  refine obl0x (by rfl) ?_
  intro a r_a hi r_hi lo r_lo h Rt X hh hf hs
  obtain ⟨w, ps, s, hC, z, k1, k2⟩ := hs
  repeat' (first | apply And.intro | (with_reducible assumption) | (intro h9; first | (exfalso; omega) | (simp only [rI_rI, rJ_rJ, hI_rI, hJ_rI, hI_rJ, hJ_rJ, hI_rR, hR_rI, hR_rJ, hN_rI, hN_rJ, svH_63, svH_66, rfH_63, wvH_63, wvH_62, wvH_67, wvH_68, wvH_69, sc_63, sc_n62, sc_n67, sc_n68, sc_n69, sc_n70, reduceIte, Nat.reduceEqDiff, eq_self, up_up, up_self, up_ne, ne_eq, not_false_eq_true, Int.reduceEq, Int.reduceNeg, hs_1, hs_2, hs_5, hs_10, hs_46, se_aI, se_aJ] at h9; first | (exfalso; omega) | skip) | skip) | refine Exists.intro w (Exists.intro ps (Exists.intro s (And.intro hC ?_))) | exact k1 (by assumption) | exact k2 (by assumption) | exact hs | omega | exact True.intro | (simp only [rI_rI, rJ_rJ, hI_rI, hJ_rI, hI_rJ, hJ_rJ, hI_rR, hR_rI, hR_rJ, hN_rI, hN_rJ, svH_63, svH_66, rfH_63, wvH_63, wvH_62, wvH_67, wvH_68, wvH_69, sc_63, sc_n62, sc_n67, sc_n68, sc_n69, sc_n70, reduceIte, Nat.reduceEqDiff, eq_self, up_up, up_self, up_ne, ne_eq, not_false_eq_true, Int.reduceEq, Int.reduceNeg, hs_1, hs_2, hs_5, hs_10, hs_46, se_aI, se_aJ]; omega))
theorem m_L_slice : MM 306 s_L_slice := mm_of (own := 11) (by rfl) k_L_slice (cl := [(140, s_X9_slice)]) ⟨m_X9_slice, trivial⟩ o_L_slice
def s_L_choice : CS := (xc 4 24 5, ap [(3, 0), (0, 0), (0, 0), (0, 0)] (fun a b c h Rt X =>
∃ w ps s, CI h w ps s ∧ (0 ≤ a ∧ a < w 0 ∧ 0 ≤ b ∧ b < w 0 ∧ 0 ≤ c ∧ c < w 0 → ¬ (nd w a 1 = 1 ∧ nd w b 1 = nd w c 1)) ∧ (¬ (0 ≤ a ∧ a < w 0 ∧ 0 ≤ b ∧ b < w 0 ∧ 0 ≤ c ∧ c < w 0) → Rt (some (.inl 1)) h) ∧ (0 ≤ a ∧ a < w 0 ∧ 0 ≤ b ∧ b < w 0 ∧ 0 ≤ c ∧ c < w 0 → Rt (some (.inl 2)) h)))
set_option maxRecDepth 100000 in
set_option maxHeartbeats 4000000 in
theorem o_L_choice : Obl true 1 5 (sp [(142, s_X9_choice)]) hd_L_choice code_L_choice s_L_choice := by
  refine obl0x (by rfl) ?_
  intro a r_a b r_b c r_c h Rt X hh hf hs
  obtain ⟨w, ps, s, hC, z, k1, k2⟩ := hs
  repeat' (first | apply And.intro | (with_reducible assumption) | (intro h9; first | (exfalso; omega) | (simp only [rI_rI, rJ_rJ, hI_rI, hJ_rI, hI_rJ, hJ_rJ, hI_rR, hR_rI, hR_rJ, hN_rI, hN_rJ, svH_63, svH_66, rfH_63, wvH_63, wvH_62, wvH_67, wvH_68, wvH_69, sc_63, sc_n62, sc_n67, sc_n68, sc_n69, sc_n70, reduceIte, Nat.reduceEqDiff, eq_self, up_up, up_self, up_ne, ne_eq, not_false_eq_true, Int.reduceEq, Int.reduceNeg, hs_1, hs_2, hs_5, hs_10, hs_46, se_aI, se_aJ] at h9; first | (exfalso; omega) | skip) | skip) | refine Exists.intro w (Exists.intro ps (Exists.intro s (And.intro hC ?_))) | exact k1 (by assumption) | exact k2 (by assumption) | exact hs | omega | exact True.intro | (simp only [rI_rI, rJ_rJ, hI_rI, hJ_rI, hI_rJ, hJ_rJ, hI_rR, hR_rI, hR_rJ, hN_rI, hN_rJ, svH_63, svH_66, rfH_63, wvH_63, wvH_62, wvH_67, wvH_68, wvH_69, sc_63, sc_n62, sc_n67, sc_n68, sc_n69, sc_n70, reduceIte, Nat.reduceEqDiff, eq_self, up_up, up_self, up_ne, ne_eq, not_false_eq_true, Int.reduceEq, Int.reduceNeg, hs_1, hs_2, hs_5, hs_10, hs_46, se_aI, se_aJ]; omega))
theorem m_L_choice : MM 308 s_L_choice := mm_of (own := 11) (by rfl) k_L_choice (cl := [(142, s_X9_choice)]) ⟨m_X9_choice, trivial⟩ o_L_choice
def s_L_require : CS := (xc 2 12 5, ap [(3, 0), (0, 0)] (fun n h Rt X =>
∃ w ps s, CI h w ps s ∧ (0 ≤ n ∧ n < w 0 → nd w n 1 ≠ 1) ∧ (¬ (0 ≤ n ∧ n < w 0) → Rt (some (.inl 1)) h) ∧ (0 ≤ n ∧ n < w 0 → Rt (some (.inl 2)) h)))
set_option maxRecDepth 100000 in
set_option maxHeartbeats 4000000 in
theorem o_L_require : Obl true 1 3 (sp [(148, s_X9_require)]) hd_L_require code_L_require s_L_require := by
  refine obl0x (by rfl) ?_
  intro n r_n h Rt X hh hf hs
  obtain ⟨w, ps, s, hC, z, k1, k2⟩ := hs
  repeat' (first | apply And.intro | (with_reducible assumption) | (intro h9; first | (exfalso; omega) | (simp only [rI_rI, rJ_rJ, hI_rI, hJ_rI, hI_rJ, hJ_rJ, hI_rR, hR_rI, hR_rJ, hN_rI, hN_rJ, svH_63, svH_66, rfH_63, wvH_63, wvH_62, wvH_67, wvH_68, wvH_69, sc_63, sc_n62, sc_n67, sc_n68, sc_n69, sc_n70, reduceIte, Nat.reduceEqDiff, eq_self, up_up, up_self, up_ne, ne_eq, not_false_eq_true, Int.reduceEq, Int.reduceNeg, hs_1, hs_2, hs_5, hs_10, hs_46, se_aI, se_aJ] at h9; first | (exfalso; omega) | skip) | skip) | refine Exists.intro w (Exists.intro ps (Exists.intro s (And.intro hC ?_))) | exact k1 (by assumption) | exact k2 (by assumption) | exact hs | omega | exact True.intro | (simp only [rI_rI, rJ_rJ, hI_rI, hJ_rI, hI_rJ, hJ_rJ, hI_rR, hR_rI, hR_rJ, hN_rI, hN_rJ, svH_63, svH_66, rfH_63, wvH_63, wvH_62, wvH_67, wvH_68, wvH_69, sc_63, sc_n62, sc_n67, sc_n68, sc_n69, sc_n70, reduceIte, Nat.reduceEqDiff, eq_self, up_up, up_self, up_ne, ne_eq, not_false_eq_true, Int.reduceEq, Int.reduceNeg, hs_1, hs_2, hs_5, hs_10, hs_46, se_aI, se_aJ]; omega))
theorem m_L_require : MM 312 s_L_require := mm_of (own := 11) (by rfl) k_L_require (cl := [(148, s_X9_require)]) ⟨m_X9_require, trivial⟩ o_L_require
def s_L_pop : CS := (xc 1 6 5, ap [(3, 0)] (fun  h Rt X =>
∃ w ps s, CI h w ps s ∧ w 331 = 0 ∧ Rt (some (.inl 1)) h))
set_option maxRecDepth 100000 in
set_option maxHeartbeats 4000000 in
theorem o_L_pop : Obl true 1 2 (sp [(150, s_X9_pop)]) hd_L_pop code_L_pop s_L_pop := by
  refine obl0x (by rfl) ?_
  intro  h Rt X hh hf hs
  obtain ⟨w, ps, s, hC, z, K⟩ := hs
  repeat' (first | apply And.intro | (with_reducible assumption) | (intro h9; first | (exfalso; omega) | (simp only [rI_rI, rJ_rJ, hI_rI, hJ_rI, hI_rJ, hJ_rJ, hI_rR, hR_rI, hR_rJ, hN_rI, hN_rJ, svH_63, svH_66, rfH_63, wvH_63, wvH_62, wvH_67, wvH_68, wvH_69, sc_63, sc_n62, sc_n67, sc_n68, sc_n69, sc_n70, reduceIte, Nat.reduceEqDiff, eq_self, up_up, up_self, up_ne, ne_eq, not_false_eq_true, Int.reduceEq, Int.reduceNeg, hs_1, hs_2, hs_5, hs_10, hs_46, se_aI, se_aJ] at h9; first | (exfalso; omega) | skip) | skip) | refine Exists.intro w (Exists.intro ps (Exists.intro s (And.intro hC ?_))) | exact K | exact hs | omega | exact True.intro | (simp only [rI_rI, rJ_rJ, hI_rI, hJ_rI, hI_rJ, hJ_rJ, hI_rR, hR_rI, hR_rJ, hN_rI, hN_rJ, svH_63, svH_66, rfH_63, wvH_63, wvH_62, wvH_67, wvH_68, wvH_69, sc_63, sc_n62, sc_n67, sc_n68, sc_n69, sc_n70, reduceIte, Nat.reduceEqDiff, eq_self, up_up, up_self, up_ne, ne_eq, not_false_eq_true, Int.reduceEq, Int.reduceNeg, hs_1, hs_2, hs_5, hs_10, hs_46, se_aI, se_aJ]; omega))
theorem m_L_pop : MM 314 s_L_pop := mm_of (own := 11) (by rfl) k_L_pop (cl := [(150, s_X9_pop)]) ⟨m_X9_pop, trivial⟩ o_L_pop
def s_L_input : CS := (xc 2 12 5, ap [(3, 0), (0, 0), (0, 0)] (fun v x h Rt X =>
∃ w ps s, CI h w ps s ∧ (0 ≤ v ∧ v < w 281 → ¬ (0 ≤ x ∧ x ≤ p2 (nd w (w (282 + v)) 1) - 1)) ∧ (¬ (0 ≤ v ∧ v < w 281) → Rt (some (.inl 1)) h) ∧ (0 ≤ v ∧ v < w 281 → Rt (some (.inl 2)) h)))
set_option maxRecDepth 100000 in
set_option maxHeartbeats 4000000 in
theorem o_L_input : Obl true 1 4 (sp [(146, s_X9_input)]) hd_L_input code_L_input s_L_input := by
  refine obl0x (by rfl) ?_
  intro v r_v x r_x h Rt X hh hf hs
  obtain ⟨w, ps, s, hC, z, k1, k2⟩ := hs
  repeat' (first | apply And.intro | (with_reducible assumption) | (intro h9; first | (exfalso; omega) | (simp only [rI_rI, rJ_rJ, hI_rI, hJ_rI, hI_rJ, hJ_rJ, hI_rR, hR_rI, hR_rJ, hN_rI, hN_rJ, svH_63, svH_66, rfH_63, wvH_63, wvH_62, wvH_67, wvH_68, wvH_69, sc_63, sc_n62, sc_n67, sc_n68, sc_n69, sc_n70, reduceIte, Nat.reduceEqDiff, eq_self, up_up, up_self, up_ne, ne_eq, not_false_eq_true, Int.reduceEq, Int.reduceNeg, hs_1, hs_2, hs_5, hs_10, hs_46, se_aI, se_aJ] at h9; first | (exfalso; omega) | skip) | skip) | refine Exists.intro w (Exists.intro ps (Exists.intro s (And.intro hC ?_))) | exact k1 (by assumption) | exact k2 (by assumption) | exact hs | omega | exact True.intro | (simp only [rI_rI, rJ_rJ, hI_rI, hJ_rI, hI_rJ, hJ_rJ, hI_rR, hR_rI, hR_rJ, hN_rI, hN_rJ, svH_63, svH_66, rfH_63, wvH_63, wvH_62, wvH_67, wvH_68, wvH_69, sc_63, sc_n62, sc_n67, sc_n68, sc_n69, sc_n70, reduceIte, Nat.reduceEqDiff, eq_self, up_up, up_self, up_ne, ne_eq, not_false_eq_true, Int.reduceEq, Int.reduceNeg, hs_1, hs_2, hs_5, hs_10, hs_46, se_aI, se_aJ]; omega))
theorem m_L_input : MM 310 s_L_input := mm_of (own := 11) (by rfl) k_L_input (cl := [(146, s_X9_input)]) ⟨m_X9_input, trivial⟩ o_L_input
def s_L_extreme : CS := (xc 2 12 8, ap [(3, 0), (0, 0)] (fun n h Rt X =>
∃ w ps s, CI h w ps s ∧ (0 ≤ n ∧ n < w 0 → nxt w 0 = -1) ∧ (¬ (0 ≤ n ∧ n < w 0) → Rt (some (.inl 1)) h) ∧ (0 ≤ n ∧ n < w 0 → Go h w ps s (Rt (some (.inl 2))))))
set_option maxRecDepth 100000 in
set_option maxHeartbeats 4000000 in
theorem o_L_extreme : Obl true 1 3 (sp [(155, s_X9_extreme)]) hd_L_extreme code_L_extreme s_L_extreme := by
  refine obl0x (by rfl) ?_
  intro n r_n h Rt X hh hf hs
  obtain ⟨w, ps, s, hC, z, k1, k2⟩ := hs
  repeat' (first | apply And.intro | (with_reducible assumption) | (intro h9; first | (exfalso; omega) | (simp only [rI_rI, rJ_rJ, hI_rI, hJ_rI, hI_rJ, hJ_rJ, hI_rR, hR_rI, hR_rJ, hN_rI, hN_rJ, svH_63, svH_66, rfH_63, wvH_63, wvH_62, wvH_67, wvH_68, wvH_69, sc_63, sc_n62, sc_n67, sc_n68, sc_n69, sc_n70, reduceIte, Nat.reduceEqDiff, eq_self, up_up, up_self, up_ne, ne_eq, not_false_eq_true, Int.reduceEq, Int.reduceNeg, hs_1, hs_2, hs_5, hs_10, hs_46, se_aI, se_aJ] at h9; first | (exfalso; omega) | skip) | skip) | refine Exists.intro w (Exists.intro ps (Exists.intro s (And.intro hC ?_))) | exact k1 (by assumption) | exact k2 (by assumption) _ (by assumption) (by assumption) | exact hs | omega | exact True.intro | (simp only [rI_rI, rJ_rJ, hI_rI, hJ_rI, hI_rJ, hJ_rJ, hI_rR, hR_rI, hR_rJ, hN_rI, hN_rJ, svH_63, svH_66, rfH_63, wvH_63, wvH_62, wvH_67, wvH_68, wvH_69, sc_63, sc_n62, sc_n67, sc_n68, sc_n69, sc_n70, reduceIte, Nat.reduceEqDiff, eq_self, up_up, up_self, up_ne, ne_eq, not_false_eq_true, Int.reduceEq, Int.reduceNeg, hs_1, hs_2, hs_5, hs_10, hs_46, se_aI, se_aJ]; omega))
theorem m_L_extreme : MM 317 s_L_extreme := mm_of (own := 11) (by rfl) k_L_extreme (cl := [(155, s_X9_extreme)]) ⟨m_X9_extreme, trivial⟩ o_L_extreme
def s_L_models : CS := (xc 1 6 8, ap [(3, 0), (0, 0)] (fun l h Rt X =>
∃ w ps s, CI h w ps s ∧ ¬ (1 ≤ l ∧ l ≤ 200) ∧ Rt (some (.inl 1)) h))
set_option maxRecDepth 100000 in
set_option maxHeartbeats 4000000 in
theorem o_L_models : Obl true 1 3 (sp [(158, s_X9_models)]) hd_L_models code_L_models s_L_models := by
  refine obl0x (by rfl) ?_
  intro l r_l h Rt X hh hf hs
  obtain ⟨w, ps, s, hC, z, K⟩ := hs
  repeat' (first | apply And.intro | (with_reducible assumption) | (intro h9; first | (exfalso; omega) | (simp only [rI_rI, rJ_rJ, hI_rI, hJ_rI, hI_rJ, hJ_rJ, hI_rR, hR_rI, hR_rJ, hN_rI, hN_rJ, svH_63, svH_66, rfH_63, wvH_63, wvH_62, wvH_67, wvH_68, wvH_69, sc_63, sc_n62, sc_n67, sc_n68, sc_n69, sc_n70, reduceIte, Nat.reduceEqDiff, eq_self, up_up, up_self, up_ne, ne_eq, not_false_eq_true, Int.reduceEq, Int.reduceNeg, hs_1, hs_2, hs_5, hs_10, hs_46, se_aI, se_aJ] at h9; first | (exfalso; omega) | skip) | skip) | refine Exists.intro w (Exists.intro ps (Exists.intro s (And.intro hC ?_))) | exact K | exact hs | omega | exact True.intro | (simp only [rI_rI, rJ_rJ, hI_rI, hJ_rI, hI_rJ, hJ_rJ, hI_rR, hR_rI, hR_rJ, hN_rI, hN_rJ, svH_63, svH_66, rfH_63, wvH_63, wvH_62, wvH_67, wvH_68, wvH_69, sc_63, sc_n62, sc_n67, sc_n68, sc_n69, sc_n70, reduceIte, Nat.reduceEqDiff, eq_self, up_up, up_self, up_ne, ne_eq, not_false_eq_true, Int.reduceEq, Int.reduceNeg, hs_1, hs_2, hs_5, hs_10, hs_46, se_aI, se_aJ]; omega))
theorem m_L_models : MM 320 s_L_models := mm_of (own := 11) (by rfl) k_L_models (cl := [(158, s_X9_models)]) ⟨m_X9_models, trivial⟩ o_L_models
def s_L_equivalent : CS := (xc 3 18 8, ap [(3, 0), (0, 0), (0, 0)] (fun p q h Rt X =>
∃ w ps s, CI h w ps s ∧ ¬ (0 ≤ p ∧ p < w 0 ∧ 0 ≤ q ∧ q < w 0) ∧ Rt (some (.inl 1)) h))
set_option maxRecDepth 100000 in
set_option maxHeartbeats 4000000 in
theorem o_L_equivalent : Obl true 1 4 (sp [(161, s_X9_equivalent)]) hd_L_equivalent code_L_equivalent s_L_equivalent := by
  refine obl0x (by rfl) ?_
  intro p r_p q r_q h Rt X hh hf hs
  obtain ⟨w, ps, s, hC, z, K⟩ := hs
  repeat' (first | apply And.intro | (with_reducible assumption) | (intro h9; first | (exfalso; omega) | (simp only [rI_rI, rJ_rJ, hI_rI, hJ_rI, hI_rJ, hJ_rJ, hI_rR, hR_rI, hR_rJ, hN_rI, hN_rJ, svH_63, svH_66, rfH_63, wvH_63, wvH_62, wvH_67, wvH_68, wvH_69, sc_63, sc_n62, sc_n67, sc_n68, sc_n69, sc_n70, reduceIte, Nat.reduceEqDiff, eq_self, up_up, up_self, up_ne, ne_eq, not_false_eq_true, Int.reduceEq, Int.reduceNeg, hs_1, hs_2, hs_5, hs_10, hs_46, se_aI, se_aJ] at h9; first | (exfalso; omega) | skip) | skip) | refine Exists.intro w (Exists.intro ps (Exists.intro s (And.intro hC ?_))) | exact K | exact hs | omega | exact True.intro | (simp only [rI_rI, rJ_rJ, hI_rI, hJ_rI, hI_rJ, hJ_rJ, hI_rR, hR_rI, hR_rJ, hN_rI, hN_rJ, svH_63, svH_66, rfH_63, wvH_63, wvH_62, wvH_67, wvH_68, wvH_69, sc_63, sc_n62, sc_n67, sc_n68, sc_n69, sc_n70, reduceIte, Nat.reduceEqDiff, eq_self, up_up, up_self, up_ne, ne_eq, not_false_eq_true, Int.reduceEq, Int.reduceNeg, hs_1, hs_2, hs_5, hs_10, hs_46, se_aI, se_aJ]; omega))
theorem m_L_equivalent : MM 323 s_L_equivalent := mm_of (own := 11) (by rfl) k_L_equivalent (cl := [(161, s_X9_equivalent)]) ⟨m_X9_equivalent, trivial⟩ o_L_equivalent
def s_L_wish : CS := (xc 2 12 5, ap [(3, 0), (0, 0), (0, 0)] (fun n x h Rt X =>
∃ w ps s, CI h w ps s ∧ (0 ≤ n ∧ n < w 0 → ¬ (nd w n 1 = 1 ∧ 1 ≤ x ∧ x ≤ 9)) ∧ (¬ (0 ≤ n ∧ n < w 0) → Rt (some (.inl 1)) h) ∧ (0 ≤ n ∧ n < w 0 → Rt (some (.inl 2)) h)))
set_option maxRecDepth 100000 in
set_option maxHeartbeats 4000000 in
theorem o_L_wish : Obl true 1 4 (sp [(164, s_X9_wish)]) hd_L_wish code_L_wish s_L_wish := by
  refine obl0x (by rfl) ?_
  intro n r_n x r_x h Rt X hh hf hs
  obtain ⟨w, ps, s, hC, z, k1, k2⟩ := hs
  repeat' (first | apply And.intro | (with_reducible assumption) | (intro h9; first | (exfalso; omega) | (simp only [rI_rI, rJ_rJ, hI_rI, hJ_rI, hI_rJ, hJ_rJ, hI_rR, hR_rI, hR_rJ, hN_rI, hN_rJ, svH_63, svH_66, rfH_63, wvH_63, wvH_62, wvH_67, wvH_68, wvH_69, sc_63, sc_n62, sc_n67, sc_n68, sc_n69, sc_n70, reduceIte, Nat.reduceEqDiff, eq_self, up_up, up_self, up_ne, ne_eq, not_false_eq_true, Int.reduceEq, Int.reduceNeg, hs_1, hs_2, hs_5, hs_10, hs_46, se_aI, se_aJ] at h9; first | (exfalso; omega) | skip) | skip) | refine Exists.intro w (Exists.intro ps (Exists.intro s (And.intro hC ?_))) | exact k1 (by assumption) | exact k2 (by assumption) | exact hs | omega | exact True.intro | (simp only [rI_rI, rJ_rJ, hI_rI, hJ_rI, hI_rJ, hJ_rJ, hI_rR, hR_rI, hR_rJ, hN_rI, hN_rJ, svH_63, svH_66, rfH_63, wvH_63, wvH_62, wvH_67, wvH_68, wvH_69, sc_63, sc_n62, sc_n67, sc_n68, sc_n69, sc_n70, reduceIte, Nat.reduceEqDiff, eq_self, up_up, up_self, up_ne, ne_eq, not_false_eq_true, Int.reduceEq, Int.reduceNeg, hs_1, hs_2, hs_5, hs_10, hs_46, se_aI, se_aJ]; omega))
theorem m_L_wish : MM 325 s_L_wish := mm_of (own := 11) (by rfl) k_L_wish (cl := [(164, s_X9_wish)]) ⟨m_X9_wish, trivial⟩ o_L_wish
def s_L_write : CS := (xc 2 12 93, ap [(3, 0), (0, 0)] (fun n h Rt X =>
∃ w ps s, CI h w ps s ∧ (¬ (0 ≤ n ∧ n < w 0) → Rt (some (.inl 1)) h) ∧ (0 ≤ n ∧ n < w 0 → 120 < (dsc w n).length → Go h w ps s (Rt (some (.inl 2)))) ∧ (0 ≤ n ∧ n < w 0 → (dsc w n).length ≤ 120 → ∀ g, CI g w ps s → Ou h g → TxL (hI g) (dsc w n) → Rt (some (.inl 0)) g)))
set_option maxRecDepth 100000 in
set_option maxHeartbeats 4000000 in
theorem o_L_write : Obl true 1 3 (sp [(172, s_X9_write)]) hd_L_write code_L_write s_L_write := by
  refine obl0x (by rfl) ?_
  intro n r_n h Rt X hh hf hs
  obtain ⟨w, ps, s, hC, k1, k2, k3⟩ := hs
  repeat' (first | apply And.intro | (with_reducible assumption) | (intro h9; first | (exfalso; omega) | (simp only [rI_rI, rJ_rJ, hI_rI, hJ_rI, hI_rJ, hJ_rJ, hI_rR, hR_rI, hR_rJ, hN_rI, hN_rJ, svH_63, svH_66, rfH_63, wvH_63, wvH_62, wvH_67, wvH_68, wvH_69, sc_63, sc_n62, sc_n67, sc_n68, sc_n69, sc_n70, reduceIte, Nat.reduceEqDiff, eq_self, up_up, up_self, up_ne, ne_eq, not_false_eq_true, Int.reduceEq, Int.reduceNeg, hs_1, hs_2, hs_5, hs_10, hs_46, se_aI, se_aJ] at h9; first | (exfalso; omega) | skip) | skip) | refine Exists.intro w (Exists.intro ps (Exists.intro s (And.intro hC ?_))) | exact k1 (by assumption) | exact k2 (by assumption) (by assumption) _ (by assumption) (by assumption) | exact k3 (by assumption) (by assumption) _ (by assumption) (by assumption) (by assumption) | exact hs | omega | exact True.intro | (simp only [rI_rI, rJ_rJ, hI_rI, hJ_rI, hI_rJ, hJ_rJ, hI_rR, hR_rI, hR_rJ, hN_rI, hN_rJ, svH_63, svH_66, rfH_63, wvH_63, wvH_62, wvH_67, wvH_68, wvH_69, sc_63, sc_n62, sc_n67, sc_n68, sc_n69, sc_n70, reduceIte, Nat.reduceEqDiff, eq_self, up_up, up_self, up_ne, ne_eq, not_false_eq_true, Int.reduceEq, Int.reduceNeg, hs_1, hs_2, hs_5, hs_10, hs_46, se_aI, se_aJ]; omega))
theorem m_L_write : MM 329 s_L_write := mm_of (own := 11) (by rfl) k_L_write (cl := [(172, s_X9_write)]) ⟨m_X9_write, trivial⟩ o_L_write
theorem bAnd_31 (x : Int) : 0 ≤ bAnd x 2147483647 := by
  have e : un x &&& un 2147483647 ≤ un 2147483647 := Nat.and_le_right
  rw [show un 2147483647 = 2147483647 by decide] at e
  rw [bAnd_nat (by rw [show un 2147483647 = 2147483647 by decide]; omega)]
  omega

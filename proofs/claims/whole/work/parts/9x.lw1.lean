/-! ===== the law: a method called, what it throws caught ===== -/
def RtL (Rt : Option AV → Hp → Prop) : Option AV → Hp → Prop := fun r g => match r with
  | some (.inl v) => Rt (some (.inl 0)) (rJ g 77 (up (hJ g 77) 0 (i2L v)))
  | _ => False
def RtB (Rt : Option AV → Hp → Prop) (x : Int64) : Hp → Prop := fun g => Rt (some (.inl 0)) (rJ g 77 (up (hJ g 77) 0 x))
/-- the code of a throw -/
def cd (a b c : Int) : Nat → Int
  | 0 => a
  | 1 => b
  | _ => c
def XL (c : Nat → Int) (Rt : Option AV → Hp → Prop) : Nat → Hp → Prop := fun k g => Rt (some (.inl (c k))) g
def s_L_variable : CS := (xc 2 12 5, ap [(3, 0), (0, 0), (3, 77)] (fun wd h Rt X =>
∃ w ps s, CI h w ps s ∧ (¬ (1 ≤ wd ∧ wd ≤ 8) → (XL (cd 1 2 0) Rt) 0 h) ∧ (1 ≤ wd ∧ wd ≤ 8 → (w 281 = 4 ∨ w 0 = 40 ∨ 16 < sumW w (w 281).toNat + wd) → Go h w ps s ((XL (cd 1 2 0) Rt) 1)) ∧ (1 ≤ wd ∧ wd ≤ 8 → ¬ (w 281 = 4 ∨ w 0 = 40 ∨ 16 < sumW w (w 281).toNat + wd) → Go h (varN w wd) (svPp ps s w) (svS s) ((RtL Rt) (some (.inl (w 0)))))))
set_option maxRecDepth 100000 in
set_option maxHeartbeats 4000000 in
theorem o_L_variable : Obl true 1 4 (sp [(136, s_X9_variable)]) hd_L_variable code_L_variable s_L_variable := by
  refine obl0x (by rfl) ?_
  intro wd r_wd h Rt X hh hf hs
  obtain ⟨w, ps, s, hC, k1, k2, k3⟩ := hs
  repeat' (first | apply And.intro | (with_reducible assumption) | (intro h9; first | (exfalso; omega) | (simp only [rI_rI, rJ_rJ, hI_rI, hJ_rI, hI_rJ, hJ_rJ, hI_rR, hR_rI, hR_rJ, hN_rI, hN_rJ, svH_63, svH_66, rfH_63, wvH_63, wvH_62, wvH_67, wvH_68, wvH_69, sc_63, sc_n62, sc_n67, sc_n68, sc_n69, sc_n70, reduceIte, Nat.reduceEqDiff, eq_self, up_up, up_self, up_ne, ne_eq, not_false_eq_true, Int.reduceEq, Int.reduceNeg] at h9; first | (exfalso; omega) | skip) | skip) | refine Exists.intro w (Exists.intro ps (Exists.intro s (And.intro hC ?_))) | exact k1 (by assumption) | exact k2 (by assumption) (by assumption) _ (by assumption) (by assumption) | exact k3 (by assumption) (by assumption) _ (by assumption) (by assumption) | exact hs | omega | exact True.intro | (simp only [rI_rI, rJ_rJ, hI_rI, hJ_rI, hI_rJ, hJ_rJ, hI_rR, hR_rI, hR_rJ, hN_rI, hN_rJ, svH_63, svH_66, rfH_63, wvH_63, wvH_62, wvH_67, wvH_68, wvH_69, sc_63, sc_n62, sc_n67, sc_n68, sc_n69, sc_n70, reduceIte, Nat.reduceEqDiff, eq_self, up_up, up_self, up_ne, ne_eq, not_false_eq_true, Int.reduceEq, Int.reduceNeg]; omega))
theorem m_L_variable : MM 302 s_L_variable := mm_of (own := 11) (by rfl) k_L_variable (cl := [(136, s_X9_variable)]) ⟨m_X9_variable, trivial⟩ o_L_variable
def s_L_constant : CS := (xc 2 12 5, ap [(3, 0), (0, 0), (0, 0), (3, 77)] (fun wd v h Rt X =>
∃ w ps s, CI h w ps s ∧ (¬ (1 ≤ wd ∧ wd ≤ 8 ∧ 0 ≤ v ∧ v ≤ p2 wd - 1) → (XL (cd 1 2 0) Rt) 0 h) ∧ (1 ≤ wd ∧ wd ≤ 8 ∧ 0 ≤ v ∧ v ≤ p2 wd - 1 → mkC h w ps s (mk1 w 0 wd (-1) (-1) (-1) v (-1)) (RtL Rt) (XL (cd 1 2 0) Rt))))
set_option maxRecDepth 100000 in
set_option maxHeartbeats 4000000 in
theorem o_L_constant : Obl true 1 5 (sp [(137, s_X9_constant)]) hd_L_constant code_L_constant s_L_constant := by
  refine obl0x (by rfl) ?_
  intro wd r_wd v r_v h Rt X hh hf hs
  obtain ⟨w, ps, s, hC, k1, k2⟩ := hs
  repeat' (first | apply And.intro | (with_reducible assumption) | (intro h9; first | (exfalso; omega) | (simp only [rI_rI, rJ_rJ, hI_rI, hJ_rI, hI_rJ, hJ_rJ, hI_rR, hR_rI, hR_rJ, hN_rI, hN_rJ, svH_63, svH_66, rfH_63, wvH_63, wvH_62, wvH_67, wvH_68, wvH_69, sc_63, sc_n62, sc_n67, sc_n68, sc_n69, sc_n70, reduceIte, Nat.reduceEqDiff, eq_self, up_up, up_self, up_ne, ne_eq, not_false_eq_true, Int.reduceEq, Int.reduceNeg] at h9; first | (exfalso; omega) | skip) | skip) | refine Exists.intro w (Exists.intro ps (Exists.intro s (And.intro hC ?_))) | exact k1 (by assumption) | exact (k2 (by assumption)).1 (by assumption) _ (by assumption) (by assumption) | exact (k2 (by assumption)).2 (by assumption) _ (by assumption) (by assumption) | exact hs | omega | exact True.intro | (simp only [rI_rI, rJ_rJ, hI_rI, hJ_rI, hI_rJ, hJ_rJ, hI_rR, hR_rI, hR_rJ, hN_rI, hN_rJ, svH_63, svH_66, rfH_63, wvH_63, wvH_62, wvH_67, wvH_68, wvH_69, sc_63, sc_n62, sc_n67, sc_n68, sc_n69, sc_n70, reduceIte, Nat.reduceEqDiff, eq_self, up_up, up_self, up_ne, ne_eq, not_false_eq_true, Int.reduceEq, Int.reduceNeg]; omega))
theorem m_L_constant : MM 303 s_L_constant := mm_of (own := 11) (by rfl) k_L_constant (cl := [(137, s_X9_constant)]) ⟨m_X9_constant, trivial⟩ o_L_constant
def s_L_binary : CS := (xc 4 24 6, ap [(3, 0), (0, 0), (0, 0), (0, 0), (3, 77)] (fun k a b h Rt X =>
∃ w ps s, CI h w ps s ∧ (¬ (2 ≤ k ∧ k ≤ 18) → (XL (cd 1 3 2) Rt) 0 h) ∧ (2 ≤ k ∧ k ≤ 18 → ¬ (0 ≤ a ∧ a < w 0 ∧ 0 ≤ b ∧ b < w 0) → (XL (cd 1 3 2) Rt) 2 h) ∧ (2 ≤ k ∧ k ≤ 18 → 0 ≤ a ∧ a < w 0 ∧ 0 ≤ b ∧ b < w 0 → ¬ bFit w k a b → (XL (cd 1 3 2) Rt) 1 h) ∧ (2 ≤ k ∧ k ≤ 18 → 0 ≤ a ∧ a < w 0 ∧ 0 ≤ b ∧ b < w 0 → bFit w k a b → mkC h w ps s (mk1 w k (bW w k a b) a b (-1) (-1) (-1)) (RtL Rt) (XL (cd 1 3 2) Rt))))
set_option maxRecDepth 100000 in
set_option maxHeartbeats 4000000 in
theorem o_L_binary : Obl true 1 6 (sp [(138, s_X9_binary)]) hd_L_binary code_L_binary s_L_binary := by
  refine obl0x (by rfl) ?_
  intro k r_k a r_a b r_b h Rt X hh hf hs
  obtain ⟨w, ps, s, hC, k1, k2, k3, k4⟩ := hs
  repeat' (first | apply And.intro | (with_reducible assumption) | (intro h9; first | (exfalso; omega) | (simp only [rI_rI, rJ_rJ, hI_rI, hJ_rI, hI_rJ, hJ_rJ, hI_rR, hR_rI, hR_rJ, hN_rI, hN_rJ, svH_63, svH_66, rfH_63, wvH_63, wvH_62, wvH_67, wvH_68, wvH_69, sc_63, sc_n62, sc_n67, sc_n68, sc_n69, sc_n70, reduceIte, Nat.reduceEqDiff, eq_self, up_up, up_self, up_ne, ne_eq, not_false_eq_true, Int.reduceEq, Int.reduceNeg] at h9; first | (exfalso; omega) | skip) | skip) | refine Exists.intro w (Exists.intro ps (Exists.intro s (And.intro hC ?_))) | exact k1 (by assumption) | exact k2 (by assumption) (by assumption) | exact k3 (by assumption) (by assumption) (by assumption) | exact (k4 (by assumption) (by assumption) (by assumption)).1 (by assumption) _ (by assumption) (by assumption) | exact (k4 (by assumption) (by assumption) (by assumption)).2 (by assumption) _ (by assumption) (by assumption) | exact hs | omega | exact True.intro | (simp only [rI_rI, rJ_rJ, hI_rI, hJ_rI, hI_rJ, hJ_rJ, hI_rR, hR_rI, hR_rJ, hN_rI, hN_rJ, svH_63, svH_66, rfH_63, wvH_63, wvH_62, wvH_67, wvH_68, wvH_69, sc_63, sc_n62, sc_n67, sc_n68, sc_n69, sc_n70, reduceIte, Nat.reduceEqDiff, eq_self, up_up, up_self, up_ne, ne_eq, not_false_eq_true, Int.reduceEq, Int.reduceNeg]; omega))
theorem m_L_binary : MM 304 s_L_binary := mm_of (own := 11) (by rfl) k_L_binary (cl := [(138, s_X9_binary)]) ⟨m_X9_binary, trivial⟩ o_L_binary
def s_L_unary : CS := (xc 3 18 5, ap [(3, 0), (0, 0), (0, 0), (3, 77)] (fun k a h Rt X =>
∃ w ps s, CI h w ps s ∧ (¬ (19 ≤ k ∧ k ≤ 20) → (XL (cd 1 3 2) Rt) 0 h) ∧ (19 ≤ k ∧ k ≤ 20 → ¬ (0 ≤ a ∧ a < w 0) → (XL (cd 1 3 2) Rt) 2 h) ∧ (19 ≤ k ∧ k ≤ 20 → 0 ≤ a ∧ a < w 0 → mkC h w ps s (mk1 w k (nd w a 1) a (-1) (-1) (-1) (-1)) (RtL Rt) (XL (cd 1 3 2) Rt))))
set_option maxRecDepth 100000 in
set_option maxHeartbeats 4000000 in
theorem o_L_unary : Obl true 1 5 (sp [(139, s_X9_unary)]) hd_L_unary code_L_unary s_L_unary := by
  refine obl0x (by rfl) ?_
  intro k r_k a r_a h Rt X hh hf hs
  obtain ⟨w, ps, s, hC, k1, k2, k3⟩ := hs
  repeat' (first | apply And.intro | (with_reducible assumption) | (intro h9; first | (exfalso; omega) | (simp only [rI_rI, rJ_rJ, hI_rI, hJ_rI, hI_rJ, hJ_rJ, hI_rR, hR_rI, hR_rJ, hN_rI, hN_rJ, svH_63, svH_66, rfH_63, wvH_63, wvH_62, wvH_67, wvH_68, wvH_69, sc_63, sc_n62, sc_n67, sc_n68, sc_n69, sc_n70, reduceIte, Nat.reduceEqDiff, eq_self, up_up, up_self, up_ne, ne_eq, not_false_eq_true, Int.reduceEq, Int.reduceNeg] at h9; first | (exfalso; omega) | skip) | skip) | refine Exists.intro w (Exists.intro ps (Exists.intro s (And.intro hC ?_))) | exact k1 (by assumption) | exact k2 (by assumption) (by assumption) | exact (k3 (by assumption) (by assumption)).1 (by assumption) _ (by assumption) (by assumption) | exact (k3 (by assumption) (by assumption)).2 (by assumption) _ (by assumption) (by assumption) | exact hs | omega | exact True.intro | (simp only [rI_rI, rJ_rJ, hI_rI, hJ_rI, hI_rJ, hJ_rJ, hI_rR, hR_rI, hR_rJ, hN_rI, hN_rJ, svH_63, svH_66, rfH_63, wvH_63, wvH_62, wvH_67, wvH_68, wvH_69, sc_63, sc_n62, sc_n67, sc_n68, sc_n69, sc_n70, reduceIte, Nat.reduceEqDiff, eq_self, up_up, up_self, up_ne, ne_eq, not_false_eq_true, Int.reduceEq, Int.reduceNeg]; omega))
theorem m_L_unary : MM 305 s_L_unary := mm_of (own := 11) (by rfl) k_L_unary (cl := [(139, s_X9_unary)]) ⟨m_X9_unary, trivial⟩ o_L_unary
def s_L_slice : CS := (xc 3 18 6, ap [(3, 0), (0, 0), (0, 0), (0, 0), (3, 77)] (fun a hi lo h Rt X =>
∃ w ps s, CI h w ps s ∧ (¬ (0 ≤ a ∧ a < w 0) → (XL (cd 2 3 1) Rt) 2 h) ∧ (0 ≤ a ∧ a < w 0 → ¬ (0 ≤ lo ∧ lo ≤ hi ∧ hi < nd w a 1) → (XL (cd 2 3 1) Rt) 0 h) ∧ (0 ≤ a ∧ a < w 0 → 0 ≤ lo ∧ lo ≤ hi ∧ hi < nd w a 1 → mkC h w ps s (mk1 w 21 (hi - lo + 1) a (-1) (-1) hi lo) (RtL Rt) (XL (cd 2 3 1) Rt))))
set_option maxRecDepth 100000 in
set_option maxHeartbeats 4000000 in
theorem o_L_slice : Obl true 1 6 (sp [(140, s_X9_slice)]) hd_L_slice code_L_slice s_L_slice := by
  refine obl0x (by rfl) ?_
  intro a r_a hi r_hi lo r_lo h Rt X hh hf hs
  obtain ⟨w, ps, s, hC, k1, k2, k3⟩ := hs
  repeat' (first | apply And.intro | (with_reducible assumption) | (intro h9; first | (exfalso; omega) | (simp only [rI_rI, rJ_rJ, hI_rI, hJ_rI, hI_rJ, hJ_rJ, hI_rR, hR_rI, hR_rJ, hN_rI, hN_rJ, svH_63, svH_66, rfH_63, wvH_63, wvH_62, wvH_67, wvH_68, wvH_69, sc_63, sc_n62, sc_n67, sc_n68, sc_n69, sc_n70, reduceIte, Nat.reduceEqDiff, eq_self, up_up, up_self, up_ne, ne_eq, not_false_eq_true, Int.reduceEq, Int.reduceNeg] at h9; first | (exfalso; omega) | skip) | skip) | refine Exists.intro w (Exists.intro ps (Exists.intro s (And.intro hC ?_))) | exact k1 (by assumption) | exact k2 (by assumption) (by assumption) | exact (k3 (by assumption) (by assumption)).1 (by assumption) _ (by assumption) (by assumption) | exact (k3 (by assumption) (by assumption)).2 (by assumption) _ (by assumption) (by assumption) | exact hs | omega | exact True.intro | (simp only [rI_rI, rJ_rJ, hI_rI, hJ_rI, hI_rJ, hJ_rJ, hI_rR, hR_rI, hR_rJ, hN_rI, hN_rJ, svH_63, svH_66, rfH_63, wvH_63, wvH_62, wvH_67, wvH_68, wvH_69, sc_63, sc_n62, sc_n67, sc_n68, sc_n69, sc_n70, reduceIte, Nat.reduceEqDiff, eq_self, up_up, up_self, up_ne, ne_eq, not_false_eq_true, Int.reduceEq, Int.reduceNeg]; omega))
theorem m_L_slice : MM 306 s_L_slice := mm_of (own := 11) (by rfl) k_L_slice (cl := [(140, s_X9_slice)]) ⟨m_X9_slice, trivial⟩ o_L_slice
def s_L_extend : CS := (xc 3 18 6, ap [(3, 0), (0, 0), (0, 0), (0, 0), (3, 77)] (fun a wd g h Rt X =>
∃ w ps s, CI h w ps s ∧ (¬ (0 ≤ a ∧ a < w 0) → (XL (cd 2 3 1) Rt) 2 h) ∧ (0 ≤ a ∧ a < w 0 → ¬ (nd w a 1 < wd ∧ wd ≤ 8) → (XL (cd 2 3 1) Rt) 0 h) ∧ (0 ≤ a ∧ a < w 0 → nd w a 1 < wd ∧ wd ≤ 8 → mkC h w ps s (mk1 w (if g = 0 then 22 else 23) wd a (-1) (-1) (-1) (-1)) (RtL Rt) (XL (cd 2 3 1) Rt))))
set_option maxRecDepth 100000 in
set_option maxHeartbeats 4000000 in
theorem o_L_extend : Obl true 1 6 (sp [(141, s_X9_extend)]) hd_L_extend code_L_extend s_L_extend := by
  refine obl0x (by rfl) ?_
  intro a r_a wd r_wd g r_g h Rt X hh hf hs
  obtain ⟨w, ps, s, hC, k1, k2, k3⟩ := hs
  repeat' (first | apply And.intro | (with_reducible assumption) | (intro h9; first | (exfalso; omega) | (simp only [rI_rI, rJ_rJ, hI_rI, hJ_rI, hI_rJ, hJ_rJ, hI_rR, hR_rI, hR_rJ, hN_rI, hN_rJ, svH_63, svH_66, rfH_63, wvH_63, wvH_62, wvH_67, wvH_68, wvH_69, sc_63, sc_n62, sc_n67, sc_n68, sc_n69, sc_n70, reduceIte, Nat.reduceEqDiff, eq_self, up_up, up_self, up_ne, ne_eq, not_false_eq_true, Int.reduceEq, Int.reduceNeg] at h9; first | (exfalso; omega) | skip) | skip) | refine Exists.intro w (Exists.intro ps (Exists.intro s (And.intro hC ?_))) | exact k1 (by assumption) | exact k2 (by assumption) (by assumption) | exact (k3 (by assumption) (by assumption)).1 (by assumption) _ (by assumption) (by assumption) | exact (k3 (by assumption) (by assumption)).2 (by assumption) _ (by assumption) (by assumption) | exact hs | omega | exact True.intro | (simp only [rI_rI, rJ_rJ, hI_rI, hJ_rI, hI_rJ, hJ_rJ, hI_rR, hR_rI, hR_rJ, hN_rI, hN_rJ, svH_63, svH_66, rfH_63, wvH_63, wvH_62, wvH_67, wvH_68, wvH_69, sc_63, sc_n62, sc_n67, sc_n68, sc_n69, sc_n70, reduceIte, Nat.reduceEqDiff, eq_self, up_up, up_self, up_ne, ne_eq, not_false_eq_true, Int.reduceEq, Int.reduceNeg]; omega))
theorem m_L_extend : MM 307 s_L_extend := mm_of (own := 11) (by rfl) k_L_extend (cl := [(141, s_X9_extend)]) ⟨m_X9_extend, trivial⟩ o_L_extend
def s_L_choice : CS := (xc 4 24 5, ap [(3, 0), (0, 0), (0, 0), (0, 0), (3, 77)] (fun a b c h Rt X =>
∃ w ps s, CI h w ps s ∧ (¬ (0 ≤ a ∧ a < w 0 ∧ 0 ≤ b ∧ b < w 0 ∧ 0 ≤ c ∧ c < w 0) → (XL (cd 0 2 1) Rt) 2 h) ∧ (0 ≤ a ∧ a < w 0 ∧ 0 ≤ b ∧ b < w 0 ∧ 0 ≤ c ∧ c < w 0 → ¬ (nd w a 1 = 1 ∧ nd w b 1 = nd w c 1) → (XL (cd 0 2 1) Rt) 1 h) ∧ (0 ≤ a ∧ a < w 0 ∧ 0 ≤ b ∧ b < w 0 ∧ 0 ≤ c ∧ c < w 0 → nd w a 1 = 1 ∧ nd w b 1 = nd w c 1 → mkC h w ps s (mk1 w 24 (nd w b 1) a b c (-1) (-1)) (RtL Rt) (XL (cd 0 2 1) Rt))))
set_option maxRecDepth 100000 in
set_option maxHeartbeats 4000000 in
theorem o_L_choice : Obl true 1 6 (sp [(142, s_X9_choice)]) hd_L_choice code_L_choice s_L_choice := by
  refine obl0x (by rfl) ?_
  intro a r_a b r_b c r_c h Rt X hh hf hs
  obtain ⟨w, ps, s, hC, k1, k2, k3⟩ := hs
  repeat' (first | apply And.intro | (with_reducible assumption) | (intro h9; first | (exfalso; omega) | (simp only [rI_rI, rJ_rJ, hI_rI, hJ_rI, hI_rJ, hJ_rJ, hI_rR, hR_rI, hR_rJ, hN_rI, hN_rJ, svH_63, svH_66, rfH_63, wvH_63, wvH_62, wvH_67, wvH_68, wvH_69, sc_63, sc_n62, sc_n67, sc_n68, sc_n69, sc_n70, reduceIte, Nat.reduceEqDiff, eq_self, up_up, up_self, up_ne, ne_eq, not_false_eq_true, Int.reduceEq, Int.reduceNeg] at h9; first | (exfalso; omega) | skip) | skip) | refine Exists.intro w (Exists.intro ps (Exists.intro s (And.intro hC ?_))) | exact k1 (by assumption) | exact k2 (by assumption) (by assumption) | exact (k3 (by assumption) (by assumption)).1 (by assumption) _ (by assumption) (by assumption) | exact (k3 (by assumption) (by assumption)).2 (by assumption) _ (by assumption) (by assumption) | exact hs | omega | exact True.intro | (simp only [rI_rI, rJ_rJ, hI_rI, hJ_rI, hI_rJ, hJ_rJ, hI_rR, hR_rI, hR_rJ, hN_rI, hN_rJ, svH_63, svH_66, rfH_63, wvH_63, wvH_62, wvH_67, wvH_68, wvH_69, sc_63, sc_n62, sc_n67, sc_n68, sc_n69, sc_n70, reduceIte, Nat.reduceEqDiff, eq_self, up_up, up_self, up_ne, ne_eq, not_false_eq_true, Int.reduceEq, Int.reduceNeg]; omega))
theorem m_L_choice : MM 308 s_L_choice := mm_of (own := 11) (by rfl) k_L_choice (cl := [(142, s_X9_choice)]) ⟨m_X9_choice, trivial⟩ o_L_choice
def s_L_info : CS := (xc 2 12 4, ap [(3, 0), (0, 0), (0, 0), (3, 77)] (fun n x h Rt X =>
∃ w ps s, CI h w ps s ∧ (¬ (0 ≤ n ∧ n < w 0) → (XL (cd 2 0 1) Rt) 2 h) ∧ (0 ≤ n ∧ n < w 0 → ¬ (0 ≤ x ∧ x ≤ 8) → (XL (cd 2 0 1) Rt) 0 h) ∧ (0 ≤ n ∧ n < w 0 → 0 ≤ x ∧ x ≤ 8 → (RtL Rt) (some (.inl (toldW w n x))) h)))
set_option maxRecDepth 100000 in
set_option maxHeartbeats 4000000 in
theorem o_L_info : Obl true 1 5 (sp [(145, s_X9_info)]) hd_L_info code_L_info s_L_info := by
  refine obl0x (by rfl) ?_
  intro n r_n x r_x h Rt X hh hf hs
  obtain ⟨w, ps, s, hC, k1, k2, k3⟩ := hs
  repeat' (first | apply And.intro | (with_reducible assumption) | (intro h9; first | (exfalso; omega) | (simp only [rI_rI, rJ_rJ, hI_rI, hJ_rI, hI_rJ, hJ_rJ, hI_rR, hR_rI, hR_rJ, hN_rI, hN_rJ, svH_63, svH_66, rfH_63, wvH_63, wvH_62, wvH_67, wvH_68, wvH_69, sc_63, sc_n62, sc_n67, sc_n68, sc_n69, sc_n70, reduceIte, Nat.reduceEqDiff, eq_self, up_up, up_self, up_ne, ne_eq, not_false_eq_true, Int.reduceEq, Int.reduceNeg] at h9; first | (exfalso; omega) | skip) | skip) | refine Exists.intro w (Exists.intro ps (Exists.intro s (And.intro hC ?_))) | exact k1 (by assumption) | exact k2 (by assumption) (by assumption) | exact k3 (by assumption) (by assumption) | exact hs | omega | exact True.intro | (simp only [rI_rI, rJ_rJ, hI_rI, hJ_rI, hI_rJ, hJ_rJ, hI_rR, hR_rI, hR_rJ, hN_rI, hN_rJ, svH_63, svH_66, rfH_63, wvH_63, wvH_62, wvH_67, wvH_68, wvH_69, sc_63, sc_n62, sc_n67, sc_n68, sc_n69, sc_n70, reduceIte, Nat.reduceEqDiff, eq_self, up_up, up_self, up_ne, ne_eq, not_false_eq_true, Int.reduceEq, Int.reduceNeg]; omega))
theorem m_L_info : MM 309 s_L_info := mm_of (own := 11) (by rfl) k_L_info (cl := [(145, s_X9_info)]) ⟨m_X9_info, trivial⟩ o_L_info
def s_L_input : CS := (xc 2 12 5, ap [(3, 0), (0, 0), (0, 0), (3, 77)] (fun v x h Rt X =>
∃ w ps s, CI h w ps s ∧ (¬ (0 ≤ v ∧ v < w 281) → (XL (cd 2 0 1) Rt) 2 h) ∧ (0 ≤ v ∧ v < w 281 → ¬ (0 ≤ x ∧ x ≤ p2 (nd w (w (282 + v)) 1) - 1) → (XL (cd 2 0 1) Rt) 0 h) ∧ (0 ≤ v ∧ v < w 281 → 0 ≤ x ∧ x ≤ p2 (nd w (w (282 + v)) 1) - 1 → Go h (inW w v x) (svPp ps s w) (svS s) ((RtL Rt) (some (.inl (w (286 + v))))))))
set_option maxRecDepth 100000 in
set_option maxHeartbeats 4000000 in
theorem o_L_input : Obl true 1 5 (sp [(146, s_X9_input)]) hd_L_input code_L_input s_L_input := by
  refine obl0x (by rfl) ?_
  intro v r_v x r_x h Rt X hh hf hs
  obtain ⟨w, ps, s, hC, k1, k2, k3⟩ := hs
  repeat' (first | apply And.intro | (with_reducible assumption) | (intro h9; first | (exfalso; omega) | (simp only [rI_rI, rJ_rJ, hI_rI, hJ_rI, hI_rJ, hJ_rJ, hI_rR, hR_rI, hR_rJ, hN_rI, hN_rJ, svH_63, svH_66, rfH_63, wvH_63, wvH_62, wvH_67, wvH_68, wvH_69, sc_63, sc_n62, sc_n67, sc_n68, sc_n69, sc_n70, reduceIte, Nat.reduceEqDiff, eq_self, up_up, up_self, up_ne, ne_eq, not_false_eq_true, Int.reduceEq, Int.reduceNeg] at h9; first | (exfalso; omega) | skip) | skip) | refine Exists.intro w (Exists.intro ps (Exists.intro s (And.intro hC ?_))) | exact k1 (by assumption) | exact k2 (by assumption) (by assumption) | exact k3 (by assumption) (by assumption) _ (by assumption) (by assumption) | exact hs | omega | exact True.intro | (simp only [rI_rI, rJ_rJ, hI_rI, hJ_rI, hI_rJ, hJ_rJ, hI_rR, hR_rI, hR_rJ, hN_rI, hN_rJ, svH_63, svH_66, rfH_63, wvH_63, wvH_62, wvH_67, wvH_68, wvH_69, sc_63, sc_n62, sc_n67, sc_n68, sc_n69, sc_n70, reduceIte, Nat.reduceEqDiff, eq_self, up_up, up_self, up_ne, ne_eq, not_false_eq_true, Int.reduceEq, Int.reduceNeg]; omega))
theorem m_L_input : MM 310 s_L_input := mm_of (own := 11) (by rfl) k_L_input (cl := [(146, s_X9_input)]) ⟨m_X9_input, trivial⟩ o_L_input
def s_L_value : CS := (xc 1 6 6, ap [(3, 0), (0, 0), (0, 0), (3, 77)] (fun n g h Rt X =>
∃ w ps s, CI h w ps s ∧ (¬ (0 ≤ n ∧ n < w 0) → (XL (cd 0 0 1) Rt) 2 h) ∧ (0 ≤ n ∧ n < w 0 → Go h w ps s ((RtL Rt) (some (.inl (rd w n g (vl w (fun v => w (286 + v)) n))))))))
set_option maxRecDepth 100000 in
set_option maxHeartbeats 4000000 in
theorem o_L_value : Obl true 1 5 (sp [(147, s_X9_value)]) hd_L_value code_L_value s_L_value := by
  refine obl0x (by rfl) ?_
  intro n r_n g r_g h Rt X hh hf hs
  obtain ⟨w, ps, s, hC, k1, k2⟩ := hs
  repeat' (first | apply And.intro | (with_reducible assumption) | (intro h9; first | (exfalso; omega) | (simp only [rI_rI, rJ_rJ, hI_rI, hJ_rI, hI_rJ, hJ_rJ, hI_rR, hR_rI, hR_rJ, hN_rI, hN_rJ, svH_63, svH_66, rfH_63, wvH_63, wvH_62, wvH_67, wvH_68, wvH_69, sc_63, sc_n62, sc_n67, sc_n68, sc_n69, sc_n70, reduceIte, Nat.reduceEqDiff, eq_self, up_up, up_self, up_ne, ne_eq, not_false_eq_true, Int.reduceEq, Int.reduceNeg] at h9; first | (exfalso; omega) | skip) | skip) | refine Exists.intro w (Exists.intro ps (Exists.intro s (And.intro hC ?_))) | exact k1 (by assumption) | exact k2 (by assumption) _ (by assumption) (by assumption) | exact hs | omega | exact True.intro | (simp only [rI_rI, rJ_rJ, hI_rI, hJ_rI, hI_rJ, hJ_rJ, hI_rR, hR_rI, hR_rJ, hN_rI, hN_rJ, svH_63, svH_66, rfH_63, wvH_63, wvH_62, wvH_67, wvH_68, wvH_69, sc_63, sc_n62, sc_n67, sc_n68, sc_n69, sc_n70, reduceIte, Nat.reduceEqDiff, eq_self, up_up, up_self, up_ne, ne_eq, not_false_eq_true, Int.reduceEq, Int.reduceNeg]; omega))
theorem m_L_value : MM 311 s_L_value := mm_of (own := 11) (by rfl) k_L_value (cl := [(147, s_X9_value)]) ⟨m_X9_value, trivial⟩ o_L_value
def s_L_require : CS := (xc 2 12 5, ap [(3, 0), (0, 0), (3, 77)] (fun n h Rt X =>
∃ w ps s, CI h w ps s ∧ (¬ (0 ≤ n ∧ n < w 0) → (XL (cd 2 3 1) Rt) 2 h) ∧ (0 ≤ n ∧ n < w 0 → nd w n 1 ≠ 1 → (XL (cd 2 3 1) Rt) 0 h) ∧ (0 ≤ n ∧ n < w 0 → nd w n 1 = 1 → w 290 = 20 → (XL (cd 2 3 1) Rt) 1 h) ∧ (0 ≤ n ∧ n < w 0 → nd w n 1 = 1 → w 290 ≠ 20 → Go h (reqW w n) (svPp ps s w) (svS s) ((RtL Rt) (some (.inl (w 290)))))))
set_option maxRecDepth 100000 in
set_option maxHeartbeats 4000000 in
theorem o_L_require : Obl true 1 4 (sp [(148, s_X9_require)]) hd_L_require code_L_require s_L_require := by
  refine obl0x (by rfl) ?_
  intro n r_n h Rt X hh hf hs
  obtain ⟨w, ps, s, hC, k1, k2, k3, k4⟩ := hs
  repeat' (first | apply And.intro | (with_reducible assumption) | (intro h9; first | (exfalso; omega) | (simp only [rI_rI, rJ_rJ, hI_rI, hJ_rI, hI_rJ, hJ_rJ, hI_rR, hR_rI, hR_rJ, hN_rI, hN_rJ, svH_63, svH_66, rfH_63, wvH_63, wvH_62, wvH_67, wvH_68, wvH_69, sc_63, sc_n62, sc_n67, sc_n68, sc_n69, sc_n70, reduceIte, Nat.reduceEqDiff, eq_self, up_up, up_self, up_ne, ne_eq, not_false_eq_true, Int.reduceEq, Int.reduceNeg] at h9; first | (exfalso; omega) | skip) | skip) | refine Exists.intro w (Exists.intro ps (Exists.intro s (And.intro hC ?_))) | exact k1 (by assumption) | exact k2 (by assumption) (by assumption) | exact k3 (by assumption) (by assumption) (by assumption) | exact k4 (by assumption) (by assumption) (by assumption) _ (by assumption) (by assumption) | exact hs | omega | exact True.intro | (simp only [rI_rI, rJ_rJ, hI_rI, hJ_rI, hI_rJ, hJ_rJ, hI_rR, hR_rI, hR_rJ, hN_rI, hN_rJ, svH_63, svH_66, rfH_63, wvH_63, wvH_62, wvH_67, wvH_68, wvH_69, sc_63, sc_n62, sc_n67, sc_n68, sc_n69, sc_n70, reduceIte, Nat.reduceEqDiff, eq_self, up_up, up_self, up_ne, ne_eq, not_false_eq_true, Int.reduceEq, Int.reduceNeg]; omega))
theorem m_L_require : MM 312 s_L_require := mm_of (own := 11) (by rfl) k_L_require (cl := [(148, s_X9_require)]) ⟨m_X9_require, trivial⟩ o_L_require
def s_L_push : CS := (xc 1 6 5, ap [(3, 0), (3, 77)] (fun  h Rt X =>
∃ w ps s, CI h w ps s ∧ (w 331 = 5 → (XL (cd 0 1 0) Rt) 1 h) ∧ (w 331 ≠ 5 → Go h (up w 331 (w 331 + 1)) (svPp ps s w) (svS s) ((RtL Rt) (some (.inl (w 331 + 1)))))))
set_option maxRecDepth 100000 in
set_option maxHeartbeats 4000000 in
theorem o_L_push : Obl true 1 3 (sp [(149, s_X9_push)]) hd_L_push code_L_push s_L_push := by
  refine obl0x (by rfl) ?_
  intro  h Rt X hh hf hs
  obtain ⟨w, ps, s, hC, k1, k2⟩ := hs
  repeat' (first | apply And.intro | (with_reducible assumption) | (intro h9; first | (exfalso; omega) | (simp only [rI_rI, rJ_rJ, hI_rI, hJ_rI, hI_rJ, hJ_rJ, hI_rR, hR_rI, hR_rJ, hN_rI, hN_rJ, svH_63, svH_66, rfH_63, wvH_63, wvH_62, wvH_67, wvH_68, wvH_69, sc_63, sc_n62, sc_n67, sc_n68, sc_n69, sc_n70, reduceIte, Nat.reduceEqDiff, eq_self, up_up, up_self, up_ne, ne_eq, not_false_eq_true, Int.reduceEq, Int.reduceNeg] at h9; first | (exfalso; omega) | skip) | skip) | refine Exists.intro w (Exists.intro ps (Exists.intro s (And.intro hC ?_))) | exact k1 (by assumption) | exact k2 (by assumption) _ (by assumption) (by assumption) | exact hs | omega | exact True.intro | (simp only [rI_rI, rJ_rJ, hI_rI, hJ_rI, hI_rJ, hJ_rJ, hI_rR, hR_rI, hR_rJ, hN_rI, hN_rJ, svH_63, svH_66, rfH_63, wvH_63, wvH_62, wvH_67, wvH_68, wvH_69, sc_63, sc_n62, sc_n67, sc_n68, sc_n69, sc_n70, reduceIte, Nat.reduceEqDiff, eq_self, up_up, up_self, up_ne, ne_eq, not_false_eq_true, Int.reduceEq, Int.reduceNeg]; omega))
theorem m_L_push : MM 313 s_L_push := mm_of (own := 11) (by rfl) k_L_push (cl := [(149, s_X9_push)]) ⟨m_X9_push, trivial⟩ o_L_push
def s_L_pop : CS := (xc 1 6 5, ap [(3, 0), (3, 77)] (fun  h Rt X =>
∃ w ps s, CI h w ps s ∧ (w 331 = 0 → (XL (cd 0 1 0) Rt) 1 h) ∧ (w 331 ≠ 0 → Go h (popW w) (svPp ps s w) (svS s) ((RtL Rt) (some (.inl (w 290 - lft w (w 290).toNat)))))))
set_option maxRecDepth 100000 in
set_option maxHeartbeats 4000000 in
theorem o_L_pop : Obl true 1 3 (sp [(150, s_X9_pop)]) hd_L_pop code_L_pop s_L_pop := by
  refine obl0x (by rfl) ?_
  intro  h Rt X hh hf hs
  obtain ⟨w, ps, s, hC, k1, k2⟩ := hs
  repeat' (first | apply And.intro | (with_reducible assumption) | (intro h9; first | (exfalso; omega) | (simp only [rI_rI, rJ_rJ, hI_rI, hJ_rI, hI_rJ, hJ_rJ, hI_rR, hR_rI, hR_rJ, hN_rI, hN_rJ, svH_63, svH_66, rfH_63, wvH_63, wvH_62, wvH_67, wvH_68, wvH_69, sc_63, sc_n62, sc_n67, sc_n68, sc_n69, sc_n70, reduceIte, Nat.reduceEqDiff, eq_self, up_up, up_self, up_ne, ne_eq, not_false_eq_true, Int.reduceEq, Int.reduceNeg] at h9; first | (exfalso; omega) | skip) | skip) | refine Exists.intro w (Exists.intro ps (Exists.intro s (And.intro hC ?_))) | exact k1 (by assumption) | exact k2 (by assumption) _ (by assumption) (by assumption) | exact hs | omega | exact True.intro | (simp only [rI_rI, rJ_rJ, hI_rI, hJ_rI, hI_rJ, hJ_rJ, hI_rR, hR_rI, hR_rJ, hN_rI, hN_rJ, svH_63, svH_66, rfH_63, wvH_63, wvH_62, wvH_67, wvH_68, wvH_69, sc_63, sc_n62, sc_n67, sc_n68, sc_n69, sc_n70, reduceIte, Nat.reduceEqDiff, eq_self, up_up, up_self, up_ne, ne_eq, not_false_eq_true, Int.reduceEq, Int.reduceNeg]; omega))
theorem m_L_pop : MM 314 s_L_pop := mm_of (own := 11) (by rfl) k_L_pop (cl := [(150, s_X9_pop)]) ⟨m_X9_pop, trivial⟩ o_L_pop
def s_L_constraint : CS := (xc 1 6 2, ap [(3, 0), (0, 0), (0, 0), (3, 77)] (fun k g h Rt X =>
∃ w ps s, CI h w ps s ∧ (¬ (0 ≤ k ∧ k < w 290) → (XL (cd 0 0 1) Rt) 2 h) ∧ (0 ≤ k ∧ k < w 290 → g ≠ 0 → (RtL Rt) (some (.inl (w (311 + k)))) h) ∧ (0 ≤ k ∧ k < w 290 → g = 0 → (RtL Rt) (some (.inl (w (291 + k)))) h)))
set_option maxRecDepth 100000 in
set_option maxHeartbeats 4000000 in
theorem o_L_constraint : Obl true 1 5 (sp [(152, s_X9_constraint)]) hd_L_constraint code_L_constraint s_L_constraint := by
  refine obl0x (by rfl) ?_
  intro k r_k g r_g h Rt X hh hf hs
  obtain ⟨w, ps, s, hC, k1, k2, k3⟩ := hs
  repeat' (first | apply And.intro | (with_reducible assumption) | (intro h9; first | (exfalso; omega) | (simp only [rI_rI, rJ_rJ, hI_rI, hJ_rI, hI_rJ, hJ_rJ, hI_rR, hR_rI, hR_rJ, hN_rI, hN_rJ, svH_63, svH_66, rfH_63, wvH_63, wvH_62, wvH_67, wvH_68, wvH_69, sc_63, sc_n62, sc_n67, sc_n68, sc_n69, sc_n70, reduceIte, Nat.reduceEqDiff, eq_self, up_up, up_self, up_ne, ne_eq, not_false_eq_true, Int.reduceEq, Int.reduceNeg] at h9; first | (exfalso; omega) | skip) | skip) | refine Exists.intro w (Exists.intro ps (Exists.intro s (And.intro hC ?_))) | exact k1 (by assumption) | exact k2 (by assumption) (by assumption) | exact k3 (by assumption) (by assumption) | exact hs | omega | exact True.intro | (simp only [rI_rI, rJ_rJ, hI_rI, hJ_rI, hI_rJ, hJ_rJ, hI_rR, hR_rI, hR_rJ, hN_rI, hN_rJ, svH_63, svH_66, rfH_63, wvH_63, wvH_62, wvH_67, wvH_68, wvH_69, sc_63, sc_n62, sc_n67, sc_n68, sc_n69, sc_n70, reduceIte, Nat.reduceEqDiff, eq_self, up_up, up_self, up_ne, ne_eq, not_false_eq_true, Int.reduceEq, Int.reduceNeg]; omega))
theorem m_L_constraint : MM 315 s_L_constraint := mm_of (own := 11) (by rfl) k_L_constraint (cl := [(152, s_X9_constraint)]) ⟨m_X9_constraint, trivial⟩ o_L_constraint
def s_L_witness : CS := (xc 1 6 8, ap [(3, 0), (0, 0), (3, 77)] (fun v h Rt X =>
∃ w ps s, CI h w ps s ∧ (¬ (0 ≤ v ∧ v < w 281) → (XL (cd 0 0 1) Rt) 2 h) ∧ (0 ≤ v ∧ v < w 281 → Go h w ps s ((RtL Rt) (some (.inl (wrd w (nxt w 0) v)))))))
set_option maxRecDepth 100000 in
set_option maxHeartbeats 4000000 in
theorem o_L_witness : Obl true 1 4 (sp [(154, s_X9_witness)]) hd_L_witness code_L_witness s_L_witness := by
  refine obl0x (by rfl) ?_
  intro v r_v h Rt X hh hf hs
  obtain ⟨w, ps, s, hC, k1, k2⟩ := hs
  repeat' (first | apply And.intro | (with_reducible assumption) | (intro h9; first | (exfalso; omega) | (simp only [rI_rI, rJ_rJ, hI_rI, hJ_rI, hI_rJ, hJ_rJ, hI_rR, hR_rI, hR_rJ, hN_rI, hN_rJ, svH_63, svH_66, rfH_63, wvH_63, wvH_62, wvH_67, wvH_68, wvH_69, sc_63, sc_n62, sc_n67, sc_n68, sc_n69, sc_n70, reduceIte, Nat.reduceEqDiff, eq_self, up_up, up_self, up_ne, ne_eq, not_false_eq_true, Int.reduceEq, Int.reduceNeg] at h9; first | (exfalso; omega) | skip) | skip) | refine Exists.intro w (Exists.intro ps (Exists.intro s (And.intro hC ?_))) | exact k1 (by assumption) | exact k2 (by assumption) _ (by assumption) (by assumption) | exact hs | omega | exact True.intro | (simp only [rI_rI, rJ_rJ, hI_rI, hJ_rI, hI_rJ, hJ_rJ, hI_rR, hR_rI, hR_rJ, hN_rI, hN_rJ, svH_63, svH_66, rfH_63, wvH_63, wvH_62, wvH_67, wvH_68, wvH_69, sc_63, sc_n62, sc_n67, sc_n68, sc_n69, sc_n70, reduceIte, Nat.reduceEqDiff, eq_self, up_up, up_self, up_ne, ne_eq, not_false_eq_true, Int.reduceEq, Int.reduceNeg]; omega))
theorem m_L_witness : MM 316 s_L_witness := mm_of (own := 11) (by rfl) k_L_witness (cl := [(154, s_X9_witness)]) ⟨m_X9_witness, trivial⟩ o_L_witness
def s_L_extreme : CS := (xc 2 12 8, ap [(3, 0), (0, 0), (0, 0), (0, 0), (3, 77)] (fun n gr sg h Rt X =>
∃ w ps s, CI h w ps s ∧ (¬ (0 ≤ n ∧ n < w 0) → (XL (cd 0 2 1) Rt) 2 h) ∧ (0 ≤ n ∧ n < w 0 → nxt w 0 = -1 → Go h w ps s ((XL (cd 0 2 1) Rt) 1)) ∧ (0 ≤ n ∧ n < w 0 → nxt w 0 ≠ -1 → ∀ r, isB (mdl w) (gS w n gr sg) (tot w) r → Go h w ps s ((RtL Rt) (some (.inl (gV w n sg r)))))))
set_option maxRecDepth 100000 in
set_option maxHeartbeats 4000000 in
theorem o_L_extreme : Obl true 1 6 (sp [(155, s_X9_extreme)]) hd_L_extreme code_L_extreme s_L_extreme := by
  refine obl0x (by rfl) ?_
  intro n r_n gr r_gr sg r_sg h Rt X hh hf hs
  obtain ⟨w, ps, s, hC, k1, k2, k3⟩ := hs
  repeat' (first | apply And.intro | (with_reducible assumption) | (intro h9; first | (exfalso; omega) | (simp only [rI_rI, rJ_rJ, hI_rI, hJ_rI, hI_rJ, hJ_rJ, hI_rR, hR_rI, hR_rJ, hN_rI, hN_rJ, svH_63, svH_66, rfH_63, wvH_63, wvH_62, wvH_67, wvH_68, wvH_69, sc_63, sc_n62, sc_n67, sc_n68, sc_n69, sc_n70, reduceIte, Nat.reduceEqDiff, eq_self, up_up, up_self, up_ne, ne_eq, not_false_eq_true, Int.reduceEq, Int.reduceNeg] at h9; first | (exfalso; omega) | skip) | skip) | refine Exists.intro w (Exists.intro ps (Exists.intro s (And.intro hC ?_))) | exact k1 (by assumption) | exact k2 (by assumption) (by assumption) _ (by assumption) (by assumption) | exact k3 (by assumption) (by assumption) _ (by assumption) _ (by assumption) (by assumption) | exact hs | omega | exact True.intro | (simp only [rI_rI, rJ_rJ, hI_rI, hJ_rI, hI_rJ, hJ_rJ, hI_rR, hR_rI, hR_rJ, hN_rI, hN_rJ, svH_63, svH_66, rfH_63, wvH_63, wvH_62, wvH_67, wvH_68, wvH_69, sc_63, sc_n62, sc_n67, sc_n68, sc_n69, sc_n70, reduceIte, Nat.reduceEqDiff, eq_self, up_up, up_self, up_ne, ne_eq, not_false_eq_true, Int.reduceEq, Int.reduceNeg]; omega))
theorem m_L_extreme : MM 317 s_L_extreme := mm_of (own := 11) (by rfl) k_L_extreme (cl := [(155, s_X9_extreme)]) ⟨m_X9_extreme, trivial⟩ o_L_extreme
def s_L_extremeWitness : CS := (xc 2 12 8, ap [(3, 0), (0, 0), (0, 0), (0, 0), (3, 77)] (fun n gr v h Rt X =>
∃ w ps s, CI h w ps s ∧ (¬ (0 ≤ n ∧ n < w 0 ∧ 0 ≤ v ∧ v < w 281) → (XL (cd 0 0 1) Rt) 2 h) ∧ (0 ≤ n ∧ n < w 0 ∧ 0 ≤ v ∧ v < w 281 → ∀ r, isB (mdl w) (gS w n gr 0) (tot w) r → Go h w ps s ((RtL Rt) (some (.inl (wrd w r v)))))))
set_option maxRecDepth 100000 in
set_option maxHeartbeats 4000000 in
theorem o_L_extremeWitness : Obl true 1 6 (sp [(156, s_X9_extremeWitness)]) hd_L_extremeWitness code_L_extremeWitness s_L_extremeWitness := by
  refine obl0x (by rfl) ?_
  intro n r_n gr r_gr v r_v h Rt X hh hf hs
  obtain ⟨w, ps, s, hC, k1, k2⟩ := hs
  repeat' (first | apply And.intro | (with_reducible assumption) | (intro h9; first | (exfalso; omega) | (simp only [rI_rI, rJ_rJ, hI_rI, hJ_rI, hI_rJ, hJ_rJ, hI_rR, hR_rI, hR_rJ, hN_rI, hN_rJ, svH_63, svH_66, rfH_63, wvH_63, wvH_62, wvH_67, wvH_68, wvH_69, sc_63, sc_n62, sc_n67, sc_n68, sc_n69, sc_n70, reduceIte, Nat.reduceEqDiff, eq_self, up_up, up_self, up_ne, ne_eq, not_false_eq_true, Int.reduceEq, Int.reduceNeg] at h9; first | (exfalso; omega) | skip) | skip) | refine Exists.intro w (Exists.intro ps (Exists.intro s (And.intro hC ?_))) | exact k1 (by assumption) | exact k2 (by assumption) _ (by assumption) _ (by assumption) (by assumption) | exact hs | omega | exact True.intro | (simp only [rI_rI, rJ_rJ, hI_rI, hJ_rI, hI_rJ, hJ_rJ, hI_rR, hR_rI, hR_rJ, hN_rI, hN_rJ, svH_63, svH_66, rfH_63, wvH_63, wvH_62, wvH_67, wvH_68, wvH_69, sc_63, sc_n62, sc_n67, sc_n68, sc_n69, sc_n70, reduceIte, Nat.reduceEqDiff, eq_self, up_up, up_self, up_ne, ne_eq, not_false_eq_true, Int.reduceEq, Int.reduceNeg]; omega))
theorem m_L_extremeWitness : MM 318 s_L_extremeWitness := mm_of (own := 11) (by rfl) k_L_extremeWitness (cl := [(156, s_X9_extremeWitness)]) ⟨m_X9_extremeWitness, trivial⟩ o_L_extremeWitness
def s_L_fixed : CS := (xc 1 6 8, ap [(3, 0), (0, 0), (0, 0), (3, 77)] (fun n g h Rt X =>
∃ w ps s, CI h w ps s ∧ (¬ (0 ≤ n ∧ n < w 0) → (XL (cd 0 0 1) Rt) 2 h) ∧ (0 ≤ n ∧ n < w 0 → nxt w 0 = -1 → Go h w ps s ((RtL Rt) (some (.inl (-1))))) ∧ (0 ≤ n ∧ n < w 0 → nxt w 0 ≠ -1 → g ≠ 0 → Go h w ps s ((RtL Rt) (some (.inl (fxA w n (tot w).toNat))))) ∧
(0 ≤ n ∧ n < w 0 → nxt w 0 ≠ -1 → g = 0 → Go h w ps s ((RtL Rt) (some (.inl (bAnd (p2 (nd w n 1) - 1) (bXor (bXor (fxA w n (tot w).toNat) (fxO w n (tot w).toNat)) (-1)))))))))
set_option maxRecDepth 100000 in
set_option maxHeartbeats 4000000 in
theorem o_L_fixed : Obl true 1 5 (sp [(157, s_X9_fixed)]) hd_L_fixed code_L_fixed s_L_fixed := by
  refine obl0x (by rfl) ?_
  intro n r_n g r_g h Rt X hh hf hs
  obtain ⟨w, ps, s, hC, k1, k2, k3, k4⟩ := hs
  repeat' (first | apply And.intro | (with_reducible assumption) | (intro h9; first | (exfalso; omega) | (simp only [rI_rI, rJ_rJ, hI_rI, hJ_rI, hI_rJ, hJ_rJ, hI_rR, hR_rI, hR_rJ, hN_rI, hN_rJ, svH_63, svH_66, rfH_63, wvH_63, wvH_62, wvH_67, wvH_68, wvH_69, sc_63, sc_n62, sc_n67, sc_n68, sc_n69, sc_n70, reduceIte, Nat.reduceEqDiff, eq_self, up_up, up_self, up_ne, ne_eq, not_false_eq_true, Int.reduceEq, Int.reduceNeg] at h9; first | (exfalso; omega) | skip) | skip) | refine Exists.intro w (Exists.intro ps (Exists.intro s (And.intro hC ?_))) | exact k1 (by assumption) | exact k2 (by assumption) (by assumption) _ (by assumption) (by assumption) | exact k3 (by assumption) (by assumption) (by assumption) _ (by assumption) (by assumption) | exact k4 (by assumption) (by assumption) (by assumption) _ (by assumption) (by assumption) | exact hs | omega | exact True.intro | (simp only [rI_rI, rJ_rJ, hI_rI, hJ_rI, hI_rJ, hJ_rJ, hI_rR, hR_rI, hR_rJ, hN_rI, hN_rJ, svH_63, svH_66, rfH_63, wvH_63, wvH_62, wvH_67, wvH_68, wvH_69, sc_63, sc_n62, sc_n67, sc_n68, sc_n69, sc_n70, reduceIte, Nat.reduceEqDiff, eq_self, up_up, up_self, up_ne, ne_eq, not_false_eq_true, Int.reduceEq, Int.reduceNeg]; omega))
theorem m_L_fixed : MM 319 s_L_fixed := mm_of (own := 11) (by rfl) k_L_fixed (cl := [(157, s_X9_fixed)]) ⟨m_X9_fixed, trivial⟩ o_L_fixed
def s_L_models : CS := (xc 1 6 8, ap [(3, 0), (0, 0), (3, 77)] (fun l h Rt X =>
∃ w ps s, CI h w ps s ∧ (¬ (1 ≤ l ∧ l ≤ 200) → (XL (cd 1 0 0) Rt) 0 h) ∧ (1 ≤ l ∧ l ≤ 200 → Go h w ps s ((RtL Rt) (some (.inl (if cntB (mdl w) (tot w).toNat < l then cntB (mdl w) (tot w).toNat else l)))))))
set_option maxRecDepth 100000 in
set_option maxHeartbeats 4000000 in
theorem o_L_models : Obl true 1 4 (sp [(158, s_X9_models)]) hd_L_models code_L_models s_L_models := by
  refine obl0x (by rfl) ?_
  intro l r_l h Rt X hh hf hs
  obtain ⟨w, ps, s, hC, k1, k2⟩ := hs
  repeat' (first | apply And.intro | (with_reducible assumption) | (intro h9; first | (exfalso; omega) | (simp only [rI_rI, rJ_rJ, hI_rI, hJ_rI, hI_rJ, hJ_rJ, hI_rR, hR_rI, hR_rJ, hN_rI, hN_rJ, svH_63, svH_66, rfH_63, wvH_63, wvH_62, wvH_67, wvH_68, wvH_69, sc_63, sc_n62, sc_n67, sc_n68, sc_n69, sc_n70, reduceIte, Nat.reduceEqDiff, eq_self, up_up, up_self, up_ne, ne_eq, not_false_eq_true, Int.reduceEq, Int.reduceNeg] at h9; first | (exfalso; omega) | skip) | skip) | refine Exists.intro w (Exists.intro ps (Exists.intro s (And.intro hC ?_))) | exact k1 (by assumption) | exact k2 (by assumption) _ (by assumption) (by assumption) | exact hs | omega | exact True.intro | (simp only [rI_rI, rJ_rJ, hI_rI, hJ_rI, hI_rJ, hJ_rJ, hI_rR, hR_rI, hR_rJ, hN_rI, hN_rJ, svH_63, svH_66, rfH_63, wvH_63, wvH_62, wvH_67, wvH_68, wvH_69, sc_63, sc_n62, sc_n67, sc_n68, sc_n69, sc_n70, reduceIte, Nat.reduceEqDiff, eq_self, up_up, up_self, up_ne, ne_eq, not_false_eq_true, Int.reduceEq, Int.reduceNeg]; omega))
theorem m_L_models : MM 320 s_L_models := mm_of (own := 11) (by rfl) k_L_models (cl := [(158, s_X9_models)]) ⟨m_X9_models, trivial⟩ o_L_models
def s_L_values : CS := (xc 2 12 8, ap [(3, 0), (0, 0), (0, 0), (3, 77)] (fun n l h Rt X =>
∃ w ps s, CI h w ps s ∧ (¬ (0 ≤ n ∧ n < w 0) → (XL (cd 2 0 1) Rt) 2 h) ∧ (0 ≤ n ∧ n < w 0 → ¬ (1 ≤ l ∧ l ≤ 200) → (XL (cd 2 0 1) Rt) 0 h) ∧ (0 ≤ n ∧ n < w 0 → 1 ≤ l ∧ l ≤ 200 → ∀ f, Mets w n f (tot w) → Go h w ps s ((RtL Rt) (some (.inl (if smF f 256 < l then smF f 256 else l)))))))
set_option maxRecDepth 100000 in
set_option maxHeartbeats 4000000 in
theorem o_L_values : Obl true 1 5 (sp [(159, s_X9_values)]) hd_L_values code_L_values s_L_values := by
  refine obl0x (by rfl) ?_
  intro n r_n l r_l h Rt X hh hf hs
  obtain ⟨w, ps, s, hC, k1, k2, k3⟩ := hs
  repeat' (first | apply And.intro | (with_reducible assumption) | (intro h9; first | (exfalso; omega) | (simp only [rI_rI, rJ_rJ, hI_rI, hJ_rI, hI_rJ, hJ_rJ, hI_rR, hR_rI, hR_rJ, hN_rI, hN_rJ, svH_63, svH_66, rfH_63, wvH_63, wvH_62, wvH_67, wvH_68, wvH_69, sc_63, sc_n62, sc_n67, sc_n68, sc_n69, sc_n70, reduceIte, Nat.reduceEqDiff, eq_self, up_up, up_self, up_ne, ne_eq, not_false_eq_true, Int.reduceEq, Int.reduceNeg] at h9; first | (exfalso; omega) | skip) | skip) | refine Exists.intro w (Exists.intro ps (Exists.intro s (And.intro hC ?_))) | exact k1 (by assumption) | exact k2 (by assumption) (by assumption) | exact k3 (by assumption) (by assumption) _ (by assumption) _ (by assumption) (by assumption) | exact hs | omega | exact True.intro | (simp only [rI_rI, rJ_rJ, hI_rI, hJ_rI, hI_rJ, hJ_rJ, hI_rR, hR_rI, hR_rJ, hN_rI, hN_rJ, svH_63, svH_66, rfH_63, wvH_63, wvH_62, wvH_67, wvH_68, wvH_69, sc_63, sc_n62, sc_n67, sc_n68, sc_n69, sc_n70, reduceIte, Nat.reduceEqDiff, eq_self, up_up, up_self, up_ne, ne_eq, not_false_eq_true, Int.reduceEq, Int.reduceNeg]; omega))
theorem m_L_values : MM 321 s_L_values := mm_of (own := 11) (by rfl) k_L_values (cl := [(159, s_X9_values)]) ⟨m_X9_values, trivial⟩ o_L_values
def s_L_valueAt : CS := (xc 1 6 8, ap [(3, 0), (0, 0), (0, 0), (3, 77)] (fun n k h Rt X =>
∃ w ps s, CI h w ps s ∧ (¬ (0 ≤ n ∧ n < w 0) → (XL (cd 0 0 1) Rt) 2 h) ∧ (0 ≤ n ∧ n < w 0 → ¬ (0 ≤ k ∧ k ≤ 199) → (RtL Rt) (some (.inl (-1))) h) ∧ (0 ≤ n ∧ n < w 0 → 0 ≤ k ∧ k ≤ 199 → ∀ f, Mets w n f (tot w) → Go h w ps s ((RtL Rt) (some (.inl (kthW f k)))))))
set_option maxRecDepth 100000 in
set_option maxHeartbeats 4000000 in
theorem o_L_valueAt : Obl true 1 5 (sp [(160, s_X9_valueAt)]) hd_L_valueAt code_L_valueAt s_L_valueAt := by
  refine obl0x (by rfl) ?_
  intro n r_n k r_k h Rt X hh hf hs
  obtain ⟨w, ps, s, hC, k1, k2, k3⟩ := hs
  repeat' (first | apply And.intro | (with_reducible assumption) | (intro h9; first | (exfalso; omega) | (simp only [rI_rI, rJ_rJ, hI_rI, hJ_rI, hI_rJ, hJ_rJ, hI_rR, hR_rI, hR_rJ, hN_rI, hN_rJ, svH_63, svH_66, rfH_63, wvH_63, wvH_62, wvH_67, wvH_68, wvH_69, sc_63, sc_n62, sc_n67, sc_n68, sc_n69, sc_n70, reduceIte, Nat.reduceEqDiff, eq_self, up_up, up_self, up_ne, ne_eq, not_false_eq_true, Int.reduceEq, Int.reduceNeg] at h9; first | (exfalso; omega) | skip) | skip) | refine Exists.intro w (Exists.intro ps (Exists.intro s (And.intro hC ?_))) | exact k1 (by assumption) | exact k2 (by assumption) (by assumption) | exact k3 (by assumption) (by assumption) _ (by assumption) _ (by assumption) (by assumption) | exact hs | omega | exact True.intro | (simp only [rI_rI, rJ_rJ, hI_rI, hJ_rI, hI_rJ, hJ_rJ, hI_rR, hR_rI, hR_rJ, hN_rI, hN_rJ, svH_63, svH_66, rfH_63, wvH_63, wvH_62, wvH_67, wvH_68, wvH_69, sc_63, sc_n62, sc_n67, sc_n68, sc_n69, sc_n70, reduceIte, Nat.reduceEqDiff, eq_self, up_up, up_self, up_ne, ne_eq, not_false_eq_true, Int.reduceEq, Int.reduceNeg]; omega))
theorem m_L_valueAt : MM 322 s_L_valueAt := mm_of (own := 11) (by rfl) k_L_valueAt (cl := [(160, s_X9_valueAt)]) ⟨m_X9_valueAt, trivial⟩ o_L_valueAt
def s_L_equivalent : CS := (xc 3 18 8, ap [(3, 0), (0, 0), (0, 0), (3, 77)] (fun p q h Rt X =>
∃ w ps s, CI h w ps s ∧ (¬ (0 ≤ p ∧ p < w 0 ∧ 0 ≤ q ∧ q < w 0) → (XL (cd 2 0 1) Rt) 2 h) ∧ (0 ≤ p ∧ p < w 0 ∧ 0 ≤ q ∧ q < w 0 → nd w p 1 ≠ nd w q 1 → (XL (cd 2 0 1) Rt) 0 h) ∧ (0 ≤ p ∧ p < w 0 ∧ 0 ≤ q ∧ q < w 0 → nd w p 1 = nd w q 1 → dfM w p q = -1 → Go h w ps s (RtB Rt 1)) ∧
(0 ≤ p ∧ p < w 0 ∧ 0 ≤ q ∧ q < w 0 → nd w p 1 = nd w q 1 → dfM w p q ≠ -1 → Go h w ps s (RtB Rt 0))))
set_option maxRecDepth 100000 in
set_option maxHeartbeats 4000000 in
theorem o_L_equivalent : Obl true 1 5 (sp [(161, s_X9_equivalent)]) hd_L_equivalent code_L_equivalent s_L_equivalent := by
  refine obl0x (by rfl) ?_
  intro p r_p q r_q h Rt X hh hf hs
  obtain ⟨w, ps, s, hC, k1, k2, k3, k4⟩ := hs
  repeat' (first | apply And.intro | (with_reducible assumption) | (intro h9; first | (exfalso; omega) | (simp only [rI_rI, rJ_rJ, hI_rI, hJ_rI, hI_rJ, hJ_rJ, hI_rR, hR_rI, hR_rJ, hN_rI, hN_rJ, svH_63, svH_66, rfH_63, wvH_63, wvH_62, wvH_67, wvH_68, wvH_69, sc_63, sc_n62, sc_n67, sc_n68, sc_n69, sc_n70, reduceIte, Nat.reduceEqDiff, eq_self, up_up, up_self, up_ne, ne_eq, not_false_eq_true, Int.reduceEq, Int.reduceNeg] at h9; first | (exfalso; omega) | skip) | skip) | refine Exists.intro w (Exists.intro ps (Exists.intro s (And.intro hC ?_))) | exact k1 (by assumption) | exact k2 (by assumption) (by assumption) | exact k3 (by assumption) (by assumption) (by assumption) _ (by assumption) (by assumption) | exact k4 (by assumption) (by assumption) (by assumption) _ (by assumption) (by assumption) | exact hs | omega | exact True.intro | (simp only [rI_rI, rJ_rJ, hI_rI, hJ_rI, hI_rJ, hJ_rJ, hI_rR, hR_rI, hR_rJ, hN_rI, hN_rJ, svH_63, svH_66, rfH_63, wvH_63, wvH_62, wvH_67, wvH_68, wvH_69, sc_63, sc_n62, sc_n67, sc_n68, sc_n69, sc_n70, reduceIte, Nat.reduceEqDiff, eq_self, up_up, up_self, up_ne, ne_eq, not_false_eq_true, Int.reduceEq, Int.reduceNeg]; omega))
theorem m_L_equivalent : MM 323 s_L_equivalent := mm_of (own := 11) (by rfl) k_L_equivalent (cl := [(161, s_X9_equivalent)]) ⟨m_X9_equivalent, trivial⟩ o_L_equivalent
def s_L_counterexample : CS := (xc 4 24 8, ap [(3, 0), (0, 0), (0, 0), (0, 0), (3, 77)] (fun p q v h Rt X =>
∃ w ps s, CI h w ps s ∧ (¬ (0 ≤ p ∧ p < w 0 ∧ 0 ≤ q ∧ q < w 0 ∧ 0 ≤ v ∧ v < w 281) → (XL (cd 2 0 1) Rt) 2 h) ∧ (0 ≤ p ∧ p < w 0 ∧ 0 ≤ q ∧ q < w 0 ∧ 0 ≤ v ∧ v < w 281 → nd w p 1 ≠ nd w q 1 → (XL (cd 2 0 1) Rt) 0 h) ∧ (0 ≤ p ∧ p < w 0 ∧ 0 ≤ q ∧ q < w 0 ∧ 0 ≤ v ∧ v < w 281 → nd w p 1 = nd w q 1 → Go h w ps s ((RtL Rt) (some (.inl (wrd w (dfM w p q) v)))))))
set_option maxRecDepth 100000 in
set_option maxHeartbeats 4000000 in
theorem o_L_counterexample : Obl true 1 6 (sp [(162, s_X9_counterexample)]) hd_L_counterexample code_L_counterexample s_L_counterexample := by
  refine obl0x (by rfl) ?_
  intro p r_p q r_q v r_v h Rt X hh hf hs
  obtain ⟨w, ps, s, hC, k1, k2, k3⟩ := hs
  repeat' (first | apply And.intro | (with_reducible assumption) | (intro h9; first | (exfalso; omega) | (simp only [rI_rI, rJ_rJ, hI_rI, hJ_rI, hI_rJ, hJ_rJ, hI_rR, hR_rI, hR_rJ, hN_rI, hN_rJ, svH_63, svH_66, rfH_63, wvH_63, wvH_62, wvH_67, wvH_68, wvH_69, sc_63, sc_n62, sc_n67, sc_n68, sc_n69, sc_n70, reduceIte, Nat.reduceEqDiff, eq_self, up_up, up_self, up_ne, ne_eq, not_false_eq_true, Int.reduceEq, Int.reduceNeg] at h9; first | (exfalso; omega) | skip) | skip) | refine Exists.intro w (Exists.intro ps (Exists.intro s (And.intro hC ?_))) | exact k1 (by assumption) | exact k2 (by assumption) (by assumption) | exact k3 (by assumption) (by assumption) _ (by assumption) (by assumption) | exact hs | omega | exact True.intro | (simp only [rI_rI, rJ_rJ, hI_rI, hJ_rI, hI_rJ, hJ_rJ, hI_rR, hR_rI, hR_rJ, hN_rI, hN_rJ, svH_63, svH_66, rfH_63, wvH_63, wvH_62, wvH_67, wvH_68, wvH_69, sc_63, sc_n62, sc_n67, sc_n68, sc_n69, sc_n70, reduceIte, Nat.reduceEqDiff, eq_self, up_up, up_self, up_ne, ne_eq, not_false_eq_true, Int.reduceEq, Int.reduceNeg]; omega))
theorem m_L_counterexample : MM 324 s_L_counterexample := mm_of (own := 11) (by rfl) k_L_counterexample (cl := [(162, s_X9_counterexample)]) ⟨m_X9_counterexample, trivial⟩ o_L_counterexample
def s_L_wish : CS := (xc 2 12 5, ap [(3, 0), (0, 0), (0, 0), (3, 77)] (fun n x h Rt X =>
∃ w ps s, CI h w ps s ∧ (¬ (0 ≤ n ∧ n < w 0) → (XL (cd 2 3 1) Rt) 2 h) ∧ (0 ≤ n ∧ n < w 0 → ¬ (nd w n 1 = 1 ∧ 1 ≤ x ∧ x ≤ 9) → (XL (cd 2 3 1) Rt) 0 h) ∧ (0 ≤ n ∧ n < w 0 → nd w n 1 = 1 ∧ 1 ≤ x ∧ x ≤ 9 → w 332 = 8 → (XL (cd 2 3 1) Rt) 1 h) ∧ (0 ≤ n ∧ n < w 0 → nd w n 1 = 1 ∧ 1 ≤ x ∧ x ≤ 9 → w 332 ≠ 8 → Go h (wishW w n x) (svPp ps s w) (svS s) ((RtL Rt) (some (.inl (w 332 + 1)))))))
set_option maxRecDepth 100000 in
set_option maxHeartbeats 4000000 in
theorem o_L_wish : Obl true 1 5 (sp [(164, s_X9_wish)]) hd_L_wish code_L_wish s_L_wish := by
  refine obl0x (by rfl) ?_
  intro n r_n x r_x h Rt X hh hf hs
  obtain ⟨w, ps, s, hC, k1, k2, k3, k4⟩ := hs
  repeat' (first | apply And.intro | (with_reducible assumption) | (intro h9; first | (exfalso; omega) | (simp only [rI_rI, rJ_rJ, hI_rI, hJ_rI, hI_rJ, hJ_rJ, hI_rR, hR_rI, hR_rJ, hN_rI, hN_rJ, svH_63, svH_66, rfH_63, wvH_63, wvH_62, wvH_67, wvH_68, wvH_69, sc_63, sc_n62, sc_n67, sc_n68, sc_n69, sc_n70, reduceIte, Nat.reduceEqDiff, eq_self, up_up, up_self, up_ne, ne_eq, not_false_eq_true, Int.reduceEq, Int.reduceNeg] at h9; first | (exfalso; omega) | skip) | skip) | refine Exists.intro w (Exists.intro ps (Exists.intro s (And.intro hC ?_))) | exact k1 (by assumption) | exact k2 (by assumption) (by assumption) | exact k3 (by assumption) (by assumption) (by assumption) | exact k4 (by assumption) (by assumption) (by assumption) _ (by assumption) (by assumption) | exact hs | omega | exact True.intro | (simp only [rI_rI, rJ_rJ, hI_rI, hJ_rI, hI_rJ, hJ_rJ, hI_rR, hR_rI, hR_rJ, hN_rI, hN_rJ, svH_63, svH_66, rfH_63, wvH_63, wvH_62, wvH_67, wvH_68, wvH_69, sc_63, sc_n62, sc_n67, sc_n68, sc_n69, sc_n70, reduceIte, Nat.reduceEqDiff, eq_self, up_up, up_self, up_ne, ne_eq, not_false_eq_true, Int.reduceEq, Int.reduceNeg]; omega))
theorem m_L_wish : MM 325 s_L_wish := mm_of (own := 11) (by rfl) k_L_wish (cl := [(164, s_X9_wish)]) ⟨m_X9_wish, trivial⟩ o_L_wish
def s_L_bestWitness : CS := (xc 1 6 8, ap [(3, 0), (0, 0), (3, 77)] (fun v h Rt X =>
∃ w ps s, CI h w ps s ∧ (¬ (0 ≤ v ∧ v < w 281) → (XL (cd 0 0 1) Rt) 2 h) ∧ (0 ≤ v ∧ v < w 281 → ∀ r, isB (mdl w) (gnA w) (tot w) r → Go h w ps s ((RtL Rt) (some (.inl (wrd w r v)))))))
set_option maxRecDepth 100000 in
set_option maxHeartbeats 4000000 in
theorem o_L_bestWitness : Obl true 1 4 (sp [(167, s_X9_bestWitness)]) hd_L_bestWitness code_L_bestWitness s_L_bestWitness := by
  refine obl0x (by rfl) ?_
  intro v r_v h Rt X hh hf hs
  obtain ⟨w, ps, s, hC, k1, k2⟩ := hs
  repeat' (first | apply And.intro | (with_reducible assumption) | (intro h9; first | (exfalso; omega) | (simp only [rI_rI, rJ_rJ, hI_rI, hJ_rI, hI_rJ, hJ_rJ, hI_rR, hR_rI, hR_rJ, hN_rI, hN_rJ, svH_63, svH_66, rfH_63, wvH_63, wvH_62, wvH_67, wvH_68, wvH_69, sc_63, sc_n62, sc_n67, sc_n68, sc_n69, sc_n70, reduceIte, Nat.reduceEqDiff, eq_self, up_up, up_self, up_ne, ne_eq, not_false_eq_true, Int.reduceEq, Int.reduceNeg] at h9; first | (exfalso; omega) | skip) | skip) | refine Exists.intro w (Exists.intro ps (Exists.intro s (And.intro hC ?_))) | exact k1 (by assumption) | exact k2 (by assumption) _ (by assumption) _ (by assumption) (by assumption) | exact hs | omega | exact True.intro | (simp only [rI_rI, rJ_rJ, hI_rI, hJ_rI, hI_rJ, hJ_rJ, hI_rR, hR_rI, hR_rJ, hN_rI, hN_rJ, svH_63, svH_66, rfH_63, wvH_63, wvH_62, wvH_67, wvH_68, wvH_69, sc_63, sc_n62, sc_n67, sc_n68, sc_n69, sc_n70, reduceIte, Nat.reduceEqDiff, eq_self, up_up, up_self, up_ne, ne_eq, not_false_eq_true, Int.reduceEq, Int.reduceNeg]; omega))
theorem m_L_bestWitness : MM 326 s_L_bestWitness := mm_of (own := 11) (by rfl) k_L_bestWitness (cl := [(167, s_X9_bestWitness)]) ⟨m_X9_bestWitness, trivial⟩ o_L_bestWitness
def s_L_append : CS := (xc 1 6 3, ap [(3, 0), (0, 0), (3, 77)] (fun c h Rt X =>
∃ w ps s, CI h w ps s ∧ (¬ (32 ≤ c ∧ c ≤ 126) → (XL (cd 1 2 0) Rt) 0 h) ∧ (32 ≤ c ∧ c ≤ 126 → hI h 49 1 = 120 → (XL (cd 1 2 0) Rt) 1 h) ∧ (32 ≤ c ∧ c ≤ 126 → hI h 49 1 ≠ 120 → (RtL Rt) (some (.inl (hI h 49 1 + 1))) (wI h (tAd (hI h) c)))))
set_option maxRecDepth 100000 in
set_option maxHeartbeats 4000000 in
theorem o_L_append : Obl true 1 4 (sp [(168, s_X9_append)]) hd_L_append code_L_append s_L_append := by
  refine obl0x (by rfl) ?_
  intro c r_c h Rt X hh hf hs
  obtain ⟨w, ps, s, hC, k1, k2, k3⟩ := hs
  repeat' (first | apply And.intro | (with_reducible assumption) | (intro h9; first | (exfalso; omega) | (simp only [rI_rI, rJ_rJ, hI_rI, hJ_rI, hI_rJ, hJ_rJ, hI_rR, hR_rI, hR_rJ, hN_rI, hN_rJ, svH_63, svH_66, rfH_63, wvH_63, wvH_62, wvH_67, wvH_68, wvH_69, sc_63, sc_n62, sc_n67, sc_n68, sc_n69, sc_n70, reduceIte, Nat.reduceEqDiff, eq_self, up_up, up_self, up_ne, ne_eq, not_false_eq_true, Int.reduceEq, Int.reduceNeg] at h9; first | (exfalso; omega) | skip) | skip) | refine Exists.intro w (Exists.intro ps (Exists.intro s (And.intro hC ?_))) | exact k1 (by assumption) | exact k2 (by assumption) (by assumption) | exact k3 (by assumption) (by assumption) | exact hs | omega | exact True.intro | (simp only [rI_rI, rJ_rJ, hI_rI, hJ_rI, hI_rJ, hJ_rJ, hI_rR, hR_rI, hR_rJ, hN_rI, hN_rJ, svH_63, svH_66, rfH_63, wvH_63, wvH_62, wvH_67, wvH_68, wvH_69, sc_63, sc_n62, sc_n67, sc_n68, sc_n69, sc_n70, reduceIte, Nat.reduceEqDiff, eq_self, up_up, up_self, up_ne, ne_eq, not_false_eq_true, Int.reduceEq, Int.reduceNeg]; omega))
theorem m_L_append : MM 327 s_L_append := mm_of (own := 11) (by rfl) k_L_append (cl := [(168, s_X9_append)]) ⟨m_X9_append, trivial⟩ o_L_append
def s_L_read : CS := (xc 2 12 14, ap [(3, 0), (3, 77)] (fun  h Rt X =>
∃ w ps s, CI h w ps s ∧ (rdA (fin (stR (hI h))) ≠ -1 → Go h w ps s ((XL (cd 1 2 0) Rt) 0)) ∧ (rdA (fin (stR (hI h))) = -1 → ¬ bsM (fin (stR (hI h)) 52) (fin (stR (hI h)) 53) (fin (stR (hI h)) 54) w (pS (fin (stR (hI h)))).toNat → Go h w ps s ((XL (cd 1 2 0) Rt) 1)) ∧
(rdA (fin (stR (hI h))) = -1 → bsM (fin (stR (hI h)) 52) (fin (stR (hI h)) 53) (fin (stR (hI h)) 54) w (pS (fin (stR (hI h)))).toNat → Go h (bsS (fin (stR (hI h)) 52) (fin (stR (hI h)) 53) (fin (stR (hI h)) 54) w (pS (fin (stR (hI h)))).toNat).1 (svPp ps s w) (svS s) ((RtL Rt) (some (.inl ((bsS (fin (stR (hI h)) 52) (fin (stR (hI h)) 53) (fin (stR (hI h)) 54) w (pS (fin (stR (hI h)))).toNat).2 0)))))))
set_option maxRecDepth 100000 in
set_option maxHeartbeats 4000000 in
theorem o_L_read : Obl true 1 3 (sp [(171, s_X9_read)]) hd_L_read code_L_read s_L_read := by
  refine obl0x (by rfl) ?_
  intro  h Rt X hh hf hs
  obtain ⟨w, ps, s, hC, k1, k2, k3⟩ := hs
  repeat' (first | apply And.intro | (with_reducible assumption) | (intro h9; first | (exfalso; omega) | (simp only [rI_rI, rJ_rJ, hI_rI, hJ_rI, hI_rJ, hJ_rJ, hI_rR, hR_rI, hR_rJ, hN_rI, hN_rJ, svH_63, svH_66, rfH_63, wvH_63, wvH_62, wvH_67, wvH_68, wvH_69, sc_63, sc_n62, sc_n67, sc_n68, sc_n69, sc_n70, reduceIte, Nat.reduceEqDiff, eq_self, up_up, up_self, up_ne, ne_eq, not_false_eq_true, Int.reduceEq, Int.reduceNeg] at h9; first | (exfalso; omega) | skip) | skip) | refine Exists.intro w (Exists.intro ps (Exists.intro s (And.intro hC ?_))) | exact k1 (by assumption) _ (by assumption) (by assumption) | exact k2 (by assumption) (by assumption) _ (by assumption) (by assumption) | exact k3 (by assumption) (by assumption) _ (by assumption) (by assumption) | exact hs | omega | exact True.intro | (simp only [rI_rI, rJ_rJ, hI_rI, hJ_rI, hI_rJ, hJ_rJ, hI_rR, hR_rI, hR_rJ, hN_rI, hN_rJ, svH_63, svH_66, rfH_63, wvH_63, wvH_62, wvH_67, wvH_68, wvH_69, sc_63, sc_n62, sc_n67, sc_n68, sc_n69, sc_n70, reduceIte, Nat.reduceEqDiff, eq_self, up_up, up_self, up_ne, ne_eq, not_false_eq_true, Int.reduceEq, Int.reduceNeg]; omega))
theorem m_L_read : MM 328 s_L_read := mm_of (own := 11) (by rfl) k_L_read (cl := [(171, s_X9_read)]) ⟨m_X9_read, trivial⟩ o_L_read
def s_L_write : CS := (xc 2 12 93, ap [(3, 0), (0, 0), (3, 77)] (fun n h Rt X =>
∃ w ps s, CI h w ps s ∧ (¬ (0 ≤ n ∧ n < w 0) → (XL (cd 0 2 1) Rt) 2 h) ∧ (0 ≤ n ∧ n < w 0 → 120 < (dsc w n).length → Go h w ps s ((XL (cd 0 2 1) Rt) 1)) ∧ (0 ≤ n ∧ n < w 0 → (dsc w n).length ≤ 120 → ∀ g, CI g w ps s → Ou h g → TxL (hI g) (dsc w n) → (RtL Rt) (some (.inl ((dsc w n).length : Int))) g)))
set_option maxRecDepth 100000 in
set_option maxHeartbeats 4000000 in
theorem o_L_write : Obl true 1 4 (sp [(172, s_X9_write)]) hd_L_write code_L_write s_L_write := by
  refine obl0x (by rfl) ?_
  intro n r_n h Rt X hh hf hs
  obtain ⟨w, ps, s, hC, k1, k2, k3⟩ := hs
  repeat' (first | apply And.intro | (with_reducible assumption) | (intro h9; first | (exfalso; omega) | (simp only [rI_rI, rJ_rJ, hI_rI, hJ_rI, hI_rJ, hJ_rJ, hI_rR, hR_rI, hR_rJ, hN_rI, hN_rJ, svH_63, svH_66, rfH_63, wvH_63, wvH_62, wvH_67, wvH_68, wvH_69, sc_63, sc_n62, sc_n67, sc_n68, sc_n69, sc_n70, reduceIte, Nat.reduceEqDiff, eq_self, up_up, up_self, up_ne, ne_eq, not_false_eq_true, Int.reduceEq, Int.reduceNeg] at h9; first | (exfalso; omega) | skip) | skip) | refine Exists.intro w (Exists.intro ps (Exists.intro s (And.intro hC ?_))) | exact k1 (by assumption) | exact k2 (by assumption) (by assumption) _ (by assumption) (by assumption) | exact k3 (by assumption) (by assumption) _ (by assumption) (by assumption) (by assumption) | exact hs | omega | exact True.intro | (simp only [rI_rI, rJ_rJ, hI_rI, hJ_rI, hI_rJ, hJ_rJ, hI_rR, hR_rI, hR_rJ, hN_rI, hN_rJ, svH_63, svH_66, rfH_63, wvH_63, wvH_62, wvH_67, wvH_68, wvH_69, sc_63, sc_n62, sc_n67, sc_n68, sc_n69, sc_n70, reduceIte, Nat.reduceEqDiff, eq_self, up_up, up_self, up_ne, ne_eq, not_false_eq_true, Int.reduceEq, Int.reduceNeg]; omega))
theorem m_L_write : MM 329 s_L_write := mm_of (own := 11) (by rfl) k_L_write (cl := [(172, s_X9_write)]) ⟨m_X9_write, trivial⟩ o_L_write
def s_L_undo : CS := (xc 1 6 4, ap [(3, 0), (3, 77)] (fun  h Rt X =>
∃ w ps s, CI h w ps s ∧ (s = 0 → (XL (cd 0 1 0) Rt) 1 h) ∧ (s ≠ 0 → ∃ u, WF u ∧ Pfx u w ∧ (∀ j, 0 ≤ j → j < 349 → u j = rowP ps (s - 1) j) ∧ Go h u ps (s - 1) ((RtL Rt) (some (.inl (s - 1)))))))
set_option maxRecDepth 100000 in
set_option maxHeartbeats 4000000 in
theorem o_L_undo : Obl true 1 3 (sp [(174, s_X9_undo)]) hd_L_undo code_L_undo s_L_undo := by
  refine obl0x (by rfl) ?_
  intro  h Rt X hh hf hs
  obtain ⟨w, ps, s, hC, k1, k2⟩ := hs
  by_cases z : s = 0
  · repeat' (first | apply And.intro | (with_reducible assumption) | (intro h9; first | (exfalso; omega) | (simp only [rI_rI, rJ_rJ, hI_rI, hJ_rI, hI_rJ, hJ_rJ, hI_rR, hR_rI, hR_rJ, hN_rI, hN_rJ, svH_63, svH_66, rfH_63, wvH_63, wvH_62, wvH_67, wvH_68, wvH_69, sc_63, sc_n62, sc_n67, sc_n68, sc_n69, sc_n70, reduceIte, Nat.reduceEqDiff, eq_self, up_up, up_self, up_ne, ne_eq, not_false_eq_true, Int.reduceEq, Int.reduceNeg] at h9; first | (exfalso; omega) | skip) | skip) | refine Exists.intro w (Exists.intro ps (Exists.intro s (And.intro hC ?_))) | exact absurd z (by assumption) | exact k1 (by assumption) | exact hs | omega | exact True.intro | (simp only [rI_rI, rJ_rJ, hI_rI, hJ_rI, hI_rJ, hJ_rJ, hI_rR, hR_rI, hR_rJ, hN_rI, hN_rJ, svH_63, svH_66, rfH_63, wvH_63, wvH_62, wvH_67, wvH_68, wvH_69, sc_63, sc_n62, sc_n67, sc_n68, sc_n69, sc_n70, reduceIte, Nat.reduceEqDiff, eq_self, up_up, up_self, up_ne, ne_eq, not_false_eq_true, Int.reduceEq, Int.reduceNeg]; omega))
  · obtain ⟨u, a1, a2, a3, K⟩ := k2 z
    repeat' (first | apply And.intro | (with_reducible assumption) | (intro h9; first | (exfalso; omega) | (simp only [rI_rI, rJ_rJ, hI_rI, hJ_rI, hI_rJ, hJ_rJ, hI_rR, hR_rI, hR_rJ, hN_rI, hN_rJ, svH_63, svH_66, rfH_63, wvH_63, wvH_62, wvH_67, wvH_68, wvH_69, sc_63, sc_n62, sc_n67, sc_n68, sc_n69, sc_n70, reduceIte, Nat.reduceEqDiff, eq_self, up_up, up_self, up_ne, ne_eq, not_false_eq_true, Int.reduceEq, Int.reduceNeg] at h9; first | (exfalso; omega) | skip) | skip) | refine Exists.intro w (Exists.intro ps (Exists.intro s (And.intro hC ?_))) | exact absurd (by assumption) z | refine Exists.intro u (And.intro a1 (And.intro a2 (And.intro a3 ?_))) | exact K _ (by assumption) (by assumption) | exact hs | omega | exact True.intro | (simp only [rI_rI, rJ_rJ, hI_rI, hJ_rI, hI_rJ, hJ_rJ, hI_rR, hR_rI, hR_rJ, hN_rI, hN_rJ, svH_63, svH_66, rfH_63, wvH_63, wvH_62, wvH_67, wvH_68, wvH_69, sc_63, sc_n62, sc_n67, sc_n68, sc_n69, sc_n70, reduceIte, Nat.reduceEqDiff, eq_self, up_up, up_self, up_ne, ne_eq, not_false_eq_true, Int.reduceEq, Int.reduceNeg]; omega))
theorem m_L_undo : MM 330 s_L_undo := mm_of (own := 11) (by rfl) k_L_undo (cl := [(174, s_X9_undo)]) ⟨m_X9_undo, trivial⟩ o_L_undo

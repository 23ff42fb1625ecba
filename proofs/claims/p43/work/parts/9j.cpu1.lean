/-! ===== the class's methods: what is asked ===== -/
theorem val_at {w A : Int → Int} {P : Int → Int64} {N n : Int} {s : Int64} (hW : WF w) (h0 : 0 ≤ n) (h1 : n < w 0) (N0 : 0 ≤ N) (N1 : N < tot w) (hv : VlL w P (sShr N 6) s (w 0)) (hs : lb s n.toNat = true) (ha : Asg w A (asg w N)) (hS : ∀ v, 0 ≤ v → v < w 281 → A v = w (286 + v)) : lw P (N % 64).toNat (n * 8) (nd w n 1).toNat = vl w (fun v => w (286 + v)) n := by
  have tr := tot_rng hW
  have e := hv.o n h0 h1 hs (N % 64).toNat (by omega)
  unfold lv at e
  rw [e]
  have e6 : sShr N 6 = N / 64 := by
    rw [sShr_eq ⟨by omega, by omega⟩ (by omega) (by omega)]
    rfl
  have el : lane (sShr N 6) (N % 64).toNat = N := by
    rw [e6]
    unfold lane
    omega
  unfold La
  rw [el]
  exact vl_env' hW (fun v v0 v1 => by rw [← ha.o v v0 v1]; exact hS v v0 v1) h1
def s_X9_nodes : CS := (zc 2, ap [(3, 0)] (fun  h Rt X =>
∃ w ps s, CI h w ps s ∧ Rt (some (.inl (w 0))) h))
set_option maxRecDepth 100000 in
set_option maxHeartbeats 4000000 in
theorem o_X9_nodes : Obl true 1 1 (sp [(1, s_X0_count)]) [] code_X9_nodes s_X9_nodes := by
  refine obl0 (by rfl) ?_
  intro  h Rt X hh hf hs
  obtain ⟨w, ps, s, hC, h2⟩ := hs
  rw [← hC.gh.n] at h2
  repeat' (first | apply And.intro | (with_reducible assumption) | (intro h9; first | (exfalso; omega) | (simp only [rI_rI, rJ_rJ, hI_rI, hJ_rI, hI_rJ, hJ_rJ, hI_rR, hR_rI, hR_rJ, hN_rI, hN_rJ, svH_63, svH_66, rfH_63, wvH_63, wvH_62, wvH_67, wvH_68, wvH_69, sc_63, sc_n62, sc_n67, sc_n68, sc_n69, sc_n70, reduceIte, Nat.reduceEqDiff, eq_self, up_up, up_self, up_ne, ne_eq, not_false_eq_true, Int.reduceEq, Int.reduceNeg] at h9; first | (exfalso; omega) | skip) | skip) | exact h2 | exact h2 | exact h2 (by omega) | omega | exact True.intro | (simp only [rI_rI, rJ_rJ, hI_rI, hJ_rI, hI_rJ, hJ_rJ, hI_rR, hR_rI, hR_rJ, hN_rI, hN_rJ, svH_63, svH_66, rfH_63, wvH_63, wvH_62, wvH_67, wvH_68, wvH_69, sc_63, sc_n62, sc_n67, sc_n68, sc_n69, sc_n70, reduceIte, Nat.reduceEqDiff, eq_self, up_up, up_self, up_ne, ne_eq, not_false_eq_true, Int.reduceEq, Int.reduceNeg]; omega))
theorem m_X9_nodes : MM 143 s_X9_nodes := mm_of (own := 8) (by rfl) k_X9_nodes (cl := [(1, s_X0_count)]) ⟨m_X0_count, trivial⟩ o_X9_nodes
def s_X9_variables : CS := (zc 2, ap [(3, 0)] (fun  h Rt X =>
∃ w ps s, CI h w ps s ∧ Rt (some (.inl (w 281))) h))
set_option maxRecDepth 100000 in
set_option maxHeartbeats 4000000 in
theorem o_X9_variables : Obl true 1 1 (sp [(2, s_X0_variableCount)]) [] code_X9_variables s_X9_variables := by
  refine obl0 (by rfl) ?_
  intro  h Rt X hh hf hs
  obtain ⟨w, ps, s, hC, h2⟩ := hs
  rw [← hC.gh.v] at h2
  repeat' (first | apply And.intro | (with_reducible assumption) | (intro h9; first | (exfalso; omega) | (simp only [rI_rI, rJ_rJ, hI_rI, hJ_rI, hI_rJ, hJ_rJ, hI_rR, hR_rI, hR_rJ, hN_rI, hN_rJ, svH_63, svH_66, rfH_63, wvH_63, wvH_62, wvH_67, wvH_68, wvH_69, sc_63, sc_n62, sc_n67, sc_n68, sc_n69, sc_n70, reduceIte, Nat.reduceEqDiff, eq_self, up_up, up_self, up_ne, ne_eq, not_false_eq_true, Int.reduceEq, Int.reduceNeg] at h9; first | (exfalso; omega) | skip) | skip) | exact h2 | exact h2 | exact h2 (by omega) | omega | exact True.intro | (simp only [rI_rI, rJ_rJ, hI_rI, hJ_rI, hI_rJ, hJ_rJ, hI_rR, hR_rI, hR_rJ, hN_rI, hN_rJ, svH_63, svH_66, rfH_63, wvH_63, wvH_62, wvH_67, wvH_68, wvH_69, sc_63, sc_n62, sc_n67, sc_n68, sc_n69, sc_n70, reduceIte, Nat.reduceEqDiff, eq_self, up_up, up_self, up_ne, ne_eq, not_false_eq_true, Int.reduceEq, Int.reduceNeg]; omega))
theorem m_X9_variables : MM 144 s_X9_variables := mm_of (own := 8) (by rfl) k_X9_variables (cl := [(2, s_X0_variableCount)]) ⟨m_X0_variableCount, trivial⟩ o_X9_variables
def s_X9_constraints : CS := (zc 1, ap [(3, 0)] (fun  h Rt X =>
∃ w ps s, CI h w ps s ∧ Rt (some (.inl (w 290))) h))
set_option maxRecDepth 100000 in
set_option maxHeartbeats 4000000 in
theorem o_X9_constraints : Obl true 1 1 (sp []) [] code_X9_constraints s_X9_constraints := by
  refine obl0 (by rfl) ?_
  intro  h Rt X hh hf hs
  obtain ⟨w, ps, s, hC, h2⟩ := hs
  have e : hI h 5 2 = w 290 := hC.st.o.2.1
  rw [← e] at h2
  repeat' (first | apply And.intro | (with_reducible assumption) | (intro h9; first | (exfalso; omega) | (simp only [rI_rI, rJ_rJ, hI_rI, hJ_rI, hI_rJ, hJ_rJ, hI_rR, hR_rI, hR_rJ, hN_rI, hN_rJ, svH_63, svH_66, rfH_63, wvH_63, wvH_62, wvH_67, wvH_68, wvH_69, sc_63, sc_n62, sc_n67, sc_n68, sc_n69, sc_n70, reduceIte, Nat.reduceEqDiff, eq_self, up_up, up_self, up_ne, ne_eq, not_false_eq_true, Int.reduceEq, Int.reduceNeg] at h9; first | (exfalso; omega) | skip) | skip) | exact h2 | exact h2 | exact h2 (by omega) | omega | exact True.intro | (simp only [rI_rI, rJ_rJ, hI_rI, hJ_rI, hI_rJ, hJ_rJ, hI_rR, hR_rI, hR_rJ, hN_rI, hN_rJ, svH_63, svH_66, rfH_63, wvH_63, wvH_62, wvH_67, wvH_68, wvH_69, sc_63, sc_n62, sc_n67, sc_n68, sc_n69, sc_n70, reduceIte, Nat.reduceEqDiff, eq_self, up_up, up_self, up_ne, ne_eq, not_false_eq_true, Int.reduceEq, Int.reduceNeg]; omega))
theorem m_X9_constraints : MM 151 s_X9_constraints := mm_of (own := 8) (by rfl) k_X9_constraints (cl := []) trivial o_X9_constraints
def s_X9_constraint : CS := (xc 1 6 1, ap [(3, 0), (0, 0), (0, 0)] (fun k g h Rt X =>
∃ w ps s, CI h w ps s ∧ (¬ (0 ≤ k ∧ k < w 290) → X 2 h) ∧ (0 ≤ k ∧ k < w 290 → g ≠ 0 → Rt (some (.inl (w (311 + k)))) h) ∧ (0 ≤ k ∧ k < w 290 → g = 0 → Rt (some (.inl (w (291 + k)))) h)))
set_option maxRecDepth 100000 in
set_option maxHeartbeats 4000000 in
theorem o_X9_constraint : Obl true 1 3 (sp []) [] code_X9_constraint s_X9_constraint := by
  refine obl0x (by rfl) ?_
  intro k r_k g r_g h Rt X hh hf hs
  obtain ⟨w, ps, s, hC, h2, h3, h4⟩ := hs
  have e : hI h 5 2 = w 290 := hC.st.o.2.1
  have cn := hC.wf.cn
  by_cases z : 0 ≤ k ∧ k < w 290
  · have q := hC.st.o.2.2.2.1 k z.1 z.2
    by_cases y : g = 0
    · have C := h4 z y
      rw [← q.1] at C
      repeat' (first | apply And.intro | (with_reducible assumption) | (intro h9; first | (exfalso; omega) | (simp only [rI_rI, rJ_rJ, hI_rI, hJ_rI, hI_rJ, hJ_rJ, hI_rR, hR_rI, hR_rJ, hN_rI, hN_rJ, svH_63, svH_66, rfH_63, wvH_63, wvH_62, wvH_67, wvH_68, wvH_69, sc_63, sc_n62, sc_n67, sc_n68, sc_n69, sc_n70, reduceIte, Nat.reduceEqDiff, eq_self, up_up, up_self, up_ne, ne_eq, not_false_eq_true, Int.reduceEq, Int.reduceNeg] at h9; first | (exfalso; omega) | skip) | skip) | exact C | exact h2 | exact h2 (by omega) | exact h3 | exact h3 (by omega) | exact h4 | exact h4 (by omega) | omega | exact True.intro | (simp only [rI_rI, rJ_rJ, hI_rI, hJ_rI, hI_rJ, hJ_rJ, hI_rR, hR_rI, hR_rJ, hN_rI, hN_rJ, svH_63, svH_66, rfH_63, wvH_63, wvH_62, wvH_67, wvH_68, wvH_69, sc_63, sc_n62, sc_n67, sc_n68, sc_n69, sc_n70, reduceIte, Nat.reduceEqDiff, eq_self, up_up, up_self, up_ne, ne_eq, not_false_eq_true, Int.reduceEq, Int.reduceNeg]; omega))
    · have C := h3 z y
      rw [← q.2] at C
      repeat' (first | apply And.intro | (with_reducible assumption) | (intro h9; first | (exfalso; omega) | (simp only [rI_rI, rJ_rJ, hI_rI, hJ_rI, hI_rJ, hJ_rJ, hI_rR, hR_rI, hR_rJ, hN_rI, hN_rJ, svH_63, svH_66, rfH_63, wvH_63, wvH_62, wvH_67, wvH_68, wvH_69, sc_63, sc_n62, sc_n67, sc_n68, sc_n69, sc_n70, reduceIte, Nat.reduceEqDiff, eq_self, up_up, up_self, up_ne, ne_eq, not_false_eq_true, Int.reduceEq, Int.reduceNeg] at h9; first | (exfalso; omega) | skip) | skip) | exact C | exact h2 | exact h2 (by omega) | exact h3 | exact h3 (by omega) | exact h4 | exact h4 (by omega) | omega | exact True.intro | (simp only [rI_rI, rJ_rJ, hI_rI, hJ_rI, hI_rJ, hJ_rJ, hI_rR, hR_rI, hR_rJ, hN_rI, hN_rJ, svH_63, svH_66, rfH_63, wvH_63, wvH_62, wvH_67, wvH_68, wvH_69, sc_63, sc_n62, sc_n67, sc_n68, sc_n69, sc_n70, reduceIte, Nat.reduceEqDiff, eq_self, up_up, up_self, up_ne, ne_eq, not_false_eq_true, Int.reduceEq, Int.reduceNeg]; omega))
  · have C := h2 z
    repeat' (first | apply And.intro | (with_reducible assumption) | (intro h9; first | (exfalso; omega) | (simp only [rI_rI, rJ_rJ, hI_rI, hJ_rI, hI_rJ, hJ_rJ, hI_rR, hR_rI, hR_rJ, hN_rI, hN_rJ, svH_63, svH_66, rfH_63, wvH_63, wvH_62, wvH_67, wvH_68, wvH_69, sc_63, sc_n62, sc_n67, sc_n68, sc_n69, sc_n70, reduceIte, Nat.reduceEqDiff, eq_self, up_up, up_self, up_ne, ne_eq, not_false_eq_true, Int.reduceEq, Int.reduceNeg] at h9; first | (exfalso; omega) | skip) | skip) | exact C | exact h2 | exact h2 (by omega) | exact h3 | exact h3 (by omega) | exact h4 | exact h4 (by omega) | omega | exact True.intro | (simp only [rI_rI, rJ_rJ, hI_rI, hJ_rI, hI_rJ, hJ_rJ, hI_rR, hR_rI, hR_rJ, hN_rI, hN_rJ, svH_63, svH_66, rfH_63, wvH_63, wvH_62, wvH_67, wvH_68, wvH_69, sc_63, sc_n62, sc_n67, sc_n68, sc_n69, sc_n70, reduceIte, Nat.reduceEqDiff, eq_self, up_up, up_self, up_ne, ne_eq, not_false_eq_true, Int.reduceEq, Int.reduceNeg]; omega))
theorem m_X9_constraint : MM 152 s_X9_constraint := mm_of (own := 8) (by rfl) k_X9_constraint (cl := []) trivial o_X9_constraint
def s_X9_info : CS := (xc 2 12 3, ap [(3, 0), (0, 0), (0, 0)] (fun n x h Rt X =>
∃ w ps s, CI h w ps s ∧ (¬ (0 ≤ n ∧ n < w 0) → X 2 h) ∧ (0 ≤ n ∧ n < w 0 → ¬ (0 ≤ x ∧ x ≤ 8) → X 0 h) ∧ (0 ≤ n ∧ n < w 0 → 0 ≤ x ∧ x ≤ 8 → Rt (some (.inl (toldW w n x))) h)))
set_option maxRecDepth 100000 in
set_option maxHeartbeats 4000000 in
theorem o_X9_info : Obl true 1 3 (sp [(181, s_X9_demandNode), (25, s_X0_cone), (288, s_J13_bitCount_95d88), (5, s_X0_get)]) [] code_X9_info s_X9_info := by
  refine obl0x (by rfl) ?_
  intro n r_n x r_x h Rt X hh hf hs
  obtain ⟨w, ps, s, hC, h2, h3, h4⟩ := hs
  have hW := hC.wf
  have hG := hC.gh
  have g0 := hG.n
  have nn := hW.nn
  by_cases z : 0 ≤ n ∧ n < w 0
  · by_cases y : 0 ≤ x ∧ x ≤ 8
    · by_cases u : x = 8
      · subst u
        have C := h4 z (by omega)
        unfold toldW at C
        rw [if_pos rfl, parts_eq hW z.1 z.2] at C
        repeat' (first | apply And.intro | (with_reducible assumption) | (intro h9; first | (exfalso; omega) | (simp only [rI_rI, rJ_rJ, hI_rI, hJ_rI, hI_rJ, hJ_rJ, hI_rR, hR_rI, hR_rJ, hN_rI, hN_rJ, svH_63, svH_66, rfH_63, wvH_63, wvH_62, wvH_67, wvH_68, wvH_69, sc_63, sc_n62, sc_n67, sc_n68, sc_n69, sc_n70, reduceIte, Nat.reduceEqDiff, eq_self, up_up, up_self, up_ne, ne_eq, not_false_eq_true, Int.reduceEq, Int.reduceNeg] at h9; first | (exfalso; omega) | skip) | skip) | refine Exists.intro w ?_ | exact hG | exact hW | exact C | exact h2 | exact h2 (by omega) | exact h3 | exact h3 (by omega) | exact h4 | exact h4 (by omega) | omega | exact True.intro | (simp only [rI_rI, rJ_rJ, hI_rI, hJ_rI, hI_rJ, hJ_rJ, hI_rR, hR_rI, hR_rJ, hN_rI, hN_rJ, svH_63, svH_66, rfH_63, wvH_63, wvH_62, wvH_67, wvH_68, wvH_69, sc_63, sc_n62, sc_n67, sc_n68, sc_n69, sc_n70, reduceIte, Nat.reduceEqDiff, eq_self, up_up, up_self, up_ne, ne_eq, not_false_eq_true, Int.reduceEq, Int.reduceNeg]; omega))
      · have C := h4 z y
        rw [← told_gh hG z.1 z.2 hW y.1 (by omega)] at C
        repeat' (first | apply And.intro | (with_reducible assumption) | (intro h9; first | (exfalso; omega) | (simp only [rI_rI, rJ_rJ, hI_rI, hJ_rI, hI_rJ, hJ_rJ, hI_rR, hR_rI, hR_rJ, hN_rI, hN_rJ, svH_63, svH_66, rfH_63, wvH_63, wvH_62, wvH_67, wvH_68, wvH_69, sc_63, sc_n62, sc_n67, sc_n68, sc_n69, sc_n70, reduceIte, Nat.reduceEqDiff, eq_self, up_up, up_self, up_ne, ne_eq, not_false_eq_true, Int.reduceEq, Int.reduceNeg] at h9; first | (exfalso; omega) | skip) | skip) | exact C | exact h2 | exact h2 (by omega) | exact h3 | exact h3 (by omega) | exact h4 | exact h4 (by omega) | omega | exact True.intro | (simp only [rI_rI, rJ_rJ, hI_rI, hJ_rI, hI_rJ, hJ_rJ, hI_rR, hR_rI, hR_rJ, hN_rI, hN_rJ, svH_63, svH_66, rfH_63, wvH_63, wvH_62, wvH_67, wvH_68, wvH_69, sc_63, sc_n62, sc_n67, sc_n68, sc_n69, sc_n70, reduceIte, Nat.reduceEqDiff, eq_self, up_up, up_self, up_ne, ne_eq, not_false_eq_true, Int.reduceEq, Int.reduceNeg]; omega))
    · have C := h3 z y
      repeat' (first | apply And.intro | (with_reducible assumption) | (intro h9; first | (exfalso; omega) | (simp only [rI_rI, rJ_rJ, hI_rI, hJ_rI, hI_rJ, hJ_rJ, hI_rR, hR_rI, hR_rJ, hN_rI, hN_rJ, svH_63, svH_66, rfH_63, wvH_63, wvH_62, wvH_67, wvH_68, wvH_69, sc_63, sc_n62, sc_n67, sc_n68, sc_n69, sc_n70, reduceIte, Nat.reduceEqDiff, eq_self, up_up, up_self, up_ne, ne_eq, not_false_eq_true, Int.reduceEq, Int.reduceNeg] at h9; first | (exfalso; omega) | skip) | skip) | exact C | exact h2 | exact h2 (by omega) | exact h3 | exact h3 (by omega) | exact h4 | exact h4 (by omega) | omega | exact True.intro | (simp only [rI_rI, rJ_rJ, hI_rI, hJ_rI, hI_rJ, hJ_rJ, hI_rR, hR_rI, hR_rJ, hN_rI, hN_rJ, svH_63, svH_66, rfH_63, wvH_63, wvH_62, wvH_67, wvH_68, wvH_69, sc_63, sc_n62, sc_n67, sc_n68, sc_n69, sc_n70, reduceIte, Nat.reduceEqDiff, eq_self, up_up, up_self, up_ne, ne_eq, not_false_eq_true, Int.reduceEq, Int.reduceNeg]; omega))
  · have C := h2 z
    repeat' (first | apply And.intro | (with_reducible assumption) | (intro h9; first | (exfalso; omega) | (simp only [rI_rI, rJ_rJ, hI_rI, hJ_rI, hI_rJ, hJ_rJ, hI_rR, hR_rI, hR_rJ, hN_rI, hN_rJ, svH_63, svH_66, rfH_63, wvH_63, wvH_62, wvH_67, wvH_68, wvH_69, sc_63, sc_n62, sc_n67, sc_n68, sc_n69, sc_n70, reduceIte, Nat.reduceEqDiff, eq_self, up_up, up_self, up_ne, ne_eq, not_false_eq_true, Int.reduceEq, Int.reduceNeg] at h9; first | (exfalso; omega) | skip) | skip) | exact C | exact h2 | exact h2 (by omega) | exact h3 | exact h3 (by omega) | exact h4 | exact h4 (by omega) | omega | exact True.intro | (simp only [rI_rI, rJ_rJ, hI_rI, hJ_rI, hI_rJ, hJ_rJ, hI_rR, hR_rI, hR_rJ, hN_rI, hN_rJ, svH_63, svH_66, rfH_63, wvH_63, wvH_62, wvH_67, wvH_68, wvH_69, sc_63, sc_n62, sc_n67, sc_n68, sc_n69, sc_n70, reduceIte, Nat.reduceEqDiff, eq_self, up_up, up_self, up_ne, ne_eq, not_false_eq_true, Int.reduceEq, Int.reduceNeg]; omega))
theorem m_X9_info : MM 145 s_X9_info := mm_of (own := 8) (by rfl) k_X9_info (cl := [(181, s_X9_demandNode), (25, s_X0_cone), (288, s_J13_bitCount_95d88), (5, s_X0_get)]) ⟨m_X9_demandNode, m_X0_cone, m_J13_bitCount_95d88, m_X0_get, trivial⟩ o_X9_info
def s_X9_value : CS := (xc 1 6 5, ap [(3, 0), (0, 0), (0, 0)] (fun n g h Rt X =>
∃ w ps s, CI h w ps s ∧ (¬ (0 ≤ n ∧ n < w 0) → X 2 h) ∧ (0 ≤ n ∧ n < w 0 → Go h w ps s (Rt (some (.inl (rd w n g (vl w (fun v => w (286 + v)) n))))))))
set_option maxRecDepth 100000 in
set_option maxHeartbeats 4000000 in
theorem o_X9_value : Obl true 1 5 (sp [(181, s_X9_demandNode), (31, s_X0_assignment), (25, s_X0_cone), (45, s_X3_run), (46, s_X3_wordAt), (5, s_X0_get), (188, s_X9_signedWord)]) [] code_X9_value s_X9_value := by
  refine obl0x (by rfl) ?_
  intro n r_n g r_g h Rt X hh hf hs
  obtain ⟨w, ps, s, hC, h2, h3⟩ := hs
  have hW := hC.wf
  have hG := hC.gh
  have g0 := hG.n
  have nn := hW.nn
  have hE : Ev w (hI h 10) := (hW.o.2.2.2.2.2.2.2.2.2.2.2).nx hW (Nx.rf w) rfl (fun v v0 v1 => hC.st.o.2.2.2.2.2 v v0 v1)
  by_cases z : 0 ≤ n ∧ n < w 0
  · have wd := hW.wd z.1 z.2
    have c1 := hG.k1 z.1 z.2
    have cc := cone_clo hW z.1 z.2
    have tt := tot_rng hW
    have V : ∀ N Q, 0 ≤ N → N < tot w → VlL w Q (sShr N 6) (coneW w n) (w 0) → Asg w (hI h 10) (asg w N) → lw Q (N % 64).toNat (n * 8) (nd w n 1).toNat = vl w (fun v => w (286 + v)) n := fun N Q a b c d => val_at hW z.1 z.2 a b c cc.2 d fun v v0 v1 => hC.st.o.2.2.2.2.2 v v0 v1
    have L : ∀ (N : Int) (Q : Int → Int64), 0 ≤ lw Q (N % 64).toNat (n * 8) (nd w n 1).toNat ∧ lw Q (N % 64).toNat (n * 8) (nd w n 1).toNat < p2 (nd w n 1) := fun N Q => lw_rngi Q _ _ (by omega)
    have G : ∀ R Q, GH (rJ (rJ h 45 R) 44 Q) w := fun R Q => (hC.run R Q).gh
    by_cases y : g = 0
    · have C : ∀ N R Q, 0 ≤ N → N < tot w → VlL w Q (sShr N 6) (coneW w n) (w 0) → Asg w (hI h 10) (asg w N) → Rt (some (.inl (lw Q (N % 64).toNat (n * 8) (nd w n 1).toNat))) (rJ (rJ h 45 R) 44 Q) := fun N R Q a b c d => by
        rw [V N Q a b c d]
        have K := h3 z _ (hC.run R Q) (Kp.run h R Q)
        unfold rd at K
        rw [if_pos y] at K
        exact K
      repeat' (first | apply And.intro | (with_reducible assumption) | (intro h9; first | (exfalso; omega) | (simp only [rI_rI, rJ_rJ, hI_rI, hJ_rI, hI_rJ, hJ_rJ, hI_rR, hR_rI, hR_rJ, hN_rI, hN_rJ, svH_63, svH_66, rfH_63, wvH_63, wvH_62, wvH_67, wvH_68, wvH_69, sc_63, sc_n62, sc_n67, sc_n68, sc_n69, sc_n70, reduceIte, Nat.reduceEqDiff, eq_self, up_up, up_self, up_ne, ne_eq, not_false_eq_true, Int.reduceEq, Int.reduceNeg] at h9; first | (exfalso; omega) | skip) | skip) | refine Exists.intro w ?_ | exact hG | exact hW | exact hE | exact cc.1 | exact G _ _ | exact C _ _ _ (by assumption) (by assumption) (by assumption) (by assumption) | exact h2 | exact h2 (by omega) | exact h3 | exact h3 (by omega) | omega | exact True.intro | (simp only [rI_rI, rJ_rJ, hI_rI, hJ_rI, hI_rJ, hJ_rJ, hI_rR, hR_rI, hR_rJ, hN_rI, hN_rJ, svH_63, svH_66, rfH_63, wvH_63, wvH_62, wvH_67, wvH_68, wvH_69, sc_63, sc_n62, sc_n67, sc_n68, sc_n69, sc_n70, reduceIte, Nat.reduceEqDiff, eq_self, up_up, up_self, up_ne, ne_eq, not_false_eq_true, Int.reduceEq, Int.reduceNeg]; omega))
    · have C : ∀ N R Q, 0 ≤ N → N < tot w → VlL w Q (sShr N 6) (coneW w n) (w 0) → Asg w (hI h 10) (asg w N) → Rt (some (.inl (sgn (lw Q (N % 64).toNat (n * 8) (nd w n 1).toNat) (hI h 2 (n * 8 + 1))))) (rJ (rJ h 45 R) 44 Q) := fun N R Q a b c d => by
        rw [V N Q a b c d, c1]
        have K := h3 z _ (hC.run R Q) (Kp.run h R Q)
        unfold rd at K
        rw [if_neg y] at K
        exact K
      have W : 1 ≤ hI h 2 (n * 8 + 1) ∧ hI h 2 (n * 8 + 1) ≤ 8 := by omega
      have L1 : ∀ (N : Int) (Q : Int → Int64), lw Q (N % 64).toNat (n * 8) (nd w n 1).toNat < p2 (hI h 2 (n * 8 + 1)) := fun N Q => by rw [c1]; exact (L N Q).2
      repeat' (first | apply And.intro | (with_reducible assumption) | (intro h9; first | (exfalso; omega) | (simp only [rI_rI, rJ_rJ, hI_rI, hJ_rI, hI_rJ, hJ_rJ, hI_rR, hR_rI, hR_rJ, hN_rI, hN_rJ, svH_63, svH_66, rfH_63, wvH_63, wvH_62, wvH_67, wvH_68, wvH_69, sc_63, sc_n62, sc_n67, sc_n68, sc_n69, sc_n70, reduceIte, Nat.reduceEqDiff, eq_self, up_up, up_self, up_ne, ne_eq, not_false_eq_true, Int.reduceEq, Int.reduceNeg] at h9; first | (exfalso; omega) | skip) | skip) | refine Exists.intro w ?_ | exact hG | exact hW | exact hE | exact cc.1 | exact G _ _ | exact W.1 | exact W.2 | exact (L _ _).1 | exact L1 _ _ | exact C _ _ _ (by assumption) (by assumption) (by assumption) (by assumption) | exact h2 | exact h2 (by omega) | exact h3 | exact h3 (by omega) | omega | exact True.intro | (simp only [rI_rI, rJ_rJ, hI_rI, hJ_rI, hI_rJ, hJ_rJ, hI_rR, hR_rI, hR_rJ, hN_rI, hN_rJ, svH_63, svH_66, rfH_63, wvH_63, wvH_62, wvH_67, wvH_68, wvH_69, sc_63, sc_n62, sc_n67, sc_n68, sc_n69, sc_n70, reduceIte, Nat.reduceEqDiff, eq_self, up_up, up_self, up_ne, ne_eq, not_false_eq_true, Int.reduceEq, Int.reduceNeg]; omega))
  · have C := h2 z
    repeat' (first | apply And.intro | (with_reducible assumption) | (intro h9; first | (exfalso; omega) | (simp only [rI_rI, rJ_rJ, hI_rI, hJ_rI, hI_rJ, hJ_rJ, hI_rR, hR_rI, hR_rJ, hN_rI, hN_rJ, svH_63, svH_66, rfH_63, wvH_63, wvH_62, wvH_67, wvH_68, wvH_69, sc_63, sc_n62, sc_n67, sc_n68, sc_n69, sc_n70, reduceIte, Nat.reduceEqDiff, eq_self, up_up, up_self, up_ne, ne_eq, not_false_eq_true, Int.reduceEq, Int.reduceNeg] at h9; first | (exfalso; omega) | skip) | skip) | exact C | exact h2 | exact h2 (by omega) | exact h3 | exact h3 (by omega) | omega | exact True.intro | (simp only [rI_rI, rJ_rJ, hI_rI, hJ_rI, hI_rJ, hJ_rJ, hI_rR, hR_rI, hR_rJ, hN_rI, hN_rJ, svH_63, svH_66, rfH_63, wvH_63, wvH_62, wvH_67, wvH_68, wvH_69, sc_63, sc_n62, sc_n67, sc_n68, sc_n69, sc_n70, reduceIte, Nat.reduceEqDiff, eq_self, up_up, up_self, up_ne, ne_eq, not_false_eq_true, Int.reduceEq, Int.reduceNeg]; omega))
theorem m_X9_value : MM 147 s_X9_value := mm_of (own := 8) (by rfl) k_X9_value (cl := [(181, s_X9_demandNode), (31, s_X0_assignment), (25, s_X0_cone), (45, s_X3_run), (46, s_X3_wordAt), (5, s_X0_get), (188, s_X9_signedWord)]) ⟨m_X9_demandNode, m_X0_assignment, m_X0_cone, m_X3_run, m_X3_wordAt, m_X0_get, m_X9_signedWord, trivial⟩ o_X9_value
def s_X9_character : CS := (zc 2, ap [(3, 0), (0, 0)] (fun k h Rt X =>
∃ w ps s, CI h w ps s ∧ Rt (some (.inl (tA (hI h) k))) h))
set_option maxRecDepth 100000 in
set_option maxHeartbeats 4000000 in
theorem o_X9_character : Obl true 1 2 (sp [(125, s_X7_at)]) [] code_X9_character s_X9_character := by
  refine obl0 (by rfl) ?_
  intro k r_k h Rt X hh hf hs
  obtain ⟨w, ps, s, hC, h2⟩ := hs
  have t := hC.tl
  repeat' (first | apply And.intro | (with_reducible assumption) | (intro h9; first | (exfalso; omega) | (simp only [rI_rI, rJ_rJ, hI_rI, hJ_rI, hI_rJ, hJ_rJ, hI_rR, hR_rI, hR_rJ, hN_rI, hN_rJ, svH_63, svH_66, rfH_63, wvH_63, wvH_62, wvH_67, wvH_68, wvH_69, sc_63, sc_n62, sc_n67, sc_n68, sc_n69, sc_n70, reduceIte, Nat.reduceEqDiff, eq_self, up_up, up_self, up_ne, ne_eq, not_false_eq_true, Int.reduceEq, Int.reduceNeg] at h9; first | (exfalso; omega) | skip) | skip) | exact h2 | exact h2 | exact h2 (by omega) | omega | exact True.intro | (simp only [rI_rI, rJ_rJ, hI_rI, hJ_rI, hI_rJ, hJ_rJ, hI_rR, hR_rI, hR_rJ, hN_rI, hN_rJ, svH_63, svH_66, rfH_63, wvH_63, wvH_62, wvH_67, wvH_68, wvH_69, sc_63, sc_n62, sc_n67, sc_n68, sc_n69, sc_n70, reduceIte, Nat.reduceEqDiff, eq_self, up_up, up_self, up_ne, ne_eq, not_false_eq_true, Int.reduceEq, Int.reduceNeg]; omega))
theorem m_X9_character : MM 173 s_X9_character := mm_of (own := 8) (by rfl) k_X9_character (cl := [(125, s_X7_at)]) ⟨m_X7_at, trivial⟩ o_X9_character
def s_X9_clearText : CS := (zc 2, ap [(3, 0)] (fun  h Rt X =>
Rt (some (.inl (hI h 49 1))) (rI h 49 (up (hI h 49) 1 0))))
set_option maxRecDepth 100000 in
set_option maxHeartbeats 4000000 in
theorem o_X9_clearText : Obl true 1 2 (sp [(124, s_X7_length), (127, s_X7_empty)]) [] code_X9_clearText s_X9_clearText := by
  refine obl0 (by rfl) ?_
  intro  h Rt X hh hf hs
  repeat' (first | apply And.intro | (with_reducible assumption) | (intro h9; first | (exfalso; omega) | (simp only [rI_rI, rJ_rJ, hI_rI, hJ_rI, hI_rJ, hJ_rJ, hI_rR, hR_rI, hR_rJ, hN_rI, hN_rJ, svH_63, svH_66, rfH_63, wvH_63, wvH_62, wvH_67, wvH_68, wvH_69, sc_63, sc_n62, sc_n67, sc_n68, sc_n69, sc_n70, reduceIte, Nat.reduceEqDiff, eq_self, up_up, up_self, up_ne, ne_eq, not_false_eq_true, Int.reduceEq, Int.reduceNeg] at h9; first | (exfalso; omega) | skip) | skip) | exact hs | exact hs | omega | exact True.intro | (simp only [rI_rI, rJ_rJ, hI_rI, hJ_rI, hI_rJ, hJ_rJ, hI_rR, hR_rI, hR_rJ, hN_rI, hN_rJ, svH_63, svH_66, rfH_63, wvH_63, wvH_62, wvH_67, wvH_68, wvH_69, sc_63, sc_n62, sc_n67, sc_n68, sc_n69, sc_n70, reduceIte, Nat.reduceEqDiff, eq_self, up_up, up_self, up_ne, ne_eq, not_false_eq_true, Int.reduceEq, Int.reduceNeg]; omega))
theorem m_X9_clearText : MM 169 s_X9_clearText := mm_of (own := 8) (by rfl) k_X9_clearText (cl := [(124, s_X7_length), (127, s_X7_empty)]) ⟨m_X7_length, m_X7_empty, trivial⟩ o_X9_clearText
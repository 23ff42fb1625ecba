/-! ===== the class's methods where nothing is thrown: nothing is made ===== -/
def s_X9_demandNode0 : CS := (zc 2, ap [(3, 0), (0, 0)] (fun n h Rt X =>
(0 ≤ n ∧ n < hI h 1 3) ∧ Rt none h))
set_option maxRecDepth 100000 in
set_option maxHeartbeats 4000000 in
theorem o_X9_demandNode0 : Obl true 0 2 (sp [(3, s_X0_has)]) [] code_X9_demandNode s_X9_demandNode0 := by
  refine obl0 (by rfl) ?_
  intro n r_n h Rt X hh hf hs
  obtain ⟨h1, h2⟩ := hs
  repeat' (first | apply And.intro | (with_reducible assumption) | (intro h9; first | (exfalso; omega) | (simp only [rI_rI, rJ_rJ, hI_rI, hJ_rI, hI_rJ, hJ_rJ, hI_rR, hR_rI, hR_rJ, hN_rI, hN_rJ, svH_63, svH_66, rfH_63, wvH_63, wvH_62, wvH_67, wvH_68, wvH_69, sc_63, sc_n62, sc_n67, sc_n68, sc_n69, sc_n70, reduceIte, Nat.reduceEqDiff, eq_self, up_up, up_self, up_ne, ne_eq, not_false_eq_true, Int.reduceEq, Int.reduceNeg] at h9; first | (exfalso; omega) | skip) | skip) | exact h1 | exact h1 (by omega) | exact h2 | exact h2 (by omega) | omega | exact True.intro | (simp only [rI_rI, rJ_rJ, hI_rI, hJ_rI, hI_rJ, hJ_rJ, hI_rR, hR_rI, hR_rJ, hN_rI, hN_rJ, svH_63, svH_66, rfH_63, wvH_63, wvH_62, wvH_67, wvH_68, wvH_69, sc_63, sc_n62, sc_n67, sc_n68, sc_n69, sc_n70, reduceIte, Nat.reduceEqDiff, eq_self, up_up, up_self, up_ne, ne_eq, not_false_eq_true, Int.reduceEq, Int.reduceNeg]; omega))
theorem m_X9_demandNode0 : MM 181 s_X9_demandNode0 := mm_of (own := 8) (by rfl) k_X9_demandNode (cl := [(3, s_X0_has)]) ⟨m_X0_has, trivial⟩ o_X9_demandNode0
def s_X9_demandVariable0 : CS := (zc 2, ap [(3, 0), (0, 0)] (fun n h Rt X =>
(0 ≤ n ∧ n < hI h 1 4) ∧ Rt none h))
set_option maxRecDepth 100000 in
set_option maxHeartbeats 4000000 in
theorem o_X9_demandVariable0 : Obl true 0 2 (sp [(4, s_X0_hasVariable)]) [] code_X9_demandVariable s_X9_demandVariable0 := by
  refine obl0 (by rfl) ?_
  intro n r_n h Rt X hh hf hs
  obtain ⟨h1, h2⟩ := hs
  repeat' (first | apply And.intro | (with_reducible assumption) | (intro h9; first | (exfalso; omega) | (simp only [rI_rI, rJ_rJ, hI_rI, hJ_rI, hI_rJ, hJ_rJ, hI_rR, hR_rI, hR_rJ, hN_rI, hN_rJ, svH_63, svH_66, rfH_63, wvH_63, wvH_62, wvH_67, wvH_68, wvH_69, sc_63, sc_n62, sc_n67, sc_n68, sc_n69, sc_n70, reduceIte, Nat.reduceEqDiff, eq_self, up_up, up_self, up_ne, ne_eq, not_false_eq_true, Int.reduceEq, Int.reduceNeg] at h9; first | (exfalso; omega) | skip) | skip) | exact h1 | exact h1 (by omega) | exact h2 | exact h2 (by omega) | omega | exact True.intro | (simp only [rI_rI, rJ_rJ, hI_rI, hJ_rI, hI_rJ, hJ_rJ, hI_rR, hR_rI, hR_rJ, hN_rI, hN_rJ, svH_63, svH_66, rfH_63, wvH_63, wvH_62, wvH_67, wvH_68, wvH_69, sc_63, sc_n62, sc_n67, sc_n68, sc_n69, sc_n70, reduceIte, Nat.reduceEqDiff, eq_self, up_up, up_self, up_ne, ne_eq, not_false_eq_true, Int.reduceEq, Int.reduceNeg]; omega))
theorem m_X9_demandVariable0 : MM 182 s_X9_demandVariable0 := mm_of (own := 8) (by rfl) k_X9_demandVariable (cl := [(4, s_X0_hasVariable)]) ⟨m_X0_hasVariable, trivial⟩ o_X9_demandVariable0
def s_X9_constraint0 : CS := (zc 1, ap [(3, 0), (0, 0), (0, 0)] (fun k g h Rt X =>
∃ w ps s, CI h w ps s ∧ (0 ≤ k ∧ k < w 290 ∧ g = 0) ∧ Rt (some (.inl (w (291 + k)))) h))
set_option maxRecDepth 100000 in
set_option maxHeartbeats 4000000 in
theorem o_X9_constraint0 : Obl true 1 3 (sp []) [] code_X9_constraint s_X9_constraint0 := by
  refine obl0 (by rfl) ?_
  intro k r_k g r_g h Rt X hh hf hs
  obtain ⟨w, ps, s, hC, h2, h3⟩ := hs
  have e : hI h 5 2 = w 290 := hC.st.o.2.1
  have cn := hC.wf.cn
  have q := hC.st.o.2.2.2.1 k h2.1 h2.2.1
  have C := h3
  rw [← q.1] at C
  repeat' (first | apply And.intro | (with_reducible assumption) | (intro h9; first | (exfalso; omega) | (simp only [rI_rI, rJ_rJ, hI_rI, hJ_rI, hI_rJ, hJ_rJ, hI_rR, hR_rI, hR_rJ, hN_rI, hN_rJ, svH_63, svH_66, rfH_63, wvH_63, wvH_62, wvH_67, wvH_68, wvH_69, sc_63, sc_n62, sc_n67, sc_n68, sc_n69, sc_n70, reduceIte, Nat.reduceEqDiff, eq_self, up_up, up_self, up_ne, ne_eq, not_false_eq_true, Int.reduceEq, Int.reduceNeg] at h9; first | (exfalso; omega) | skip) | skip) | exact C | exact h2 | exact h2 (by omega) | exact h3 | exact h3 (by omega) | omega | exact True.intro | (simp only [rI_rI, rJ_rJ, hI_rI, hJ_rI, hI_rJ, hJ_rJ, hI_rR, hR_rI, hR_rJ, hN_rI, hN_rJ, svH_63, svH_66, rfH_63, wvH_63, wvH_62, wvH_67, wvH_68, wvH_69, sc_63, sc_n62, sc_n67, sc_n68, sc_n69, sc_n70, reduceIte, Nat.reduceEqDiff, eq_self, up_up, up_self, up_ne, ne_eq, not_false_eq_true, Int.reduceEq, Int.reduceNeg]; omega))
theorem m_X9_constraint0 : MM 152 s_X9_constraint0 := mm_of (own := 8) (by rfl) k_X9_constraint (cl := []) trivial o_X9_constraint0
def s_X9_value0 : CS := (zc 5, ap [(3, 0), (0, 0), (0, 0)] (fun n g h Rt X =>
∃ w ps s, CI h w ps s ∧ (0 ≤ n ∧ n < w 0 ∧ g = 0) ∧ Go h w ps s (Rt (some (.inl (vl w (fun v => w (286 + v)) n))))))
set_option maxRecDepth 100000 in
set_option maxHeartbeats 4000000 in
theorem o_X9_value0 : Obl true 1 5 (sp [(181, s_X9_demandNode0), (31, s_X0_assignment), (25, s_X0_cone), (45, s_X3_run), (46, s_X3_wordAt), (5, s_X0_get), (188, s_X9_signedWord)]) [] code_X9_value s_X9_value0 := by
  refine obl0 (by rfl) ?_
  intro n r_n g r_g h Rt X hh hf hs
  obtain ⟨w, ps, s, hC, z, h3⟩ := hs
  have hW := hC.wf
  have hG := hC.gh
  have g0 := hG.n
  have nn := hW.nn
  have hE : Ev w (hI h 10) := (hW.o.2.2.2.2.2.2.2.2.2.2.2).nx hW (Nx.rf w) rfl (fun v v0 v1 => hC.st.o.2.2.2.2.2 v v0 v1)
  have wd := hW.wd z.1 z.2.1
  have c1 := hG.k1 z.1 z.2.1
  have cc := cone_clo hW z.1 z.2.1
  have tt := tot_rng hW
  have V : ∀ N Q, 0 ≤ N → N < tot w → VlL w Q (sShr N 6) (coneW w n) (w 0) → Asg w (hI h 10) (asg w N) → lw Q (N % 64).toNat (n * 8) (nd w n 1).toNat = vl w (fun v => w (286 + v)) n := fun N Q a b c d => val_at hW z.1 z.2.1 a b c cc.2 d fun v v0 v1 => hC.st.o.2.2.2.2.2 v v0 v1
  have L : ∀ (N : Int) (Q : Int → Int64), 0 ≤ lw Q (N % 64).toNat (n * 8) (nd w n 1).toNat ∧ lw Q (N % 64).toNat (n * 8) (nd w n 1).toNat < p2 (nd w n 1) := fun N Q => lw_rngi Q _ _ (by omega)
  have G : ∀ R Q, GH (rJ (rJ h 45 R) 44 Q) w := fun R Q => (hC.run R Q).gh
  have C : ∀ N R Q, 0 ≤ N → N < tot w → VlL w Q (sShr N 6) (coneW w n) (w 0) → Asg w (hI h 10) (asg w N) → Rt (some (.inl (lw Q (N % 64).toNat (n * 8) (nd w n 1).toNat))) (rJ (rJ h 45 R) 44 Q) := fun N R Q a b c d => by
    rw [V N Q a b c d]
    exact h3 _ (hC.run R Q) (Kp.run h R Q)
  repeat' (first | apply And.intro | (with_reducible assumption) | (intro h9; first | (exfalso; omega) | (simp only [rI_rI, rJ_rJ, hI_rI, hJ_rI, hI_rJ, hJ_rJ, hI_rR, hR_rI, hR_rJ, hN_rI, hN_rJ, svH_63, svH_66, rfH_63, wvH_63, wvH_62, wvH_67, wvH_68, wvH_69, sc_63, sc_n62, sc_n67, sc_n68, sc_n69, sc_n70, reduceIte, Nat.reduceEqDiff, eq_self, up_up, up_self, up_ne, ne_eq, not_false_eq_true, Int.reduceEq, Int.reduceNeg, hs_1, hs_2, hs_5, hs_10, hs_46] at h9; first | (exfalso; omega) | skip) | skip) | refine Exists.intro w ?_ | exact hG | exact hW | exact hE | exact cc.1 | exact G _ _ | exact C _ _ _ (by assumption) (by assumption) (by assumption) (by assumption) | exact h3 | exact h3 (by omega) | omega | exact True.intro | (simp only [rI_rI, rJ_rJ, hI_rI, hJ_rI, hI_rJ, hJ_rJ, hI_rR, hR_rI, hR_rJ, hN_rI, hN_rJ, svH_63, svH_66, rfH_63, wvH_63, wvH_62, wvH_67, wvH_68, wvH_69, sc_63, sc_n62, sc_n67, sc_n68, sc_n69, sc_n70, reduceIte, Nat.reduceEqDiff, eq_self, up_up, up_self, up_ne, ne_eq, not_false_eq_true, Int.reduceEq, Int.reduceNeg, hs_1, hs_2, hs_5, hs_10, hs_46]; omega))
theorem m_X9_value0 : MM 147 s_X9_value0 := mm_of (own := 8) (by rfl) k_X9_value (cl := [(181, s_X9_demandNode0), (31, s_X0_assignment), (25, s_X0_cone), (45, s_X3_run), (46, s_X3_wordAt), (5, s_X0_get), (188, s_X9_signedWord)]) ⟨m_X9_demandNode0, m_X0_assignment, m_X0_cone, m_X3_run, m_X3_wordAt, m_X0_get, m_X9_signedWord, trivial⟩ o_X9_value0
def s_X9_input0 : CS := (zc 4, ap [(3, 0), (0, 0), (0, 0)] (fun v x h Rt X =>
∃ w ps s, CI h w ps s ∧ (0 ≤ v ∧ v < w 281) ∧ (0 ≤ x ∧ x < p2 (nd w (w (282 + v)) 1)) ∧ Go h (inW w v x) (svPp ps s w) (svS s) (Rt (some (.inl (w (286 + v)))))))
set_option maxRecDepth 100000 in
set_option maxHeartbeats 4000000 in
theorem o_X9_input0 : Obl true 1 4 (sp [(182, s_X9_demandVariable0), (8, s_X0_variableWidth), (186, s_X9_isWord), (180, s_X9_remember)]) [] code_X9_input s_X9_input0 := by
  refine obl0 (by rfl) ?_
  intro v r_v x r_x h Rt X hh hf hs
  obtain ⟨w, ps, s, hC, z, y, h4⟩ := hs
  have hW := hC.wf
  have hG := hC.gh
  have hS := hC.st
  have g0 := hG.n
  have g1 := hG.v
  have vn := hW.vn
  have va := hW.var z.1 z.2
  have wd := hW.wd va.1 va.2.1
  have i := hS.o.2.2.2.2.2 v z.1 z.2
  have C : ∀ f r, HR f r (svPp ps s w) (svS s) → Rt (some (.inl (hI h 10 v))) (rI (hsH h f r) 10 (up (hI h 10) v x)) := fun f r k => by
    rw [show hI h 10 v = w (286 + v) from i]
    exact h4 _ (inp_ci (hC.hs k) z.1 z.2 y.1 y.2) ((Kp.hs h f r).tr (Kp.r (by decide) _))
  repeat' (first | apply And.intro | (with_reducible assumption) | (intro h9; first | (exfalso; omega) | (simp only [rI_rI, rJ_rJ, hI_rI, hJ_rI, hI_rJ, hJ_rJ, hI_rR, hR_rI, hR_rJ, hN_rI, hN_rJ, svH_63, svH_66, rfH_63, wvH_63, wvH_62, wvH_67, wvH_68, wvH_69, sc_63, sc_n62, sc_n67, sc_n68, sc_n69, sc_n70, reduceIte, Nat.reduceEqDiff, eq_self, up_up, up_self, up_ne, ne_eq, not_false_eq_true, Int.reduceEq, Int.reduceNeg, hs_1, hs_2, hs_5, hs_10, hs_46] at h9; first | (exfalso; omega) | skip) | skip) | exact ⟨w, ps, s, hC.hr, hS, hW.cts, g0, fun _ _ _ => ?_⟩ | refine ⟨w, ps, s, hC.hr, hS, hW.cts, g0, fun f9 r9 k9 => ?_⟩ | refine Exists.intro w ?_ | exact hG | exact hW | exact C _ _ (by assumption) | exact h4 | exact h4 (by omega) | omega | exact True.intro | (simp only [rI_rI, rJ_rJ, hI_rI, hJ_rI, hI_rJ, hJ_rJ, hI_rR, hR_rI, hR_rJ, hN_rI, hN_rJ, svH_63, svH_66, rfH_63, wvH_63, wvH_62, wvH_67, wvH_68, wvH_69, sc_63, sc_n62, sc_n67, sc_n68, sc_n69, sc_n70, reduceIte, Nat.reduceEqDiff, eq_self, up_up, up_self, up_ne, ne_eq, not_false_eq_true, Int.reduceEq, Int.reduceNeg, hs_1, hs_2, hs_5, hs_10, hs_46]; omega))
theorem m_X9_input0 : MM 146 s_X9_input0 := mm_of (own := 8) (by rfl) k_X9_input (cl := [(182, s_X9_demandVariable0), (8, s_X0_variableWidth), (186, s_X9_isWord), (180, s_X9_remember)]) ⟨m_X9_demandVariable0, m_X0_variableWidth, m_X9_isWord, m_X9_remember, trivial⟩ o_X9_input0
def s_X9_witness0 : CS := (zc 7, ap [(3, 0), (0, 0)] (fun v h Rt X =>
∃ w ps s, CI h w ps s ∧ (0 ≤ v ∧ v < w 281) ∧ Go h w ps s (Rt (some (.inl (wrd w (nxt w 0) v))))))
set_option maxRecDepth 100000 in
set_option maxHeartbeats 4000000 in
theorem o_X9_witness0 : Obl true 1 2 (sp [(182, s_X9_demandVariable0), (97, s_X5_leastModel), (32, s_X0_variableWord)]) [] code_X9_witness s_X9_witness0 := by
  refine obl0 (by rfl) ?_
  intro v r_v h Rt X hh hf hs
  obtain ⟨w, ps, s, hC, z, h3⟩ := hs
  have hW := hC.wf
  have hG := hC.gh
  have hS := hC.st
  have hK := hC.sk
  have g1 := hG.v
  have lt := nxt_lt hW 0
  have G : ∀ F R Q L, GH (se h F R Q L) w := fun F R Q L => by exact hG
  have C : ∀ F R Q L, FM w (hI h 46) F L → Rt (some (.inl (wrd w (nxt w 0) v))) (se h F R Q L) := fun F R Q L hf => h3 _ (hC.se hf.sk R Q) (Kp.se h F R Q L)
  repeat' (first | apply And.intro | (with_reducible assumption) | (intro h9; first | (exfalso; omega) | (simp only [rI_rI, rJ_rJ, hI_rI, hJ_rI, hI_rJ, hJ_rJ, hI_rR, hR_rI, hR_rJ, hN_rI, hN_rJ, svH_63, svH_66, rfH_63, wvH_63, wvH_62, wvH_67, wvH_68, wvH_69, sc_63, sc_n62, sc_n67, sc_n68, sc_n69, sc_n70, reduceIte, Nat.reduceEqDiff, eq_self, up_up, up_self, up_ne, ne_eq, not_false_eq_true, Int.reduceEq, Int.reduceNeg, hs_1, hs_2, hs_5, hs_10, hs_46, se_aI, se_aJ] at h9; first | (exfalso; omega) | skip) | skip) | refine Exists.intro w ?_ | exact hG | exact hW | exact hS | exact hK | exact G _ _ _ _ | exact C _ _ _ _ (by assumption) | exact h3 | exact h3 (by omega) | omega | exact True.intro | (simp only [rI_rI, rJ_rJ, hI_rI, hJ_rI, hI_rJ, hJ_rJ, hI_rR, hR_rI, hR_rJ, hN_rI, hN_rJ, svH_63, svH_66, rfH_63, wvH_63, wvH_62, wvH_67, wvH_68, wvH_69, sc_63, sc_n62, sc_n67, sc_n68, sc_n69, sc_n70, reduceIte, Nat.reduceEqDiff, eq_self, up_up, up_self, up_ne, ne_eq, not_false_eq_true, Int.reduceEq, Int.reduceNeg, hs_1, hs_2, hs_5, hs_10, hs_46, se_aI, se_aJ]; omega))
theorem m_X9_witness0 : MM 154 s_X9_witness0 := mm_of (own := 8) (by rfl) k_X9_witness (cl := [(182, s_X9_demandVariable0), (97, s_X5_leastModel), (32, s_X0_variableWord)]) ⟨m_X9_demandVariable0, m_X5_leastModel, m_X0_variableWord, trivial⟩ o_X9_witness0
def s_X9_extremeWitness0 : CS := (zc 7, ap [(3, 0), (0, 0), (0, 0), (0, 0)] (fun n gr v h Rt X =>
∃ w ps s r, CI h w ps s ∧ (0 ≤ n ∧ n < w 0 ∧ 0 ≤ v ∧ v < w 281) ∧ isB (mdl w) (gS w n gr 0) (tot w) r ∧ Go h w ps s (Rt (some (.inl (wrd w r v))))))
set_option maxRecDepth 100000 in
set_option maxHeartbeats 4000000 in
theorem o_X9_extremeWitness0 : Obl true 1 5 (sp [(181, s_X9_demandNode0), (182, s_X9_demandVariable0), (5, s_X0_get), (187, s_X9_fullWord), (105, s_X5_climb), (104, s_X5_bestModel), (32, s_X0_variableWord)]) [] code_X9_extremeWitness s_X9_extremeWitness0 := by
  refine obl0 (by rfl) ?_
  intro n r_n gr r_gr v r_v h Rt X hh hf hs
  obtain ⟨w, ps, s, r, hC, z, hr, h3⟩ := hs
  have hW := hC.wf
  have hG := hC.gh
  have hS := hC.st
  have hK := hC.sk
  have g0 := hG.n
  have g1 := hG.v
  have nn := hW.nn
  have wd := hW.wd z.1 z.2.1
  have c1 := hG.k1 z.1 z.2.1
  obtain ⟨f, hf⟩ : ∃ f, f = fl (nd w n 1) gr 0 := ⟨_, rfl⟩
  have cp : ClP w 0 n (-1) f := by rw [hf]; exact ext_clp hW z.1 z.2.1 gr 0
  have D : ∀ F R Q L r', CM w (hI h 46) F L → isB (mdl w) (goalV w 0 n (-1) f) (tot w) r' → Bst F (goalV w 0 n (-1) f) r' → -1 ≤ F 7 ∧ Rt (some (.inl (wrd w (F 7) v))) (se h F R Q L) := fun F R Q L r' hm hb hB => by
    subst hf
    have e7 := hB.o.1
    rw [e7]
    have e : r' = r := isB_un (ext_isB hW z.1 z.2.1 hb) hr fun _ _ _ _ => Iff.rfl
    rw [e]
    exact ⟨(isB_lo hr).1, h3 _ (hC.se hm.sk R Q) (Kp.se _ _ _ _ _)⟩
  have D1 : ∀ (F : Int → Int) (r : Int), isB (mdl w) (goalV w 0 n (-1) f) (tot w) r → Bst F (goalV w 0 n (-1) f) r → -1 ≤ F 7 := fun F r hb hB => by rw [hB.o.1]; exact (isB_lo hb).1
  have G : ∀ F R Q L, GH (se h F R Q L) w := fun F R Q L => by exact hG
  have p8 := p2_le8 wd.2
  have hp := p2_pos (nd w n 1)
  by_cases y : gr = 0
  · have ef : p2 (hI h 2 (n * 8 + 1)) - 1 = f := by
      rw [hf, c1, fl_z y, if_pos rfl]
      have q := xor0_all (p2 (nd w n 1) - 1).toNat (by omega)
      rw [show (((p2 (nd w n 1) - 1).toNat : Nat) : Int) = p2 (nd w n 1) - 1 by omega] at q
      exact q.symm
    rw [← ef] at cp D D1
    repeat' (first | apply And.intro | (with_reducible assumption) | (intro h9; first | (exfalso; omega) | (simp only [rI_rI, rJ_rJ, hI_rI, hJ_rI, hI_rJ, hJ_rJ, hI_rR, hR_rI, hR_rJ, hN_rI, hN_rJ, svH_63, svH_66, rfH_63, wvH_63, wvH_62, wvH_67, wvH_68, wvH_69, sc_63, sc_n62, sc_n67, sc_n68, sc_n69, sc_n70, reduceIte, Nat.reduceEqDiff, eq_self, up_up, up_self, up_ne, ne_eq, not_false_eq_true, Int.reduceEq, Int.reduceNeg, hs_1, hs_2, hs_5, hs_10, hs_46, se_aI, se_aJ] at h9; first | (exfalso; omega) | skip) | skip) | refine Exists.intro w ?_ | exact hG | exact hW | exact hS | exact hK | exact cp | exact G _ _ _ _ | (simp only [rI_rI, rJ_rJ, hI_rI, hJ_rI, hI_rJ, hJ_rJ, hI_rR, hR_rI, hR_rJ, hN_rI, hN_rJ, svH_63, svH_66, rfH_63, wvH_63, wvH_62, wvH_67, wvH_68, wvH_69, sc_63, sc_n62, sc_n67, sc_n68, sc_n69, sc_n70, reduceIte, Nat.reduceEqDiff, eq_self, up_up, up_self, up_ne, ne_eq, not_false_eq_true, Int.reduceEq, Int.reduceNeg, hs_1, hs_2, hs_5, hs_10, hs_46, se_aI, se_aJ]; exact D1 _ _ (by assumption) (by assumption)) | exact (D _ _ _ _ _ (by assumption) (by assumption) (by assumption)).2 | exact h3 | exact h3 (by omega) | omega | exact True.intro | (simp only [rI_rI, rJ_rJ, hI_rI, hJ_rI, hI_rJ, hJ_rJ, hI_rR, hR_rI, hR_rJ, hN_rI, hN_rJ, svH_63, svH_66, rfH_63, wvH_63, wvH_62, wvH_67, wvH_68, wvH_69, sc_63, sc_n62, sc_n67, sc_n68, sc_n69, sc_n70, reduceIte, Nat.reduceEqDiff, eq_self, up_up, up_self, up_ne, ne_eq, not_false_eq_true, Int.reduceEq, Int.reduceNeg, hs_1, hs_2, hs_5, hs_10, hs_46, se_aI, se_aJ]; omega))
  · have ef : (0 : Int) = f := by
      rw [hf, fl_nz y, if_pos rfl]
      exact (xor0_all 0 (by decide)).symm
    rw [← ef] at cp D D1
    repeat' (first | apply And.intro | (with_reducible assumption) | (intro h9; first | (exfalso; omega) | (simp only [rI_rI, rJ_rJ, hI_rI, hJ_rI, hI_rJ, hJ_rJ, hI_rR, hR_rI, hR_rJ, hN_rI, hN_rJ, svH_63, svH_66, rfH_63, wvH_63, wvH_62, wvH_67, wvH_68, wvH_69, sc_63, sc_n62, sc_n67, sc_n68, sc_n69, sc_n70, reduceIte, Nat.reduceEqDiff, eq_self, up_up, up_self, up_ne, ne_eq, not_false_eq_true, Int.reduceEq, Int.reduceNeg, hs_1, hs_2, hs_5, hs_10, hs_46, se_aI, se_aJ] at h9; first | (exfalso; omega) | skip) | skip) | refine Exists.intro w ?_ | exact hG | exact hW | exact hS | exact hK | exact cp | exact G _ _ _ _ | (simp only [rI_rI, rJ_rJ, hI_rI, hJ_rI, hI_rJ, hJ_rJ, hI_rR, hR_rI, hR_rJ, hN_rI, hN_rJ, svH_63, svH_66, rfH_63, wvH_63, wvH_62, wvH_67, wvH_68, wvH_69, sc_63, sc_n62, sc_n67, sc_n68, sc_n69, sc_n70, reduceIte, Nat.reduceEqDiff, eq_self, up_up, up_self, up_ne, ne_eq, not_false_eq_true, Int.reduceEq, Int.reduceNeg, hs_1, hs_2, hs_5, hs_10, hs_46, se_aI, se_aJ]; exact D1 _ _ (by assumption) (by assumption)) | exact (D _ _ _ _ _ (by assumption) (by assumption) (by assumption)).2 | exact h3 | exact h3 (by omega) | omega | exact True.intro | (simp only [rI_rI, rJ_rJ, hI_rI, hJ_rI, hI_rJ, hJ_rJ, hI_rR, hR_rI, hR_rJ, hN_rI, hN_rJ, svH_63, svH_66, rfH_63, wvH_63, wvH_62, wvH_67, wvH_68, wvH_69, sc_63, sc_n62, sc_n67, sc_n68, sc_n69, sc_n70, reduceIte, Nat.reduceEqDiff, eq_self, up_up, up_self, up_ne, ne_eq, not_false_eq_true, Int.reduceEq, Int.reduceNeg, hs_1, hs_2, hs_5, hs_10, hs_46, se_aI, se_aJ]; omega))
theorem m_X9_extremeWitness0 : MM 156 s_X9_extremeWitness0 := mm_of (own := 8) (by rfl) k_X9_extremeWitness (cl := [(181, s_X9_demandNode0), (182, s_X9_demandVariable0), (5, s_X0_get), (187, s_X9_fullWord), (105, s_X5_climb), (104, s_X5_bestModel), (32, s_X0_variableWord)]) ⟨m_X9_demandNode0, m_X9_demandVariable0, m_X0_get, m_X9_fullWord, m_X5_climb, m_X5_bestModel, m_X0_variableWord, trivial⟩ o_X9_extremeWitness0
def s_X9_bestWitness0 : CS := (zc 7, ap [(3, 0), (0, 0)] (fun v h Rt X =>
∃ w ps s r, CI h w ps s ∧ (0 ≤ v ∧ v < w 281) ∧ isB (mdl w) (gnA w) (tot w) r ∧ Go h w ps s (Rt (some (.inl (wrd w r v))))))
set_option maxRecDepth 100000 in
set_option maxHeartbeats 4000000 in
theorem o_X9_bestWitness0 : Obl true 1 2 (sp [(182, s_X9_demandVariable0), (105, s_X5_climb), (104, s_X5_bestModel), (32, s_X0_variableWord)]) [] code_X9_bestWitness s_X9_bestWitness0 := by
  refine obl0 (by rfl) ?_
  intro v r_v h Rt X hh hf hs
  obtain ⟨w, ps, s, r, hC, z, hr, h3⟩ := hs
  have hW := hC.wf
  have hG := hC.gh
  have hS := hC.st
  have hK := hC.sk
  have g1 := hG.v
  have cp : ClP w 2 (-1) (-1) 0 := Box.i (Or.inr (Or.inr ⟨rfl, rfl, rfl⟩))
  have G : ∀ F R Q L, GH (se h F R Q L) w := fun F R Q L => by exact hG
  have D : ∀ F R Q L r', CM w (hI h 46) F L → isB (mdl w) (goalV w 2 (-1) (-1) 0) (tot w) r' → Bst F (goalV w 2 (-1) (-1) 0) r' → -1 ≤ F 7 ∧ Rt (some (.inl (wrd w (F 7) v))) (se h F R Q L) := fun F R Q L r' hm hb hB => by
    rw [gn_goal] at hb hB
    rw [hB.o.1]
    have e : r' = r := isB_un hb hr fun _ _ _ _ => Iff.rfl
    rw [e]
    exact ⟨(isB_lo hr).1, h3 _ (hC.se hm.sk R Q) (Kp.se _ _ _ _ _)⟩
  have D1 : ∀ (F : Int → Int) (r : Int), isB (mdl w) (goalV w 2 (-1) (-1) 0) (tot w) r → Bst F (goalV w 2 (-1) (-1) 0) r → -1 ≤ F 7 := fun F r hb hB => by rw [hB.o.1]; exact (isB_lo hb).1
  repeat' (first | apply And.intro | (with_reducible assumption) | (intro h9; first | (exfalso; omega) | (simp only [rI_rI, rJ_rJ, hI_rI, hJ_rI, hI_rJ, hJ_rJ, hI_rR, hR_rI, hR_rJ, hN_rI, hN_rJ, svH_63, svH_66, rfH_63, wvH_63, wvH_62, wvH_67, wvH_68, wvH_69, sc_63, sc_n62, sc_n67, sc_n68, sc_n69, sc_n70, reduceIte, Nat.reduceEqDiff, eq_self, up_up, up_self, up_ne, ne_eq, not_false_eq_true, Int.reduceEq, Int.reduceNeg, hs_1, hs_2, hs_5, hs_10, hs_46, se_aI, se_aJ] at h9; first | (exfalso; omega) | skip) | skip) | refine Exists.intro w ?_ | exact hG | exact hW | exact hS | exact hK | exact cp | exact G _ _ _ _ | (simp only [rI_rI, rJ_rJ, hI_rI, hJ_rI, hI_rJ, hJ_rJ, hI_rR, hR_rI, hR_rJ, hN_rI, hN_rJ, svH_63, svH_66, rfH_63, wvH_63, wvH_62, wvH_67, wvH_68, wvH_69, sc_63, sc_n62, sc_n67, sc_n68, sc_n69, sc_n70, reduceIte, Nat.reduceEqDiff, eq_self, up_up, up_self, up_ne, ne_eq, not_false_eq_true, Int.reduceEq, Int.reduceNeg, hs_1, hs_2, hs_5, hs_10, hs_46, se_aI, se_aJ]; exact D1 _ _ (by assumption) (by assumption)) | exact (D _ _ _ _ _ (by assumption) (by assumption) (by assumption)).2 | exact h3 | exact h3 (by omega) | omega | exact True.intro | (simp only [rI_rI, rJ_rJ, hI_rI, hJ_rI, hI_rJ, hJ_rJ, hI_rR, hR_rI, hR_rJ, hN_rI, hN_rJ, svH_63, svH_66, rfH_63, wvH_63, wvH_62, wvH_67, wvH_68, wvH_69, sc_63, sc_n62, sc_n67, sc_n68, sc_n69, sc_n70, reduceIte, Nat.reduceEqDiff, eq_self, up_up, up_self, up_ne, ne_eq, not_false_eq_true, Int.reduceEq, Int.reduceNeg, hs_1, hs_2, hs_5, hs_10, hs_46, se_aI, se_aJ]; omega))
theorem m_X9_bestWitness0 : MM 167 s_X9_bestWitness0 := mm_of (own := 8) (by rfl) k_X9_bestWitness (cl := [(182, s_X9_demandVariable0), (105, s_X5_climb), (104, s_X5_bestModel), (32, s_X0_variableWord)]) ⟨m_X9_demandVariable0, m_X5_climb, m_X5_bestModel, m_X0_variableWord, trivial⟩ o_X9_bestWitness0

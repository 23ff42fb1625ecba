/-! ===== the class's methods: extremes, values, pairs, wishes ===== -/
theorem fl_10 (k sg : Int) : fl k 1 sg = bXor 0 (if sg = 0 then 0 else sShl 1 (k - 1)) := rfl
theorem fl_nz {k gr sg : Int} (h : gr ≠ 0) : fl k gr sg = bXor 0 (if sg = 0 then 0 else sShl 1 (k - 1)) := by
  unfold fl
  rw [if_neg h]
theorem fl_z {k gr sg : Int} (h : gr = 0) : fl k gr sg = bXor (p2 k - 1) (if sg = 0 then 0 else sShl 1 (k - 1)) := by
  unfold fl
  rw [if_pos h]
theorem xor0_all : ∀ x : Nat, x < 256 → bXor (x : Int) 0 = x := by decide +kernel
theorem ext_clp {w : Int → Int} (hW : WF w) {n : Int} (n0 : 0 ≤ n) (n1 : n < w 0) (gr sg : Int) : ClP w 0 n (-1) (fl (nd w n 1) gr sg) := by
  have wd := hW.wd n0 n1
  have ra := hW.vr (asg_ev w 0) n0 n1
  have q := fl_x (gr := gr) (sg := sg) wd.1 wd.2 ra.1 ra.2
  exact Box.i (Or.inl ⟨rfl, n0, n1, rfl, q.2.2.1, q.2.2.2⟩)
def s_X9_extreme : CS := (xc 2 12 7, ap [(3, 0), (0, 0), (0, 0), (0, 0)] (fun n gr sg h Rt X =>
∃ w ps s, CI h w ps s ∧ (¬ (0 ≤ n ∧ n < w 0) → X 2 h) ∧ (0 ≤ n ∧ n < w 0 → nxt w 0 = -1 → Go h w ps s (X 1)) ∧ (0 ≤ n ∧ n < w 0 → nxt w 0 ≠ -1 → ∀ r, isB (mdl w) (gS w n gr sg) (tot w) r → Go h w ps s (Rt (some (.inl (gV w n sg r)))))))
set_option maxRecDepth 100000 in
set_option maxHeartbeats 4000000 in
theorem o_X9_extreme : Obl true 1 7 (sp [(181, s_X9_demandNode), (5, s_X0_get), (187, s_X9_fullWord), (105, s_X5_climb), (103, s_X5_best), (188, s_X9_signedWord)]) [] code_X9_extreme s_X9_extreme := by
  refine obl0x (by rfl) ?_
  intro n r_n gr r_gr sg r_sg h Rt X hh hf hs
  obtain ⟨w, ps, s, hC, h2, h3, h4⟩ := hs
  have hW := hC.wf
  have hG := hC.gh
  have hS := hC.st
  have hK := hC.sk
  have g0 := hG.n
  have nn := hW.nn
  by_cases z : 0 ≤ n ∧ n < w 0
  · have wd := hW.wd z.1 z.2
    have c1 := hG.k1 z.1 z.2
    obtain ⟨f, hf⟩ : ∃ f, f = fl (nd w n 1) gr sg := ⟨_, rfl⟩
    have cp : ClP w 0 n (-1) f := by rw [hf]; exact ext_clp hW z.1 z.2 gr sg
    have S : ∀ F R Q L, CM w (hI h 46) F L → CI (se h F R Q L) w ps s := fun F R Q L hf => hC.se hf.sk R Q
    have D : ∀ F R Q L r, CM w (hI h 46) F L → isB (mdl w) (goalV w 0 n (-1) f) (tot w) r → Bst F (goalV w 0 n (-1) f) r → (F 6 = -1 → X 1 (se h F R Q L)) ∧ (F 6 ≠ -1 → (0 ≤ bXor (F 6) f ∧ bXor (F 6) f < p2 (nd w n 1)) ∧ (sg = 0 → Rt (some (.inl (bXor (F 6) f))) (se h F R Q L)) ∧ (sg ≠ 0 → Rt (some (.inl (sgn (bXor (F 6) f) (nd w n 1)))) (se h F R Q L))) := fun F R Q L r hm hb hB => by
      subst hf
      have e6 := hB.o.2
      by_cases y : r = -1
      · subst y
        have e : F 6 = -1 := by rw [e6]; exact if_pos rfl
        refine ⟨fun _ => ?_, fun q => absurd e q⟩
        refine h3 z ?_ _ (S F R Q L hm) (Kp.se _ _ _ _ _)
        by_cases u : nxt w 0 = -1
        · exact u
        · exact absurd rfl (isB_ex hb u)
      · obtain ⟨v1, v2⟩ := ext_val hW (gr := gr) (sg := sg) z.1 z.2 y
        refine ⟨fun q => absurd (e6.symm.trans q) v2, fun _ => ?_⟩
        have nx : nxt w 0 ≠ -1 := fun u => y (isB_no hb u)
        have K := h4 z nx r (ext_isB hW z.1 z.2 hb) _ (S F R Q L hm) (Kp.se _ _ _ _ _)
        have ra := hW.vr (asg_ev w r) z.1 z.2
        rw [e6, v1]
        unfold gV rd at K
        exact ⟨ra, fun q => by rw [if_pos q] at K; exact K, fun q => by rw [if_neg q] at K; exact K⟩
    have D1 : ∀ (F : Int → Int) (L : Int → Int64) (r : Int), CM w (hI h 46) F L → isB (mdl w) (goalV w 0 n (-1) f) (tot w) r → Bst F (goalV w 0 n (-1) f) r → F 6 ≠ -1 → 0 ≤ bXor (F 6) f ∧ bXor (F 6) f < p2 (nd w n 1) := fun F L r hm hb hB k => ((D F (hJ h 45) (hJ h 44) L r hm hb hB).2 k).1
    rw [← c1] at D D1
    have G : ∀ F R Q L, GH (se h F R Q L) w := fun F R Q L => by exact hG
    by_cases y : gr = 0
    · by_cases u : sg = 0
      · have ef : bXor (p2 (hI h 2 (n * 8 + 1)) - 1) 0 = f := by rw [hf, c1, fl_z y, if_pos u]
        rw [← ef] at cp D D1
        repeat' (first | apply And.intro | (with_reducible assumption) | (intro h9; first | (exfalso; omega) | (simp only [rI_rI, rJ_rJ, hI_rI, hJ_rI, hI_rJ, hJ_rJ, hI_rR, hR_rI, hR_rJ, hN_rI, hN_rJ, svH_63, svH_66, rfH_63, wvH_63, wvH_62, wvH_67, wvH_68, wvH_69, sc_63, sc_n62, sc_n67, sc_n68, sc_n69, sc_n70, reduceIte, Nat.reduceEqDiff, eq_self, up_up, up_self, up_ne, ne_eq, not_false_eq_true, Int.reduceEq, Int.reduceNeg, se_aI, se_aJ] at h9; first | (exfalso; omega) | skip) | skip) | refine Exists.intro w ?_ | exact hG | exact hW | exact hS | exact hK | exact cp | exact (D _ _ _ _ _ (by assumption) (by assumption) (by assumption)).1 (by assumption) | exact ((D _ _ _ _ _ (by assumption) (by assumption) (by assumption)).2 (by assumption)).2.1 u | exact h2 | exact h2 (by omega) | exact h3 | exact h3 (by omega) | exact h4 | exact h4 (by omega) | omega | exact True.intro | (simp only [rI_rI, rJ_rJ, hI_rI, hJ_rI, hI_rJ, hJ_rJ, hI_rR, hR_rI, hR_rJ, hN_rI, hN_rJ, svH_63, svH_66, rfH_63, wvH_63, wvH_62, wvH_67, wvH_68, wvH_69, sc_63, sc_n62, sc_n67, sc_n68, sc_n69, sc_n70, reduceIte, Nat.reduceEqDiff, eq_self, up_up, up_self, up_ne, ne_eq, not_false_eq_true, Int.reduceEq, Int.reduceNeg, se_aI, se_aJ]; omega))
      · have ef : bXor (p2 (hI h 2 (n * 8 + 1)) - 1) (sShl 1 (hI h 2 (n * 8 + 1) - 1)) = f := by rw [hf, c1, fl_z y, if_neg u]
        rw [← ef] at cp D D1
        repeat' (first | apply And.intro | (with_reducible assumption) | (intro h9; first | (exfalso; omega) | (simp only [rI_rI, rJ_rJ, hI_rI, hJ_rI, hI_rJ, hJ_rJ, hI_rR, hR_rI, hR_rJ, hN_rI, hN_rJ, svH_63, svH_66, rfH_63, wvH_63, wvH_62, wvH_67, wvH_68, wvH_69, sc_63, sc_n62, sc_n67, sc_n68, sc_n69, sc_n70, reduceIte, Nat.reduceEqDiff, eq_self, up_up, up_self, up_ne, ne_eq, not_false_eq_true, Int.reduceEq, Int.reduceNeg, se_aI, se_aJ] at h9; first | (exfalso; omega) | skip) | skip) | refine Exists.intro w ?_ | exact hG | exact hW | exact hS | exact hK | exact cp | exact (D _ _ _ _ _ (by assumption) (by assumption) (by assumption)).1 (by assumption) | exact ((D _ _ _ _ _ (by assumption) (by assumption) (by assumption)).2 (by assumption)).2.2 u | (simp only [rI_rI, rJ_rJ, hI_rI, hJ_rI, hI_rJ, hJ_rJ, hI_rR, hR_rI, hR_rJ, hN_rI, hN_rJ, svH_63, svH_66, rfH_63, wvH_63, wvH_62, wvH_67, wvH_68, wvH_69, sc_63, sc_n62, sc_n67, sc_n68, sc_n69, sc_n70, reduceIte, Nat.reduceEqDiff, eq_self, up_up, up_self, up_ne, ne_eq, not_false_eq_true, Int.reduceEq, Int.reduceNeg, se_aI, se_aJ]; exact (D1 _ _ _ (by assumption) (by assumption) (by assumption) (by assumption)).1) | (simp only [rI_rI, rJ_rJ, hI_rI, hJ_rI, hI_rJ, hJ_rJ, hI_rR, hR_rI, hR_rJ, hN_rI, hN_rJ, svH_63, svH_66, rfH_63, wvH_63, wvH_62, wvH_67, wvH_68, wvH_69, sc_63, sc_n62, sc_n67, sc_n68, sc_n69, sc_n70, reduceIte, Nat.reduceEqDiff, eq_self, up_up, up_self, up_ne, ne_eq, not_false_eq_true, Int.reduceEq, Int.reduceNeg, se_aI, se_aJ]; exact (D1 _ _ _ (by assumption) (by assumption) (by assumption) (by assumption)).2) | exact h2 | exact h2 (by omega) | exact h3 | exact h3 (by omega) | exact h4 | exact h4 (by omega) | omega | exact True.intro | (simp only [rI_rI, rJ_rJ, hI_rI, hJ_rI, hI_rJ, hJ_rJ, hI_rR, hR_rI, hR_rJ, hN_rI, hN_rJ, svH_63, svH_66, rfH_63, wvH_63, wvH_62, wvH_67, wvH_68, wvH_69, sc_63, sc_n62, sc_n67, sc_n68, sc_n69, sc_n70, reduceIte, Nat.reduceEqDiff, eq_self, up_up, up_self, up_ne, ne_eq, not_false_eq_true, Int.reduceEq, Int.reduceNeg, se_aI, se_aJ]; omega))
    · by_cases u : sg = 0
      · have ef : bXor 0 0 = f := by rw [hf, fl_nz y, if_pos u]
        rw [← ef] at cp D D1
        repeat' (first | apply And.intro | (with_reducible assumption) | (intro h9; first | (exfalso; omega) | (simp only [rI_rI, rJ_rJ, hI_rI, hJ_rI, hI_rJ, hJ_rJ, hI_rR, hR_rI, hR_rJ, hN_rI, hN_rJ, svH_63, svH_66, rfH_63, wvH_63, wvH_62, wvH_67, wvH_68, wvH_69, sc_63, sc_n62, sc_n67, sc_n68, sc_n69, sc_n70, reduceIte, Nat.reduceEqDiff, eq_self, up_up, up_self, up_ne, ne_eq, not_false_eq_true, Int.reduceEq, Int.reduceNeg, se_aI, se_aJ] at h9; first | (exfalso; omega) | skip) | skip) | refine Exists.intro w ?_ | exact hG | exact hW | exact hS | exact hK | exact cp | exact (D _ _ _ _ _ (by assumption) (by assumption) (by assumption)).1 (by assumption) | exact ((D _ _ _ _ _ (by assumption) (by assumption) (by assumption)).2 (by assumption)).2.1 u | exact h2 | exact h2 (by omega) | exact h3 | exact h3 (by omega) | exact h4 | exact h4 (by omega) | omega | exact True.intro | (simp only [rI_rI, rJ_rJ, hI_rI, hJ_rI, hI_rJ, hJ_rJ, hI_rR, hR_rI, hR_rJ, hN_rI, hN_rJ, svH_63, svH_66, rfH_63, wvH_63, wvH_62, wvH_67, wvH_68, wvH_69, sc_63, sc_n62, sc_n67, sc_n68, sc_n69, sc_n70, reduceIte, Nat.reduceEqDiff, eq_self, up_up, up_self, up_ne, ne_eq, not_false_eq_true, Int.reduceEq, Int.reduceNeg, se_aI, se_aJ]; omega))
      · have ef : bXor 0 (sShl 1 (hI h 2 (n * 8 + 1) - 1)) = f := by rw [hf, c1, fl_nz y, if_neg u]
        rw [← ef] at cp D D1
        repeat' (first | apply And.intro | (with_reducible assumption) | (intro h9; first | (exfalso; omega) | (simp only [rI_rI, rJ_rJ, hI_rI, hJ_rI, hI_rJ, hJ_rJ, hI_rR, hR_rI, hR_rJ, hN_rI, hN_rJ, svH_63, svH_66, rfH_63, wvH_63, wvH_62, wvH_67, wvH_68, wvH_69, sc_63, sc_n62, sc_n67, sc_n68, sc_n69, sc_n70, reduceIte, Nat.reduceEqDiff, eq_self, up_up, up_self, up_ne, ne_eq, not_false_eq_true, Int.reduceEq, Int.reduceNeg, se_aI, se_aJ] at h9; first | (exfalso; omega) | skip) | skip) | refine Exists.intro w ?_ | exact hG | exact hW | exact hS | exact hK | exact cp | exact (D _ _ _ _ _ (by assumption) (by assumption) (by assumption)).1 (by assumption) | exact ((D _ _ _ _ _ (by assumption) (by assumption) (by assumption)).2 (by assumption)).2.2 u | (simp only [rI_rI, rJ_rJ, hI_rI, hJ_rI, hI_rJ, hJ_rJ, hI_rR, hR_rI, hR_rJ, hN_rI, hN_rJ, svH_63, svH_66, rfH_63, wvH_63, wvH_62, wvH_67, wvH_68, wvH_69, sc_63, sc_n62, sc_n67, sc_n68, sc_n69, sc_n70, reduceIte, Nat.reduceEqDiff, eq_self, up_up, up_self, up_ne, ne_eq, not_false_eq_true, Int.reduceEq, Int.reduceNeg, se_aI, se_aJ]; exact (D1 _ _ _ (by assumption) (by assumption) (by assumption) (by assumption)).1) | (simp only [rI_rI, rJ_rJ, hI_rI, hJ_rI, hI_rJ, hJ_rJ, hI_rR, hR_rI, hR_rJ, hN_rI, hN_rJ, svH_63, svH_66, rfH_63, wvH_63, wvH_62, wvH_67, wvH_68, wvH_69, sc_63, sc_n62, sc_n67, sc_n68, sc_n69, sc_n70, reduceIte, Nat.reduceEqDiff, eq_self, up_up, up_self, up_ne, ne_eq, not_false_eq_true, Int.reduceEq, Int.reduceNeg, se_aI, se_aJ]; exact (D1 _ _ _ (by assumption) (by assumption) (by assumption) (by assumption)).2) | exact h2 | exact h2 (by omega) | exact h3 | exact h3 (by omega) | exact h4 | exact h4 (by omega) | omega | exact True.intro | (simp only [rI_rI, rJ_rJ, hI_rI, hJ_rI, hI_rJ, hJ_rJ, hI_rR, hR_rI, hR_rJ, hN_rI, hN_rJ, svH_63, svH_66, rfH_63, wvH_63, wvH_62, wvH_67, wvH_68, wvH_69, sc_63, sc_n62, sc_n67, sc_n68, sc_n69, sc_n70, reduceIte, Nat.reduceEqDiff, eq_self, up_up, up_self, up_ne, ne_eq, not_false_eq_true, Int.reduceEq, Int.reduceNeg, se_aI, se_aJ]; omega))
  · have C := h2 z
    repeat' (first | apply And.intro | (with_reducible assumption) | (intro h9; first | (exfalso; omega) | (simp only [rI_rI, rJ_rJ, hI_rI, hJ_rI, hI_rJ, hJ_rJ, hI_rR, hR_rI, hR_rJ, hN_rI, hN_rJ, svH_63, svH_66, rfH_63, wvH_63, wvH_62, wvH_67, wvH_68, wvH_69, sc_63, sc_n62, sc_n67, sc_n68, sc_n69, sc_n70, reduceIte, Nat.reduceEqDiff, eq_self, up_up, up_self, up_ne, ne_eq, not_false_eq_true, Int.reduceEq, Int.reduceNeg, se_aI, se_aJ] at h9; first | (exfalso; omega) | skip) | skip) | exact C | exact h2 | exact h2 (by omega) | exact h3 | exact h3 (by omega) | exact h4 | exact h4 (by omega) | omega | exact True.intro | (simp only [rI_rI, rJ_rJ, hI_rI, hJ_rI, hI_rJ, hJ_rJ, hI_rR, hR_rI, hR_rJ, hN_rI, hN_rJ, svH_63, svH_66, rfH_63, wvH_63, wvH_62, wvH_67, wvH_68, wvH_69, sc_63, sc_n62, sc_n67, sc_n68, sc_n69, sc_n70, reduceIte, Nat.reduceEqDiff, eq_self, up_up, up_self, up_ne, ne_eq, not_false_eq_true, Int.reduceEq, Int.reduceNeg, se_aI, se_aJ]; omega))
theorem m_X9_extreme : MM 155 s_X9_extreme := mm_of (own := 8) (by rfl) k_X9_extreme (cl := [(181, s_X9_demandNode), (5, s_X0_get), (187, s_X9_fullWord), (105, s_X5_climb), (103, s_X5_best), (188, s_X9_signedWord)]) ⟨m_X9_demandNode, m_X0_get, m_X9_fullWord, m_X5_climb, m_X5_best, m_X9_signedWord, trivial⟩ o_X9_extreme
def s_X9_extremeWitness : CS := (xc 2 12 7, ap [(3, 0), (0, 0), (0, 0), (0, 0)] (fun n gr v h Rt X =>
∃ w ps s, CI h w ps s ∧ (¬ (0 ≤ n ∧ n < w 0 ∧ 0 ≤ v ∧ v < w 281) → X 2 h) ∧ (0 ≤ n ∧ n < w 0 ∧ 0 ≤ v ∧ v < w 281 → ∀ r, isB (mdl w) (gS w n gr 0) (tot w) r → Go h w ps s (Rt (some (.inl (wrd w r v)))))))
set_option maxRecDepth 100000 in
set_option maxHeartbeats 4000000 in
theorem o_X9_extremeWitness : Obl true 1 5 (sp [(181, s_X9_demandNode), (182, s_X9_demandVariable), (5, s_X0_get), (187, s_X9_fullWord), (105, s_X5_climb), (104, s_X5_bestModel), (32, s_X0_variableWord)]) [] code_X9_extremeWitness s_X9_extremeWitness := by
  refine obl0x (by rfl) ?_
  intro n r_n gr r_gr v r_v h Rt X hh hf hs
  obtain ⟨w, ps, s, hC, h2, h3⟩ := hs
  have hW := hC.wf
  have hG := hC.gh
  have hS := hC.st
  have hK := hC.sk
  have g0 := hG.n
  have g1 := hG.v
  have nn := hW.nn
  by_cases z : 0 ≤ n ∧ n < w 0 ∧ 0 ≤ v ∧ v < w 281
  · have wd := hW.wd z.1 z.2.1
    have c1 := hG.k1 z.1 z.2.1
    obtain ⟨f, hf⟩ : ∃ f, f = fl (nd w n 1) gr 0 := ⟨_, rfl⟩
    have cp : ClP w 0 n (-1) f := by rw [hf]; exact ext_clp hW z.1 z.2.1 gr 0
    have D : ∀ F R Q L r, CM w (hI h 46) F L → isB (mdl w) (goalV w 0 n (-1) f) (tot w) r → Bst F (goalV w 0 n (-1) f) r → -1 ≤ F 7 ∧ Rt (some (.inl (wrd w (F 7) v))) (se h F R Q L) := fun F R Q L r hm hb hB => by
      subst hf
      have e7 := hB.o.1
      rw [e7]
      exact ⟨(isB_lo hb).1, h3 z r (ext_isB hW z.1 z.2.1 hb) _ (hC.se hm.sk R Q) (Kp.se _ _ _ _ _)⟩
    have D1 : ∀ (F : Int → Int) (r : Int), isB (mdl w) (goalV w 0 n (-1) f) (tot w) r → Bst F (goalV w 0 n (-1) f) r → -1 ≤ F 7 := fun F r hb hB => by rw [hB.o.1]; exact (isB_lo hb).1
    have G : ∀ F R Q L, GH (se h F R Q L) w := fun F R Q L => by exact hG
    have p8 := p2_le8 wd.2
    have hp := p2_pos (nd w n 1)
    by_cases y : gr = 0
    · have ef : p2 (hI h 2 (n * 8 + 1)) - 1 = f := by
        rw [hf, c1, fl_z y, if_pos rfl]
        have q := xor0_all (p2 (nd w n 1) - 1).toNat (by omega)
        rw [show (((p2 (nd w n 1) - 1).toNat : Nat) : Int) = p2 (nd w n 1) - 1 by omega] at q
        exact q.symm
      rw [← ef] at cp D D1
      repeat' (first | apply And.intro | (with_reducible assumption) | (intro h9; first | (exfalso; omega) | (simp only [rI_rI, rJ_rJ, hI_rI, hJ_rI, hI_rJ, hJ_rJ, hI_rR, hR_rI, hR_rJ, hN_rI, hN_rJ, svH_63, svH_66, rfH_63, wvH_63, wvH_62, wvH_67, wvH_68, wvH_69, sc_63, sc_n62, sc_n67, sc_n68, sc_n69, sc_n70, reduceIte, Nat.reduceEqDiff, eq_self, up_up, up_self, up_ne, ne_eq, not_false_eq_true, Int.reduceEq, Int.reduceNeg, se_aI, se_aJ] at h9; first | (exfalso; omega) | skip) | skip) | refine Exists.intro w ?_ | exact hG | exact hW | exact hS | exact hK | exact cp | exact G _ _ _ _ | (simp only [rI_rI, rJ_rJ, hI_rI, hJ_rI, hI_rJ, hJ_rJ, hI_rR, hR_rI, hR_rJ, hN_rI, hN_rJ, svH_63, svH_66, rfH_63, wvH_63, wvH_62, wvH_67, wvH_68, wvH_69, sc_63, sc_n62, sc_n67, sc_n68, sc_n69, sc_n70, reduceIte, Nat.reduceEqDiff, eq_self, up_up, up_self, up_ne, ne_eq, not_false_eq_true, Int.reduceEq, Int.reduceNeg, se_aI, se_aJ]; exact D1 _ _ (by assumption) (by assumption)) | exact (D _ _ _ _ _ (by assumption) (by assumption) (by assumption)).2 | exact h2 | exact h2 (by omega) | exact h3 | exact h3 (by omega) | omega | exact True.intro | (simp only [rI_rI, rJ_rJ, hI_rI, hJ_rI, hI_rJ, hJ_rJ, hI_rR, hR_rI, hR_rJ, hN_rI, hN_rJ, svH_63, svH_66, rfH_63, wvH_63, wvH_62, wvH_67, wvH_68, wvH_69, sc_63, sc_n62, sc_n67, sc_n68, sc_n69, sc_n70, reduceIte, Nat.reduceEqDiff, eq_self, up_up, up_self, up_ne, ne_eq, not_false_eq_true, Int.reduceEq, Int.reduceNeg, se_aI, se_aJ]; omega))
    · have ef : (0 : Int) = f := by
        rw [hf, fl_nz y, if_pos rfl]
        exact (xor0_all 0 (by decide)).symm
      rw [← ef] at cp D D1
      repeat' (first | apply And.intro | (with_reducible assumption) | (intro h9; first | (exfalso; omega) | (simp only [rI_rI, rJ_rJ, hI_rI, hJ_rI, hI_rJ, hJ_rJ, hI_rR, hR_rI, hR_rJ, hN_rI, hN_rJ, svH_63, svH_66, rfH_63, wvH_63, wvH_62, wvH_67, wvH_68, wvH_69, sc_63, sc_n62, sc_n67, sc_n68, sc_n69, sc_n70, reduceIte, Nat.reduceEqDiff, eq_self, up_up, up_self, up_ne, ne_eq, not_false_eq_true, Int.reduceEq, Int.reduceNeg, se_aI, se_aJ] at h9; first | (exfalso; omega) | skip) | skip) | refine Exists.intro w ?_ | exact hG | exact hW | exact hS | exact hK | exact cp | exact G _ _ _ _ | (simp only [rI_rI, rJ_rJ, hI_rI, hJ_rI, hI_rJ, hJ_rJ, hI_rR, hR_rI, hR_rJ, hN_rI, hN_rJ, svH_63, svH_66, rfH_63, wvH_63, wvH_62, wvH_67, wvH_68, wvH_69, sc_63, sc_n62, sc_n67, sc_n68, sc_n69, sc_n70, reduceIte, Nat.reduceEqDiff, eq_self, up_up, up_self, up_ne, ne_eq, not_false_eq_true, Int.reduceEq, Int.reduceNeg, se_aI, se_aJ]; exact D1 _ _ (by assumption) (by assumption)) | exact (D _ _ _ _ _ (by assumption) (by assumption) (by assumption)).2 | exact h2 | exact h2 (by omega) | exact h3 | exact h3 (by omega) | omega | exact True.intro | (simp only [rI_rI, rJ_rJ, hI_rI, hJ_rI, hI_rJ, hJ_rJ, hI_rR, hR_rI, hR_rJ, hN_rI, hN_rJ, svH_63, svH_66, rfH_63, wvH_63, wvH_62, wvH_67, wvH_68, wvH_69, sc_63, sc_n62, sc_n67, sc_n68, sc_n69, sc_n70, reduceIte, Nat.reduceEqDiff, eq_self, up_up, up_self, up_ne, ne_eq, not_false_eq_true, Int.reduceEq, Int.reduceNeg, se_aI, se_aJ]; omega))
  · have C := h2 z
    repeat' (first | apply And.intro | (with_reducible assumption) | (intro h9; first | (exfalso; omega) | (simp only [rI_rI, rJ_rJ, hI_rI, hJ_rI, hI_rJ, hJ_rJ, hI_rR, hR_rI, hR_rJ, hN_rI, hN_rJ, svH_63, svH_66, rfH_63, wvH_63, wvH_62, wvH_67, wvH_68, wvH_69, sc_63, sc_n62, sc_n67, sc_n68, sc_n69, sc_n70, reduceIte, Nat.reduceEqDiff, eq_self, up_up, up_self, up_ne, ne_eq, not_false_eq_true, Int.reduceEq, Int.reduceNeg, se_aI, se_aJ] at h9; first | (exfalso; omega) | skip) | skip) | exact C | exact h2 | exact h2 (by omega) | exact h3 | exact h3 (by omega) | omega | exact True.intro | (simp only [rI_rI, rJ_rJ, hI_rI, hJ_rI, hI_rJ, hJ_rJ, hI_rR, hR_rI, hR_rJ, hN_rI, hN_rJ, svH_63, svH_66, rfH_63, wvH_63, wvH_62, wvH_67, wvH_68, wvH_69, sc_63, sc_n62, sc_n67, sc_n68, sc_n69, sc_n70, reduceIte, Nat.reduceEqDiff, eq_self, up_up, up_self, up_ne, ne_eq, not_false_eq_true, Int.reduceEq, Int.reduceNeg, se_aI, se_aJ]; omega))
theorem m_X9_extremeWitness : MM 156 s_X9_extremeWitness := mm_of (own := 8) (by rfl) k_X9_extremeWitness (cl := [(181, s_X9_demandNode), (182, s_X9_demandVariable), (5, s_X0_get), (187, s_X9_fullWord), (105, s_X5_climb), (104, s_X5_bestModel), (32, s_X0_variableWord)]) ⟨m_X9_demandNode, m_X9_demandVariable, m_X0_get, m_X9_fullWord, m_X5_climb, m_X5_bestModel, m_X0_variableWord, trivial⟩ o_X9_extremeWitness
def s_X9_gain : CS := (zc 7, ap [(3, 0)] (fun  h Rt X =>
∃ w ps s, CI h w ps s ∧ ∀ r, isB (mdl w) (gnA w) (tot w) r → Go h w ps s (Rt (some (.inl (gnR w r))))))
set_option maxRecDepth 100000 in
set_option maxHeartbeats 4000000 in
theorem o_X9_gain : Obl true 1 1 (sp [(105, s_X5_climb), (103, s_X5_best)]) [] code_X9_gain s_X9_gain := by
  refine obl0 (by rfl) ?_
  intro  h Rt X hh hf hs
  obtain ⟨w, ps, s, hC, h3⟩ := hs
  have hW := hC.wf
  have hG := hC.gh
  have hS := hC.st
  have hK := hC.sk
  have cp : ClP w 2 (-1) (-1) 0 := Box.i (Or.inr (Or.inr ⟨rfl, rfl, rfl⟩))
  have D : ∀ F R Q L r, CM w (hI h 46) F L → isB (mdl w) (goalV w 2 (-1) (-1) 0) (tot w) r → Bst F (goalV w 2 (-1) (-1) 0) r → Rt (some (.inl (F 6))) (se h F R Q L) := fun F R Q L r hm hb hB => by
    rw [gn_goal] at hb hB
    rw [hB.o.2]
    exact h3 r hb _ (hC.se hm.sk R Q) (Kp.se _ _ _ _ _)
  repeat' (first | apply And.intro | (with_reducible assumption) | (intro h9; first | (exfalso; omega) | (simp only [rI_rI, rJ_rJ, hI_rI, hJ_rI, hI_rJ, hJ_rJ, hI_rR, hR_rI, hR_rJ, hN_rI, hN_rJ, svH_63, svH_66, rfH_63, wvH_63, wvH_62, wvH_67, wvH_68, wvH_69, sc_63, sc_n62, sc_n67, sc_n68, sc_n69, sc_n70, reduceIte, Nat.reduceEqDiff, eq_self, up_up, up_self, up_ne, ne_eq, not_false_eq_true, Int.reduceEq, Int.reduceNeg, se_aI, se_aJ] at h9; first | (exfalso; omega) | skip) | skip) | refine Exists.intro w ?_ | exact hG | exact hW | exact hS | exact hK | exact cp | exact D _ _ _ _ _ (by assumption) (by assumption) (by assumption) | exact h3 | exact h3 (by omega) | omega | exact True.intro | (simp only [rI_rI, rJ_rJ, hI_rI, hJ_rI, hI_rJ, hJ_rJ, hI_rR, hR_rI, hR_rJ, hN_rI, hN_rJ, svH_63, svH_66, rfH_63, wvH_63, wvH_62, wvH_67, wvH_68, wvH_69, sc_63, sc_n62, sc_n67, sc_n68, sc_n69, sc_n70, reduceIte, Nat.reduceEqDiff, eq_self, up_up, up_self, up_ne, ne_eq, not_false_eq_true, Int.reduceEq, Int.reduceNeg, se_aI, se_aJ]; omega))
theorem m_X9_gain : MM 166 s_X9_gain := mm_of (own := 8) (by rfl) k_X9_gain (cl := [(105, s_X5_climb), (103, s_X5_best)]) ⟨m_X5_climb, m_X5_best, trivial⟩ o_X9_gain
def s_X9_bestWitness : CS := (xc 1 6 7, ap [(3, 0), (0, 0)] (fun v h Rt X =>
∃ w ps s, CI h w ps s ∧ (¬ (0 ≤ v ∧ v < w 281) → X 2 h) ∧ (0 ≤ v ∧ v < w 281 → ∀ r, isB (mdl w) (gnA w) (tot w) r → Go h w ps s (Rt (some (.inl (wrd w r v)))))))
set_option maxRecDepth 100000 in
set_option maxHeartbeats 4000000 in
theorem o_X9_bestWitness : Obl true 1 2 (sp [(182, s_X9_demandVariable), (105, s_X5_climb), (104, s_X5_bestModel), (32, s_X0_variableWord)]) [] code_X9_bestWitness s_X9_bestWitness := by
  refine obl0x (by rfl) ?_
  intro v r_v h Rt X hh hf hs
  obtain ⟨w, ps, s, hC, h2, h3⟩ := hs
  have hW := hC.wf
  have hG := hC.gh
  have hS := hC.st
  have hK := hC.sk
  have g1 := hG.v
  by_cases z : 0 ≤ v ∧ v < w 281
  · have cp : ClP w 2 (-1) (-1) 0 := Box.i (Or.inr (Or.inr ⟨rfl, rfl, rfl⟩))
    have G : ∀ F R Q L, GH (se h F R Q L) w := fun F R Q L => by exact hG
    have D : ∀ F R Q L r, CM w (hI h 46) F L → isB (mdl w) (goalV w 2 (-1) (-1) 0) (tot w) r → Bst F (goalV w 2 (-1) (-1) 0) r → -1 ≤ F 7 ∧ Rt (some (.inl (wrd w (F 7) v))) (se h F R Q L) := fun F R Q L r hm hb hB => by
      rw [gn_goal] at hb hB
      rw [hB.o.1]
      exact ⟨(isB_lo hb).1, h3 z r hb _ (hC.se hm.sk R Q) (Kp.se _ _ _ _ _)⟩
    have D1 : ∀ (F : Int → Int) (r : Int), isB (mdl w) (goalV w 2 (-1) (-1) 0) (tot w) r → Bst F (goalV w 2 (-1) (-1) 0) r → -1 ≤ F 7 := fun F r hb hB => by rw [hB.o.1]; exact (isB_lo hb).1
    repeat' (first | apply And.intro | (with_reducible assumption) | (intro h9; first | (exfalso; omega) | (simp only [rI_rI, rJ_rJ, hI_rI, hJ_rI, hI_rJ, hJ_rJ, hI_rR, hR_rI, hR_rJ, hN_rI, hN_rJ, svH_63, svH_66, rfH_63, wvH_63, wvH_62, wvH_67, wvH_68, wvH_69, sc_63, sc_n62, sc_n67, sc_n68, sc_n69, sc_n70, reduceIte, Nat.reduceEqDiff, eq_self, up_up, up_self, up_ne, ne_eq, not_false_eq_true, Int.reduceEq, Int.reduceNeg, se_aI, se_aJ] at h9; first | (exfalso; omega) | skip) | skip) | refine Exists.intro w ?_ | exact hG | exact hW | exact hS | exact hK | exact cp | exact G _ _ _ _ | (simp only [rI_rI, rJ_rJ, hI_rI, hJ_rI, hI_rJ, hJ_rJ, hI_rR, hR_rI, hR_rJ, hN_rI, hN_rJ, svH_63, svH_66, rfH_63, wvH_63, wvH_62, wvH_67, wvH_68, wvH_69, sc_63, sc_n62, sc_n67, sc_n68, sc_n69, sc_n70, reduceIte, Nat.reduceEqDiff, eq_self, up_up, up_self, up_ne, ne_eq, not_false_eq_true, Int.reduceEq, Int.reduceNeg, se_aI, se_aJ]; exact D1 _ _ (by assumption) (by assumption)) | exact (D _ _ _ _ _ (by assumption) (by assumption) (by assumption)).2 | exact h2 | exact h2 (by omega) | exact h3 | exact h3 (by omega) | omega | exact True.intro | (simp only [rI_rI, rJ_rJ, hI_rI, hJ_rI, hI_rJ, hJ_rJ, hI_rR, hR_rI, hR_rJ, hN_rI, hN_rJ, svH_63, svH_66, rfH_63, wvH_63, wvH_62, wvH_67, wvH_68, wvH_69, sc_63, sc_n62, sc_n67, sc_n68, sc_n69, sc_n70, reduceIte, Nat.reduceEqDiff, eq_self, up_up, up_self, up_ne, ne_eq, not_false_eq_true, Int.reduceEq, Int.reduceNeg, se_aI, se_aJ]; omega))
  · have C := h2 z
    repeat' (first | apply And.intro | (with_reducible assumption) | (intro h9; first | (exfalso; omega) | (simp only [rI_rI, rJ_rJ, hI_rI, hJ_rI, hI_rJ, hJ_rJ, hI_rR, hR_rI, hR_rJ, hN_rI, hN_rJ, svH_63, svH_66, rfH_63, wvH_63, wvH_62, wvH_67, wvH_68, wvH_69, sc_63, sc_n62, sc_n67, sc_n68, sc_n69, sc_n70, reduceIte, Nat.reduceEqDiff, eq_self, up_up, up_self, up_ne, ne_eq, not_false_eq_true, Int.reduceEq, Int.reduceNeg, se_aI, se_aJ] at h9; first | (exfalso; omega) | skip) | skip) | exact C | exact h2 | exact h2 (by omega) | exact h3 | exact h3 (by omega) | omega | exact True.intro | (simp only [rI_rI, rJ_rJ, hI_rI, hJ_rI, hI_rJ, hJ_rJ, hI_rR, hR_rI, hR_rJ, hN_rI, hN_rJ, svH_63, svH_66, rfH_63, wvH_63, wvH_62, wvH_67, wvH_68, wvH_69, sc_63, sc_n62, sc_n67, sc_n68, sc_n69, sc_n70, reduceIte, Nat.reduceEqDiff, eq_self, up_up, up_self, up_ne, ne_eq, not_false_eq_true, Int.reduceEq, Int.reduceNeg, se_aI, se_aJ]; omega))
theorem m_X9_bestWitness : MM 167 s_X9_bestWitness := mm_of (own := 8) (by rfl) k_X9_bestWitness (cl := [(182, s_X9_demandVariable), (105, s_X5_climb), (104, s_X5_bestModel), (32, s_X0_variableWord)]) ⟨m_X9_demandVariable, m_X5_climb, m_X5_bestModel, m_X0_variableWord, trivial⟩ o_X9_bestWitness
def s_X9_equivalent : CS := (xc 3 18 7, ap [(3, 0), (0, 0), (0, 0)] (fun p q h Rt X =>
∃ w ps s, CI h w ps s ∧ (¬ (0 ≤ p ∧ p < w 0 ∧ 0 ≤ q ∧ q < w 0) → X 2 h) ∧ (0 ≤ p ∧ p < w 0 ∧ 0 ≤ q ∧ q < w 0 → nd w p 1 ≠ nd w q 1 → X 0 h) ∧ (0 ≤ p ∧ p < w 0 ∧ 0 ≤ q ∧ q < w 0 → nd w p 1 = nd w q 1 → dfM w p q = -1 → Go h w ps s (Rt (some (.inl 1)))) ∧
(0 ≤ p ∧ p < w 0 ∧ 0 ≤ q ∧ q < w 0 → nd w p 1 = nd w q 1 → dfM w p q ≠ -1 → Go h w ps s (Rt (some (.inl 0))))))
set_option maxRecDepth 100000 in
set_option maxHeartbeats 4000000 in
theorem o_X9_equivalent : Obl true 2 3 (sp [(181, s_X9_demandNode), (183, s_X9_demandSameWidth), (105, s_X5_climb), (103, s_X5_best)]) [] code_X9_equivalent s_X9_equivalent := by
  refine obl0x (by rfl) ?_
  intro p r_p q r_q h Rt X hh hf hs
  obtain ⟨w, ps, s, hC, h2, h3, h4, h5⟩ := hs
  have hW := hC.wf
  have hG := hC.gh
  have hS := hC.st
  have hK := hC.sk
  have g0 := hG.n
  have nn := hW.nn
  have tr := tot_rng hW
  by_cases z : 0 ≤ p ∧ p < w 0 ∧ 0 ≤ q ∧ q < w 0
  · have c1 := hG.k1 z.1 z.2.1
    have c2 := hG.k1 z.2.2.1 z.2.2.2
    by_cases y : nd w p 1 = nd w q 1
    · have cp : ClP w 1 p q 0 := Box.i (Or.inr (Or.inl ⟨rfl, z.1, z.2.1, z.2.2.1, z.2.2.2, y⟩))
      have D : ∀ F R Q L r, CM w (hI h 46) F L → isB (mdl w) (goalV w 1 p q 0) (tot w) r → Bst F (goalV w 1 p q 0) r → (F 6 = 1 → Rt (some (.inl 0)) (se h F R Q L)) ∧ (F 6 ≠ 1 → Rt (some (.inl 1)) (se h F R Q L)) := fun F R Q L r hm hb hB => by
        have d := df_isB hb (by omega)
        rw [hB.o.2]
        by_cases u : dfM w p q = -1
        · exact ⟨fun k => absurd k (d.1 u), fun _ => h4 z y u _ (hC.se hm.sk R Q) (Kp.se _ _ _ _ _)⟩
        · exact ⟨fun _ => h5 z y u _ (hC.se hm.sk R Q) (Kp.se _ _ _ _ _), fun k => absurd (d.2 u).1 k⟩
      repeat' (first | apply And.intro | (with_reducible assumption) | (intro h9; first | (exfalso; omega) | (simp only [rI_rI, rJ_rJ, hI_rI, hJ_rI, hI_rJ, hJ_rJ, hI_rR, hR_rI, hR_rJ, hN_rI, hN_rJ, svH_63, svH_66, rfH_63, wvH_63, wvH_62, wvH_67, wvH_68, wvH_69, sc_63, sc_n62, sc_n67, sc_n68, sc_n69, sc_n70, reduceIte, Nat.reduceEqDiff, eq_self, up_up, up_self, up_ne, ne_eq, not_false_eq_true, Int.reduceEq, Int.reduceNeg, se_aI, se_aJ] at h9; first | (exfalso; omega) | skip) | skip) | refine Exists.intro w ?_ | exact hG | exact hW | exact hS | exact hK | exact cp | exact (D _ _ _ _ _ (by assumption) (by assumption) (by assumption)).1 (by assumption) | exact (D _ _ _ _ _ (by assumption) (by assumption) (by assumption)).2 (by assumption) | exact h2 | exact h2 (by omega) | exact h3 | exact h3 (by omega) | exact h4 | exact h4 (by omega) | exact h5 | exact h5 (by omega) | omega | exact True.intro | (simp only [rI_rI, rJ_rJ, hI_rI, hJ_rI, hI_rJ, hJ_rJ, hI_rR, hR_rI, hR_rJ, hN_rI, hN_rJ, svH_63, svH_66, rfH_63, wvH_63, wvH_62, wvH_67, wvH_68, wvH_69, sc_63, sc_n62, sc_n67, sc_n68, sc_n69, sc_n70, reduceIte, Nat.reduceEqDiff, eq_self, up_up, up_self, up_ne, ne_eq, not_false_eq_true, Int.reduceEq, Int.reduceNeg, se_aI, se_aJ]; omega))
    · have C := h3 z y
      repeat' (first | apply And.intro | (with_reducible assumption) | (intro h9; first | (exfalso; omega) | (simp only [rI_rI, rJ_rJ, hI_rI, hJ_rI, hI_rJ, hJ_rJ, hI_rR, hR_rI, hR_rJ, hN_rI, hN_rJ, svH_63, svH_66, rfH_63, wvH_63, wvH_62, wvH_67, wvH_68, wvH_69, sc_63, sc_n62, sc_n67, sc_n68, sc_n69, sc_n70, reduceIte, Nat.reduceEqDiff, eq_self, up_up, up_self, up_ne, ne_eq, not_false_eq_true, Int.reduceEq, Int.reduceNeg, se_aI, se_aJ] at h9; first | (exfalso; omega) | skip) | skip) | exact C | exact h2 | exact h2 (by omega) | exact h3 | exact h3 (by omega) | exact h4 | exact h4 (by omega) | exact h5 | exact h5 (by omega) | omega | exact True.intro | (simp only [rI_rI, rJ_rJ, hI_rI, hJ_rI, hI_rJ, hJ_rJ, hI_rR, hR_rI, hR_rJ, hN_rI, hN_rJ, svH_63, svH_66, rfH_63, wvH_63, wvH_62, wvH_67, wvH_68, wvH_69, sc_63, sc_n62, sc_n67, sc_n68, sc_n69, sc_n70, reduceIte, Nat.reduceEqDiff, eq_self, up_up, up_self, up_ne, ne_eq, not_false_eq_true, Int.reduceEq, Int.reduceNeg, se_aI, se_aJ]; omega))
  · have C := h2 z
    repeat' (first | apply And.intro | (with_reducible assumption) | (intro h9; first | (exfalso; omega) | (simp only [rI_rI, rJ_rJ, hI_rI, hJ_rI, hI_rJ, hJ_rJ, hI_rR, hR_rI, hR_rJ, hN_rI, hN_rJ, svH_63, svH_66, rfH_63, wvH_63, wvH_62, wvH_67, wvH_68, wvH_69, sc_63, sc_n62, sc_n67, sc_n68, sc_n69, sc_n70, reduceIte, Nat.reduceEqDiff, eq_self, up_up, up_self, up_ne, ne_eq, not_false_eq_true, Int.reduceEq, Int.reduceNeg, se_aI, se_aJ] at h9; first | (exfalso; omega) | skip) | skip) | exact C | exact h2 | exact h2 (by omega) | exact h3 | exact h3 (by omega) | exact h4 | exact h4 (by omega) | exact h5 | exact h5 (by omega) | omega | exact True.intro | (simp only [rI_rI, rJ_rJ, hI_rI, hJ_rI, hI_rJ, hJ_rJ, hI_rR, hR_rI, hR_rJ, hN_rI, hN_rJ, svH_63, svH_66, rfH_63, wvH_63, wvH_62, wvH_67, wvH_68, wvH_69, sc_63, sc_n62, sc_n67, sc_n68, sc_n69, sc_n70, reduceIte, Nat.reduceEqDiff, eq_self, up_up, up_self, up_ne, ne_eq, not_false_eq_true, Int.reduceEq, Int.reduceNeg, se_aI, se_aJ]; omega))
theorem m_X9_equivalent : MM 161 s_X9_equivalent := mm_of (own := 8) (by rfl) k_X9_equivalent (cl := [(181, s_X9_demandNode), (183, s_X9_demandSameWidth), (105, s_X5_climb), (103, s_X5_best)]) ⟨m_X9_demandNode, m_X9_demandSameWidth, m_X5_climb, m_X5_best, trivial⟩ o_X9_equivalent
def s_X9_counterexample : CS := (xc 4 24 7, ap [(3, 0), (0, 0), (0, 0), (0, 0)] (fun p q v h Rt X =>
∃ w ps s, CI h w ps s ∧ (¬ (0 ≤ p ∧ p < w 0 ∧ 0 ≤ q ∧ q < w 0 ∧ 0 ≤ v ∧ v < w 281) → X 2 h) ∧ (0 ≤ p ∧ p < w 0 ∧ 0 ≤ q ∧ q < w 0 ∧ 0 ≤ v ∧ v < w 281 → nd w p 1 ≠ nd w q 1 → X 0 h) ∧ (0 ≤ p ∧ p < w 0 ∧ 0 ≤ q ∧ q < w 0 ∧ 0 ≤ v ∧ v < w 281 → nd w p 1 = nd w q 1 → Go h w ps s (Rt (some (.inl (wrd w (dfM w p q) v)))))))
set_option maxRecDepth 100000 in
set_option maxHeartbeats 4000000 in
theorem o_X9_counterexample : Obl true 1 4 (sp [(181, s_X9_demandNode), (182, s_X9_demandVariable), (183, s_X9_demandSameWidth), (105, s_X5_climb), (103, s_X5_best), (104, s_X5_bestModel), (32, s_X0_variableWord)]) [] code_X9_counterexample s_X9_counterexample := by
  refine obl0x (by rfl) ?_
  intro p r_p q r_q v r_v h Rt X hh hf hs
  obtain ⟨w, ps, s, hC, h2, h3, h4⟩ := hs
  have hW := hC.wf
  have hG := hC.gh
  have hS := hC.st
  have hK := hC.sk
  have g0 := hG.n
  have g1 := hG.v
  have nn := hW.nn
  have tr := tot_rng hW
  by_cases z : 0 ≤ p ∧ p < w 0 ∧ 0 ≤ q ∧ q < w 0 ∧ 0 ≤ v ∧ v < w 281
  · have c1 := hG.k1 z.1 z.2.1
    have c2 := hG.k1 z.2.2.1 z.2.2.2.1
    by_cases y : nd w p 1 = nd w q 1
    · have cp : ClP w 1 p q 0 := Box.i (Or.inr (Or.inl ⟨rfl, z.1, z.2.1, z.2.2.1, z.2.2.2.1, y⟩))
      have G : ∀ F R Q L, GH (se h F R Q L) w := fun F R Q L => by exact hG
      have D : ∀ F R Q L r, CM w (hI h 46) F L → isB (mdl w) (goalV w 1 p q 0) (tot w) r → Bst F (goalV w 1 p q 0) r → -1 ≤ F 7 ∧ (F 6 = 1 → Rt (some (.inl (wrd w (F 7) v))) (se h F R Q L)) ∧ (F 6 ≠ 1 → Rt (some (.inl (-1))) (se h F R Q L)) := fun F R Q L r hm hb hB => by
        have d := df_isB hb (by omega)
        have K := h4 z y _ (hC.se hm.sk R Q) (Kp.se _ _ _ _ _)
        rw [hB.o.2, hB.o.1]
        refine ⟨(isB_lo hb).1, fun k => ?_, fun k => ?_⟩
        · by_cases u : dfM w p q = -1
          · exact absurd k (d.1 u)
          · rw [(d.2 u).2]; exact K
        · by_cases u : dfM w p q = -1
          · rw [u] at K
            unfold wrd at K
            rw [if_pos rfl] at K
            exact K
          · exact absurd (d.2 u).1 k
      have D1 : ∀ (F : Int → Int) (r : Int), isB (mdl w) (goalV w 1 p q 0) (tot w) r → Bst F (goalV w 1 p q 0) r → -1 ≤ F 7 := fun F r hb hB => by rw [hB.o.1]; exact (isB_lo hb).1
      repeat' (first | apply And.intro | (with_reducible assumption) | (intro h9; first | (exfalso; omega) | (simp only [rI_rI, rJ_rJ, hI_rI, hJ_rI, hI_rJ, hJ_rJ, hI_rR, hR_rI, hR_rJ, hN_rI, hN_rJ, svH_63, svH_66, rfH_63, wvH_63, wvH_62, wvH_67, wvH_68, wvH_69, sc_63, sc_n62, sc_n67, sc_n68, sc_n69, sc_n70, reduceIte, Nat.reduceEqDiff, eq_self, up_up, up_self, up_ne, ne_eq, not_false_eq_true, Int.reduceEq, Int.reduceNeg, se_aI, se_aJ] at h9; first | (exfalso; omega) | skip) | skip) | refine Exists.intro w ?_ | exact hG | exact hW | exact hS | exact hK | exact cp | exact G _ _ _ _ | (simp only [rI_rI, rJ_rJ, hI_rI, hJ_rI, hI_rJ, hJ_rJ, hI_rR, hR_rI, hR_rJ, hN_rI, hN_rJ, svH_63, svH_66, rfH_63, wvH_63, wvH_62, wvH_67, wvH_68, wvH_69, sc_63, sc_n62, sc_n67, sc_n68, sc_n69, sc_n70, reduceIte, Nat.reduceEqDiff, eq_self, up_up, up_self, up_ne, ne_eq, not_false_eq_true, Int.reduceEq, Int.reduceNeg, se_aI, se_aJ]; exact D1 _ _ (by assumption) (by assumption)) | exact (D _ _ _ _ _ (by assumption) (by assumption) (by assumption)).2.1 (by assumption) | exact (D _ _ _ _ _ (by assumption) (by assumption) (by assumption)).2.2 (by assumption) | exact h2 | exact h2 (by omega) | exact h3 | exact h3 (by omega) | exact h4 | exact h4 (by omega) | omega | exact True.intro | (simp only [rI_rI, rJ_rJ, hI_rI, hJ_rI, hI_rJ, hJ_rJ, hI_rR, hR_rI, hR_rJ, hN_rI, hN_rJ, svH_63, svH_66, rfH_63, wvH_63, wvH_62, wvH_67, wvH_68, wvH_69, sc_63, sc_n62, sc_n67, sc_n68, sc_n69, sc_n70, reduceIte, Nat.reduceEqDiff, eq_self, up_up, up_self, up_ne, ne_eq, not_false_eq_true, Int.reduceEq, Int.reduceNeg, se_aI, se_aJ]; omega))
    · have C := h3 z y
      repeat' (first | apply And.intro | (with_reducible assumption) | (intro h9; first | (exfalso; omega) | (simp only [rI_rI, rJ_rJ, hI_rI, hJ_rI, hI_rJ, hJ_rJ, hI_rR, hR_rI, hR_rJ, hN_rI, hN_rJ, svH_63, svH_66, rfH_63, wvH_63, wvH_62, wvH_67, wvH_68, wvH_69, sc_63, sc_n62, sc_n67, sc_n68, sc_n69, sc_n70, reduceIte, Nat.reduceEqDiff, eq_self, up_up, up_self, up_ne, ne_eq, not_false_eq_true, Int.reduceEq, Int.reduceNeg, se_aI, se_aJ] at h9; first | (exfalso; omega) | skip) | skip) | exact C | exact h2 | exact h2 (by omega) | exact h3 | exact h3 (by omega) | exact h4 | exact h4 (by omega) | omega | exact True.intro | (simp only [rI_rI, rJ_rJ, hI_rI, hJ_rI, hI_rJ, hJ_rJ, hI_rR, hR_rI, hR_rJ, hN_rI, hN_rJ, svH_63, svH_66, rfH_63, wvH_63, wvH_62, wvH_67, wvH_68, wvH_69, sc_63, sc_n62, sc_n67, sc_n68, sc_n69, sc_n70, reduceIte, Nat.reduceEqDiff, eq_self, up_up, up_self, up_ne, ne_eq, not_false_eq_true, Int.reduceEq, Int.reduceNeg, se_aI, se_aJ]; omega))
  · have C := h2 z
    repeat' (first | apply And.intro | (with_reducible assumption) | (intro h9; first | (exfalso; omega) | (simp only [rI_rI, rJ_rJ, hI_rI, hJ_rI, hI_rJ, hJ_rJ, hI_rR, hR_rI, hR_rJ, hN_rI, hN_rJ, svH_63, svH_66, rfH_63, wvH_63, wvH_62, wvH_67, wvH_68, wvH_69, sc_63, sc_n62, sc_n67, sc_n68, sc_n69, sc_n70, reduceIte, Nat.reduceEqDiff, eq_self, up_up, up_self, up_ne, ne_eq, not_false_eq_true, Int.reduceEq, Int.reduceNeg, se_aI, se_aJ] at h9; first | (exfalso; omega) | skip) | skip) | exact C | exact h2 | exact h2 (by omega) | exact h3 | exact h3 (by omega) | exact h4 | exact h4 (by omega) | omega | exact True.intro | (simp only [rI_rI, rJ_rJ, hI_rI, hJ_rI, hI_rJ, hJ_rJ, hI_rR, hR_rI, hR_rJ, hN_rI, hN_rJ, svH_63, svH_66, rfH_63, wvH_63, wvH_62, wvH_67, wvH_68, wvH_69, sc_63, sc_n62, sc_n67, sc_n68, sc_n69, sc_n70, reduceIte, Nat.reduceEqDiff, eq_self, up_up, up_self, up_ne, ne_eq, not_false_eq_true, Int.reduceEq, Int.reduceNeg, se_aI, se_aJ]; omega))
theorem m_X9_counterexample : MM 162 s_X9_counterexample := mm_of (own := 8) (by rfl) k_X9_counterexample (cl := [(181, s_X9_demandNode), (182, s_X9_demandVariable), (183, s_X9_demandSameWidth), (105, s_X5_climb), (103, s_X5_best), (104, s_X5_bestModel), (32, s_X0_variableWord)]) ⟨m_X9_demandNode, m_X9_demandVariable, m_X9_demandSameWidth, m_X5_climb, m_X5_best, m_X5_bestModel, m_X0_variableWord, trivial⟩ o_X9_counterexample
def s_X9_values : CS := (xc 2 12 7, ap [(3, 0), (0, 0), (0, 0)] (fun n l h Rt X =>
∃ w ps s, CI h w ps s ∧ (¬ (0 ≤ n ∧ n < w 0) → X 2 h) ∧ (0 ≤ n ∧ n < w 0 → ¬ (1 ≤ l ∧ l ≤ 200) → X 0 h) ∧ (0 ≤ n ∧ n < w 0 → 1 ≤ l ∧ l ≤ 200 → ∀ f, Mets w n f (tot w) → Go h w ps s (Rt (some (.inl (if smF f 256 < l then smF f 256 else l)))))))
set_option maxRecDepth 100000 in
set_option maxHeartbeats 4000000 in
theorem o_X9_values : Obl true 1 3 (sp [(181, s_X9_demandNode), (184, s_X9_demandLimit), (112, s_X5_collectWords)]) [] code_X9_values s_X9_values := by
  refine obl0x (by rfl) ?_
  intro n r_n l r_l h Rt X hh hf hs
  obtain ⟨w, ps, s, hC, h2, h3, h4⟩ := hs
  have hW := hC.wf
  have hG := hC.gh
  have hS := hC.st
  have hK := hC.sk
  have g0 := hG.n
  by_cases z : 0 ≤ n ∧ n < w 0
  · by_cases y : 1 ≤ l ∧ l ≤ 200
    · have D : ∀ f F R Q L, FM w (hI h 46) F L → Mets w n f (tot w) → (smF f 256 < l → Rt (some (.inl (smF f 256))) (se (rI h 48 f) F R Q L)) ∧ (¬ smF f 256 < l → Rt (some (.inl l)) (se (rI h 48 f) F R Q L)) := fun f F R Q L hm hf => by
        have K := h4 z y f hf _ ((hC.r48 f).se hm.sk R Q) ((Kp.r48 h f).tr (Kp.se _ _ _ _ _))
        exact ⟨fun k => by rw [if_pos k] at K; exact K, fun k => by rw [if_neg k] at K; exact K⟩
      repeat' (first | apply And.intro | (with_reducible assumption) | (intro h9; first | (exfalso; omega) | (simp only [rI_rI, rJ_rJ, hI_rI, hJ_rI, hI_rJ, hJ_rJ, hI_rR, hR_rI, hR_rJ, hN_rI, hN_rJ, svH_63, svH_66, rfH_63, wvH_63, wvH_62, wvH_67, wvH_68, wvH_69, sc_63, sc_n62, sc_n67, sc_n68, sc_n69, sc_n70, reduceIte, Nat.reduceEqDiff, eq_self, up_up, up_self, up_ne, ne_eq, not_false_eq_true, Int.reduceEq, Int.reduceNeg, se_aI, se_aJ] at h9; first | (exfalso; omega) | skip) | skip) | refine Exists.intro w ?_ | exact hG | exact hW | exact hS | exact hK | exact (D _ _ _ _ _ (by assumption) (by assumption)).1 (by omega) | exact (D _ _ _ _ _ (by assumption) (by assumption)).2 (by omega) | exact h2 | exact h2 (by omega) | exact h3 | exact h3 (by omega) | exact h4 | exact h4 (by omega) | omega | exact True.intro | (simp only [rI_rI, rJ_rJ, hI_rI, hJ_rI, hI_rJ, hJ_rJ, hI_rR, hR_rI, hR_rJ, hN_rI, hN_rJ, svH_63, svH_66, rfH_63, wvH_63, wvH_62, wvH_67, wvH_68, wvH_69, sc_63, sc_n62, sc_n67, sc_n68, sc_n69, sc_n70, reduceIte, Nat.reduceEqDiff, eq_self, up_up, up_self, up_ne, ne_eq, not_false_eq_true, Int.reduceEq, Int.reduceNeg, se_aI, se_aJ]; omega))
    · have C := h3 z y
      repeat' (first | apply And.intro | (with_reducible assumption) | (intro h9; first | (exfalso; omega) | (simp only [rI_rI, rJ_rJ, hI_rI, hJ_rI, hI_rJ, hJ_rJ, hI_rR, hR_rI, hR_rJ, hN_rI, hN_rJ, svH_63, svH_66, rfH_63, wvH_63, wvH_62, wvH_67, wvH_68, wvH_69, sc_63, sc_n62, sc_n67, sc_n68, sc_n69, sc_n70, reduceIte, Nat.reduceEqDiff, eq_self, up_up, up_self, up_ne, ne_eq, not_false_eq_true, Int.reduceEq, Int.reduceNeg, se_aI, se_aJ] at h9; first | (exfalso; omega) | skip) | skip) | exact C | exact h2 | exact h2 (by omega) | exact h3 | exact h3 (by omega) | exact h4 | exact h4 (by omega) | omega | exact True.intro | (simp only [rI_rI, rJ_rJ, hI_rI, hJ_rI, hI_rJ, hJ_rJ, hI_rR, hR_rI, hR_rJ, hN_rI, hN_rJ, svH_63, svH_66, rfH_63, wvH_63, wvH_62, wvH_67, wvH_68, wvH_69, sc_63, sc_n62, sc_n67, sc_n68, sc_n69, sc_n70, reduceIte, Nat.reduceEqDiff, eq_self, up_up, up_self, up_ne, ne_eq, not_false_eq_true, Int.reduceEq, Int.reduceNeg, se_aI, se_aJ]; omega))
  · have C := h2 z
    repeat' (first | apply And.intro | (with_reducible assumption) | (intro h9; first | (exfalso; omega) | (simp only [rI_rI, rJ_rJ, hI_rI, hJ_rI, hI_rJ, hJ_rJ, hI_rR, hR_rI, hR_rJ, hN_rI, hN_rJ, svH_63, svH_66, rfH_63, wvH_63, wvH_62, wvH_67, wvH_68, wvH_69, sc_63, sc_n62, sc_n67, sc_n68, sc_n69, sc_n70, reduceIte, Nat.reduceEqDiff, eq_self, up_up, up_self, up_ne, ne_eq, not_false_eq_true, Int.reduceEq, Int.reduceNeg, se_aI, se_aJ] at h9; first | (exfalso; omega) | skip) | skip) | exact C | exact h2 | exact h2 (by omega) | exact h3 | exact h3 (by omega) | exact h4 | exact h4 (by omega) | omega | exact True.intro | (simp only [rI_rI, rJ_rJ, hI_rI, hJ_rI, hI_rJ, hJ_rJ, hI_rR, hR_rI, hR_rJ, hN_rI, hN_rJ, svH_63, svH_66, rfH_63, wvH_63, wvH_62, wvH_67, wvH_68, wvH_69, sc_63, sc_n62, sc_n67, sc_n68, sc_n69, sc_n70, reduceIte, Nat.reduceEqDiff, eq_self, up_up, up_self, up_ne, ne_eq, not_false_eq_true, Int.reduceEq, Int.reduceNeg, se_aI, se_aJ]; omega))
theorem m_X9_values : MM 159 s_X9_values := mm_of (own := 8) (by rfl) k_X9_values (cl := [(181, s_X9_demandNode), (184, s_X9_demandLimit), (112, s_X5_collectWords)]) ⟨m_X9_demandNode, m_X9_demandLimit, m_X5_collectWords, trivial⟩ o_X9_values
def s_X9_valueAt : CS := (xc 1 6 7, ap [(3, 0), (0, 0), (0, 0)] (fun n k h Rt X =>
∃ w ps s, CI h w ps s ∧ (¬ (0 ≤ n ∧ n < w 0) → X 2 h) ∧ (0 ≤ n ∧ n < w 0 → ¬ (0 ≤ k ∧ k ≤ 199) → Rt (some (.inl (-1))) h) ∧ (0 ≤ n ∧ n < w 0 → 0 ≤ k ∧ k ≤ 199 → ∀ f, Mets w n f (tot w) → Go h w ps s (Rt (some (.inl (kthW f k)))))))
set_option maxRecDepth 100000 in
set_option maxHeartbeats 4000000 in
theorem o_X9_valueAt : Obl true 1 3 (sp [(181, s_X9_demandNode), (112, s_X5_collectWords), (114, s_X5_collectedWord)]) [] code_X9_valueAt s_X9_valueAt := by
  refine obl0x (by rfl) ?_
  intro n r_n k r_k h Rt X hh hf hs
  obtain ⟨w, ps, s, hC, h2, h3, h4⟩ := hs
  have hW := hC.wf
  have hG := hC.gh
  have hS := hC.st
  have hK := hC.sk
  have g0 := hG.n
  by_cases z : 0 ≤ n ∧ n < w 0
  · by_cases y : 0 ≤ k ∧ k ≤ 199
    · have D : ∀ f F R Q L, FM w (hI h 46) F L → Mets w n f (tot w) → F01 f ∧ Rt (some (.inl (kthW f k))) (se (rI h 48 f) F R Q L) := fun f F R Q L hm hf => by
        refine ⟨Box.i fun v a b => ?_, h4 z y f hf _ ((hC.r48 f).se hm.sk R Q) ((Kp.r48 h f).tr (Kp.se _ _ _ _ _))⟩
        rcases hf.o v a b with q | q
        · exact Or.inl q.1
        · exact Or.inr q.1
      have M : ∀ f, Mets w n f (tot w) → F01 f := fun f hf => Box.i fun v a b => by
        rcases hf.o v a b with q | q
        · exact Or.inl q.1
        · exact Or.inr q.1
      repeat' (first | apply And.intro | (with_reducible assumption) | (intro h9; first | (exfalso; omega) | (simp only [rI_rI, rJ_rJ, hI_rI, hJ_rI, hI_rJ, hJ_rJ, hI_rR, hR_rI, hR_rJ, hN_rI, hN_rJ, svH_63, svH_66, rfH_63, wvH_63, wvH_62, wvH_67, wvH_68, wvH_69, sc_63, sc_n62, sc_n67, sc_n68, sc_n69, sc_n70, reduceIte, Nat.reduceEqDiff, eq_self, up_up, up_self, up_ne, ne_eq, not_false_eq_true, Int.reduceEq, Int.reduceNeg, se_aI, se_aJ] at h9; first | (exfalso; omega) | skip) | skip) | refine Exists.intro w ?_ | exact hG | exact hW | exact hS | exact hK | (simp only [rI_rI, rJ_rJ, hI_rI, hJ_rI, hI_rJ, hJ_rJ, hI_rR, hR_rI, hR_rJ, hN_rI, hN_rJ, svH_63, svH_66, rfH_63, wvH_63, wvH_62, wvH_67, wvH_68, wvH_69, sc_63, sc_n62, sc_n67, sc_n68, sc_n69, sc_n70, reduceIte, Nat.reduceEqDiff, eq_self, up_up, up_self, up_ne, ne_eq, not_false_eq_true, Int.reduceEq, Int.reduceNeg, se_aI, se_aJ]; exact M _ (by assumption)) | exact (D _ _ _ _ _ (by assumption) (by assumption)).2 | exact h2 | exact h2 (by omega) | exact h3 | exact h3 (by omega) | exact h4 | exact h4 (by omega) | omega | exact True.intro | (simp only [rI_rI, rJ_rJ, hI_rI, hJ_rI, hI_rJ, hJ_rJ, hI_rR, hR_rI, hR_rJ, hN_rI, hN_rJ, svH_63, svH_66, rfH_63, wvH_63, wvH_62, wvH_67, wvH_68, wvH_69, sc_63, sc_n62, sc_n67, sc_n68, sc_n69, sc_n70, reduceIte, Nat.reduceEqDiff, eq_self, up_up, up_self, up_ne, ne_eq, not_false_eq_true, Int.reduceEq, Int.reduceNeg, se_aI, se_aJ]; omega))
    · have C := h3 z y
      repeat' (first | apply And.intro | (with_reducible assumption) | (intro h9; first | (exfalso; omega) | (simp only [rI_rI, rJ_rJ, hI_rI, hJ_rI, hI_rJ, hJ_rJ, hI_rR, hR_rI, hR_rJ, hN_rI, hN_rJ, svH_63, svH_66, rfH_63, wvH_63, wvH_62, wvH_67, wvH_68, wvH_69, sc_63, sc_n62, sc_n67, sc_n68, sc_n69, sc_n70, reduceIte, Nat.reduceEqDiff, eq_self, up_up, up_self, up_ne, ne_eq, not_false_eq_true, Int.reduceEq, Int.reduceNeg, se_aI, se_aJ] at h9; first | (exfalso; omega) | skip) | skip) | exact C | exact h2 | exact h2 (by omega) | exact h3 | exact h3 (by omega) | exact h4 | exact h4 (by omega) | omega | exact True.intro | (simp only [rI_rI, rJ_rJ, hI_rI, hJ_rI, hI_rJ, hJ_rJ, hI_rR, hR_rI, hR_rJ, hN_rI, hN_rJ, svH_63, svH_66, rfH_63, wvH_63, wvH_62, wvH_67, wvH_68, wvH_69, sc_63, sc_n62, sc_n67, sc_n68, sc_n69, sc_n70, reduceIte, Nat.reduceEqDiff, eq_self, up_up, up_self, up_ne, ne_eq, not_false_eq_true, Int.reduceEq, Int.reduceNeg, se_aI, se_aJ]; omega))
  · have C := h2 z
    repeat' (first | apply And.intro | (with_reducible assumption) | (intro h9; first | (exfalso; omega) | (simp only [rI_rI, rJ_rJ, hI_rI, hJ_rI, hI_rJ, hJ_rJ, hI_rR, hR_rI, hR_rJ, hN_rI, hN_rJ, svH_63, svH_66, rfH_63, wvH_63, wvH_62, wvH_67, wvH_68, wvH_69, sc_63, sc_n62, sc_n67, sc_n68, sc_n69, sc_n70, reduceIte, Nat.reduceEqDiff, eq_self, up_up, up_self, up_ne, ne_eq, not_false_eq_true, Int.reduceEq, Int.reduceNeg, se_aI, se_aJ] at h9; first | (exfalso; omega) | skip) | skip) | exact C | exact h2 | exact h2 (by omega) | exact h3 | exact h3 (by omega) | exact h4 | exact h4 (by omega) | omega | exact True.intro | (simp only [rI_rI, rJ_rJ, hI_rI, hJ_rI, hI_rJ, hJ_rJ, hI_rR, hR_rI, hR_rJ, hN_rI, hN_rJ, svH_63, svH_66, rfH_63, wvH_63, wvH_62, wvH_67, wvH_68, wvH_69, sc_63, sc_n62, sc_n67, sc_n68, sc_n69, sc_n70, reduceIte, Nat.reduceEqDiff, eq_self, up_up, up_self, up_ne, ne_eq, not_false_eq_true, Int.reduceEq, Int.reduceNeg, se_aI, se_aJ]; omega))
theorem m_X9_valueAt : MM 160 s_X9_valueAt := mm_of (own := 8) (by rfl) k_X9_valueAt (cl := [(181, s_X9_demandNode), (112, s_X5_collectWords), (114, s_X5_collectedWord)]) ⟨m_X9_demandNode, m_X5_collectWords, m_X5_collectedWord, trivial⟩ o_X9_valueAt

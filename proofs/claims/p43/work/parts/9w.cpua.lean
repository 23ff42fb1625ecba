/-! ===== the class's digest, all of it ===== -/
def DcQ (h : Hp) (w ps : Int → Int) (s : Int) (m pc : Nat) (vs : List AV) (g : Hp) : Prop := CI g w ps s ∧ Kp h g ∧
  ((pc = 10 ∧ ∃ v : Nat, vs = [.inr (.inr (some 0)), .inr (.inl (dI w (dg1 w) v)), .inl (v : Int)] ∧ (v : Int) ≤ w 281 ∧ m = 10 + (4 - v)) ∨
  (pc = 74 ∧ ∃ v : Nat, vs = [.inr (.inr (some 0)), .inr (.inl (dM w (nxt w 0) (dg4 w) v)), .inl (nxt w 0), .inl (v : Int)] ∧ (v : Int) ≤ w 281 ∧ m = 4 - v))
theorem dc_0 : i2L 0 = 0 := by decide
theorem dc_1 : i2L 1 = 1 := by decide
def s_X9_digest : CS := (zc 7, ap [(3, 0)] (fun  h Rt X =>
∃ w ps s, CI h w ps s ∧ Go h w ps s (Rt (some (.inr (.inl (dgT w (hI h 49 1) s)))))))
set_option maxRecDepth 100000 in
set_option maxHeartbeats 4000000 in
theorem o_X9_digest : Obl true 3 5 (sp [(176, s_X9_hashNodes), (2, s_X0_variableCount), (178, s_X9_mix), (177, s_X9_hashDemands), (97, s_X5_leastModel), (32, s_X0_variableWord), (124, s_X7_length), (34, s_X1_count)]) [] code_X9_digest s_X9_digest := by
  refine oblL (by rfl) [(10, [0, 1, 3]), (74, [0, 1, 3, 4])] ?_
  intro  h Rt X hh hf hs
  obtain ⟨w, ps, s, hC, h2⟩ := hs
  have hW := hC.wf
  have vn := hW.vn
  have lt := nxt_lt hW 0
  refine ⟨DcQ h w ps s, ?_, ?_⟩
  · have C : ∀ R Q, ∃ k, DcQ h w ps s k 10 [.inr (.inr (some 0)), .inr (.inl (hnW w (Int64.ofNat 1862))), .inl 0] (rJ (rJ h 45 R) 44 Q) := fun R Q => ⟨10 + 4, hC.run R Q, Kp.run h R Q, Or.inl ⟨rfl, 0, rfl, vn.1, rfl⟩⟩
    repeat' (first | apply And.intro | (with_reducible assumption) | (intro h9; first | (exfalso; omega) | (simp only [rI_rI, rJ_rJ, hI_rI, hJ_rI, hI_rJ, hJ_rJ, hI_rR, hR_rI, hR_rJ, hN_rI, hN_rJ, svH_63, svH_66, rfH_63, wvH_63, wvH_62, wvH_67, wvH_68, wvH_69, sc_63, sc_n62, sc_n67, sc_n68, sc_n69, sc_n70, reduceIte, Nat.reduceEqDiff, eq_self, up_up, up_self, up_ne, ne_eq, not_false_eq_true, Int.reduceEq, Int.reduceNeg] at h9; first | (exfalso; omega) | skip) | skip) | refine ⟨w, ps, s, hC, fun R9 Q9 => ?_⟩ | exact C _ _ | exact h2 | exact h2 (by omega) | omega | exact True.intro | (simp only [rI_rI, rJ_rJ, hI_rI, hJ_rI, hI_rJ, hJ_rJ, hI_rR, hR_rI, hR_rJ, hN_rI, hN_rJ, svH_63, svH_66, rfH_63, wvH_63, wvH_62, wvH_67, wvH_68, wvH_69, sc_63, sc_n62, sc_n67, sc_n68, sc_n69, sc_n70, reduceIte, Nat.reduceEqDiff, eq_self, up_up, up_self, up_ne, ne_eq, not_false_eq_true, Int.reduceEq, Int.reduceNeg]; omega))
  · rintro m pc live vs g hl ⟨cg, kg, q⟩ hv1 hh1 hf1
    have gg := cg.gh
    have g1 := gg.v
    have gs := cg.st
    have gk := cg.sk
    rcases q with ⟨rfl, v, rfl, i1, rfl⟩ | ⟨rfl, v, rfl, i1, rfl⟩
    · rcases look2 hl with ⟨_, rfl⟩ | ⟨q, _⟩
      · by_cases y : (v : Int) < w 281
        · have e : hI g 10 v = w (286 + (v : Int)) := gs.o.2.2.2.2.2 v (by omega) y
          have C : ∃ k', k' < 10 + (4 - v) ∧ DcQ h w ps s k' 10 [.inr (.inr (some 0)), .inr (.inl (Int64.ofNat 31 * dI w (dg1 w) v + i2L (hI g 10 v))), .inl ((v : Int) + 1)] g := ⟨10 + (4 - (v + 1)), by omega, cg, kg, Or.inl ⟨rfl, v + 1, by rw [e]; rfl, by omega, rfl⟩⟩
          repeat' (first | apply And.intro | (with_reducible assumption) | (intro h9; first | (exfalso; omega) | (simp only [rI_rI, rJ_rJ, hI_rI, hJ_rI, hI_rJ, hJ_rJ, hI_rR, hR_rI, hR_rJ, hN_rI, hN_rJ, svH_63, svH_66, rfH_63, wvH_63, wvH_62, wvH_67, wvH_68, wvH_69, sc_63, sc_n62, sc_n67, sc_n68, sc_n69, sc_n70, reduceIte, Nat.reduceEqDiff, eq_self, up_up, up_self, up_ne, ne_eq, not_false_eq_true, Int.reduceEq, Int.reduceNeg] at h9; first | (exfalso; omega) | skip) | skip) | exact C | exact h2 | exact h2 (by omega) | omega | exact True.intro | (simp only [rI_rI, rJ_rJ, hI_rI, hJ_rI, hI_rJ, hJ_rJ, hI_rR, hR_rI, hR_rJ, hN_rI, hN_rJ, svH_63, svH_66, rfH_63, wvH_63, wvH_62, wvH_67, wvH_68, wvH_69, sc_63, sc_n62, sc_n67, sc_n68, sc_n69, sc_n70, reduceIte, Nat.reduceEqDiff, eq_self, up_up, up_self, up_ne, ne_eq, not_false_eq_true, Int.reduceEq, Int.reduceNeg]; omega))
        · have e : (w 281).toNat = v := by omega
          have C : ∀ F R Q L z, FM w (hI g 46) F L → z = dg4 w → ∃ k', k' < 10 + (4 - v) ∧ DcQ h w ps s k' 74 [.inr (.inr (some 0)), .inr (.inl z), .inl (nxt w 0), .inl 0] (se g F R Q L) := fun F R Q L z hf hz => ⟨4, by omega, cg.se hf.sk R Q, kg.tr (Kp.se _ _ _ _ _), Or.inr ⟨rfl, 0, by rw [hz]; rfl, vn.1, rfl⟩⟩
          have Z0 : nxt w 0 = -1 → Int64.ofNat 31 * dmW w (dI w (dg1 w) v) + 0 = dg4 w := fun z => by
            show _ = mx (dW w (dg3 w) (w 332).toNat) (if nxt w 0 = -1 then 0 else 1)
            rw [if_pos z, ← e]
            show _ = Int64.ofNat 31 * _ + i2L 0
            rw [dc_0]
            rfl
          have Z1 : nxt w 0 ≠ -1 → Int64.ofNat 31 * dmW w (dI w (dg1 w) v) + 1 = dg4 w := fun z => by
            show _ = mx (dW w (dg3 w) (w 332).toNat) (if nxt w 0 = -1 then 0 else 1)
            rw [if_neg z, ← e]
            show _ = Int64.ofNat 31 * _ + i2L 1
            rw [dc_1]
            rfl
          repeat' (first | apply And.intro | (with_reducible assumption) | (intro h9; first | (exfalso; omega) | (simp only [rI_rI, rJ_rJ, hI_rI, hJ_rI, hI_rJ, hJ_rJ, hI_rR, hR_rI, hR_rJ, hN_rI, hN_rJ, svH_63, svH_66, rfH_63, wvH_63, wvH_62, wvH_67, wvH_68, wvH_69, sc_63, sc_n62, sc_n67, sc_n68, sc_n69, sc_n70, reduceIte, Nat.reduceEqDiff, eq_self, up_up, up_self, up_ne, ne_eq, not_false_eq_true, Int.reduceEq, Int.reduceNeg] at h9; first | (exfalso; omega) | skip) | skip) | exact ⟨w, ps, s, cg, ?_⟩ | refine ⟨w, gg, hW, gs, gk, fun F9 R9 Q9 L9 f9 => ?_⟩ | refine ⟨w, ps, s, cg, ?_⟩ | refine Exists.intro w ?_ | exact gg | exact hW | exact gs | exact gk | exact C _ _ _ _ _ (by assumption) (Z0 (by assumption)) | exact C _ _ _ _ _ (by assumption) (Z1 (by assumption)) | exact h2 | exact h2 (by omega) | omega | exact True.intro | (simp only [rI_rI, rJ_rJ, hI_rI, hJ_rI, hI_rJ, hJ_rJ, hI_rR, hR_rI, hR_rJ, hN_rI, hN_rJ, svH_63, svH_66, rfH_63, wvH_63, wvH_62, wvH_67, wvH_68, wvH_69, sc_63, sc_n62, sc_n67, sc_n68, sc_n69, sc_n70, reduceIte, Nat.reduceEqDiff, eq_self, up_up, up_self, up_ne, ne_eq, not_false_eq_true, Int.reduceEq, Int.reduceNeg]; omega))
      · cases q
    · rcases look2 hl with ⟨q, _⟩ | ⟨_, rfl⟩
      · cases q
      · by_cases y : (v : Int) < w 281
        · have C : ∃ k', k' < 4 - v ∧ DcQ h w ps s k' 74 [.inr (.inr (some 0)), .inr (.inl (Int64.ofNat 31 * dM w (nxt w 0) (dg4 w) v + i2L (wrd w (nxt w 0) v))), .inl (nxt w 0), .inl ((v : Int) + 1)] g := ⟨4 - (v + 1), by omega, cg, kg, Or.inr ⟨rfl, v + 1, rfl, by omega, rfl⟩⟩
          repeat' (first | apply And.intro | (with_reducible assumption) | (intro h9; first | (exfalso; omega) | (simp only [rI_rI, rJ_rJ, hI_rI, hJ_rI, hI_rJ, hJ_rJ, hI_rR, hR_rI, hR_rJ, hN_rI, hN_rJ, svH_63, svH_66, rfH_63, wvH_63, wvH_62, wvH_67, wvH_68, wvH_69, sc_63, sc_n62, sc_n67, sc_n68, sc_n69, sc_n70, reduceIte, Nat.reduceEqDiff, eq_self, up_up, up_self, up_ne, ne_eq, not_false_eq_true, Int.reduceEq, Int.reduceNeg] at h9; first | (exfalso; omega) | skip) | skip) | refine Exists.intro w ?_ | exact gg | exact hW | exact C | exact h2 | exact h2 (by omega) | omega | exact True.intro | (simp only [rI_rI, rJ_rJ, hI_rI, hJ_rI, hI_rJ, hJ_rJ, hI_rR, hR_rI, hR_rJ, hN_rI, hN_rJ, svH_63, svH_66, rfH_63, wvH_63, wvH_62, wvH_67, wvH_68, wvH_69, sc_63, sc_n62, sc_n67, sc_n68, sc_n69, sc_n70, reduceIte, Nat.reduceEqDiff, eq_self, up_up, up_self, up_ne, ne_eq, not_false_eq_true, Int.reduceEq, Int.reduceNeg]; omega))
        · have e : (w 281).toNat = v := by omega
          have K := h2 g cg kg
          have e49 : hI h 49 1 = hI g 49 1 := by rw [kg.o.2.1]
          have e11 : s = hI g 11 1 := cg.hr.o.1.symm
          unfold dgT at K
          rw [e, e49, e11] at K
          repeat' (first | apply And.intro | (with_reducible assumption) | (intro h9; first | (exfalso; omega) | (simp only [rI_rI, rJ_rJ, hI_rI, hJ_rI, hI_rJ, hJ_rJ, hI_rR, hR_rI, hR_rJ, hN_rI, hN_rJ, svH_63, svH_66, rfH_63, wvH_63, wvH_62, wvH_67, wvH_68, wvH_69, sc_63, sc_n62, sc_n67, sc_n68, sc_n69, sc_n70, reduceIte, Nat.reduceEqDiff, eq_self, up_up, up_self, up_ne, ne_eq, not_false_eq_true, Int.reduceEq, Int.reduceNeg] at h9; first | (exfalso; omega) | skip) | skip) | exact K | exact h2 | exact h2 (by omega) | omega | exact True.intro | (simp only [rI_rI, rJ_rJ, hI_rI, hJ_rI, hI_rJ, hJ_rJ, hI_rR, hR_rI, hR_rJ, hN_rI, hN_rJ, svH_63, svH_66, rfH_63, wvH_63, wvH_62, wvH_67, wvH_68, wvH_69, sc_63, sc_n62, sc_n67, sc_n68, sc_n69, sc_n70, reduceIte, Nat.reduceEqDiff, eq_self, up_up, up_self, up_ne, ne_eq, not_false_eq_true, Int.reduceEq, Int.reduceNeg]; omega))
theorem m_X9_digest : MM 175 s_X9_digest := mm_of (own := 8) (by rfl) k_X9_digest (cl := [(176, s_X9_hashNodes), (2, s_X0_variableCount), (178, s_X9_mix), (177, s_X9_hashDemands), (97, s_X5_leastModel), (32, s_X0_variableWord), (124, s_X7_length), (34, s_X1_count)]) ⟨m_X9_hashNodes, m_X0_variableCount, m_X9_mix, m_X9_hashDemands, m_X5_leastModel, m_X0_variableWord, m_X7_length, m_X1_count, trivial⟩ o_X9_digest

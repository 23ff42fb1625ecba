/-! ===== the class's digest ===== -/
def hnW (w : Int → Int) (s0 : Int64) : Int64 := dN w (mx s0 (w 0)) (w 0).toNat
theorem all_lb {w : Int → Int} (hW : WF w) {n : Int} (h0 : 0 ≤ n) (h1 : n < w 0) : lb (lShl 1 (w 0) - 1) n.toNat = true := by
  have nn := hW.nn
  rw [lb_ones (by omega) (by omega) (by omega)]
  exact decide_eq_true (by omega)
def HnQ (h : Hp) (w : Int → Int) (N : Int) (s0 : Int64) (R Q : Int → Int64) (m pc : Nat) (vs : List AV) (g : Hp) : Prop := g = rJ (rJ h 45 R) 44 Q ∧
  ((pc = 50 ∧ ∃ n : Nat, vs = [.inr (.inr (some 0)), .inl N, .inr (.inl (dN w (mx s0 (w 0)) n)), .inl (n : Int)] ∧ (n : Int) ≤ w 0 ∧ m = 100 * (40 - n)) ∨
  (pc = 65 ∧ ∃ n j : Nat, vs = [.inr (.inr (some 0)), .inl N, .inr (.inl (fW w n (dN w (mx s0 (w 0)) n) j)), .inl (n : Int), .inl (j : Int)] ∧ (n : Int) < w 0 ∧ j ≤ 8 ∧ m = 100 * (40 - n) - 1 - j))
def HnI (h : Hp) (w : Int → Int) (s0 : Int64) (m pc : Nat) (vs : List AV) (g : Hp) : Prop := ∃ N R Q, 0 ≤ N ∧ N < tot w ∧ VlL w Q (sShr N 6) (lShl 1 (w 0) - 1) (w 0) ∧ Asg w (hI h 10) (asg w N) ∧ HnQ h w N s0 R Q m pc vs g
def s_X9_hashNodes : CS := (zc 5, ap [(3, 0), (1, 0)] (fun s0 h Rt X =>
∃ w ps s, CI h w ps s ∧ ∀ R Q, Rt (some (.inr (.inl (hnW w s0)))) (rJ (rJ h 45 R) 44 Q)))
set_option maxRecDepth 100000 in
set_option maxHeartbeats 4000000 in
theorem o_X9_hashNodes : Obl true 3 8 (sp [(31, s_X0_assignment), (24, s_X0_allNodes), (45, s_X3_run), (1, s_X0_count), (178, s_X9_mix), (5, s_X0_get), (25, s_X0_cone), (288, s_J13_bitCount_95d88), (46, s_X3_wordAt)]) [] code_X9_hashNodes s_X9_hashNodes := by
  refine oblL (by rfl) [(50, [0, 3, 4, 6]), (65, [0, 3, 4, 6, 7])] ?_
  intro s0 h Rt X hh hf hs
  obtain ⟨w, ps, s, hC, h2⟩ := hs
  have hW := hC.wf
  have hG := hC.gh
  have g0 := hG.n
  have nn := hW.nn
  have tt := tot_rng hW
  have hE : Ev w (hI h 10) := (hW.o.2.2.2.2.2.2.2.2.2.2.2).nx hW (Nx.rf w) rfl (fun v v0 v1 => hC.st.o.2.2.2.2.2 v v0 v1)
  have ca : Clo w (lShl 1 (hI h 1 3) - 1) := by rw [g0]; exact clo_all hW
  refine ⟨HnI h w s0, ?_, ?_⟩
  · have C : ∀ N R Q, 0 ≤ N → N < tot w → Asg w (hI h 10) (asg w N) → VlL w Q (sShr N 6) (lShl 1 (hI h 1 3) - 1) (w 0) → ∃ k, HnI h w s0 k 50 [.inr (.inr (some 0)), .inl N, .inr (.inl (Int64.ofNat 31 * s0 + i2L (hI h 1 3))), .inl 0] (rJ (rJ h 45 R) 44 Q) := fun N R Q a b d c => ⟨100 * 40, N, R, Q, a, b, (by rw [g0] at c; exact c), d, rfl, Or.inl ⟨rfl, 0, by rw [g0]; rfl, nn.1, rfl⟩⟩
    repeat' (first | apply And.intro | (with_reducible assumption) | (intro h9; first | (exfalso; omega) | (simp only [rI_rI, rJ_rJ, hI_rI, hJ_rI, hI_rJ, hJ_rJ, hI_rR, hR_rI, hR_rJ, hN_rI, hN_rJ, svH_63, svH_66, rfH_63, wvH_63, wvH_62, wvH_67, wvH_68, wvH_69, sc_63, sc_n62, sc_n67, sc_n68, sc_n69, sc_n70, reduceIte, Nat.reduceEqDiff, eq_self, up_up, up_self, up_ne, ne_eq, not_false_eq_true, Int.reduceEq, Int.reduceNeg] at h9; first | (exfalso; omega) | skip) | skip) | exact ⟨w, hG, hW, hE, fun _ _ _ _ => ?_⟩ | refine Exists.intro w ?_ | exact hG | exact hW | exact hE | exact ca | exact C _ _ _ (by assumption) (by assumption) (by assumption) (by assumption) | exact h2 | exact h2 (by omega) | omega | exact True.intro | (simp only [rI_rI, rJ_rJ, hI_rI, hJ_rI, hI_rJ, hJ_rJ, hI_rR, hR_rI, hR_rJ, hN_rI, hN_rJ, svH_63, svH_66, rfH_63, wvH_63, wvH_62, wvH_67, wvH_68, wvH_69, sc_63, sc_n62, sc_n67, sc_n68, sc_n69, sc_n70, reduceIte, Nat.reduceEqDiff, eq_self, up_up, up_self, up_ne, ne_eq, not_false_eq_true, Int.reduceEq, Int.reduceNeg]; omega))
  · rintro m pc live vs g hl ⟨N, R, Q, N0, N1, hv, ha, rfl, q⟩ hv1 hh1 hf1
    have cg := hC.run R Q
    have gg : GH (rJ (rJ h 45 R) 44 Q) w := cg.gh
    rcases q with ⟨rfl, n, rfl, i1, rfl⟩ | ⟨rfl, n, j, rfl, i1, j1, rfl⟩
    · rcases look2 hl with ⟨_, rfl⟩ | ⟨q, _⟩
      · by_cases y : (n : Int) < w 0
        · have C : ∃ k', k' < 100 * (40 - n) ∧ HnI h w s0 k' 65 [.inr (.inr (some 0)), .inl N, .inr (.inl (dN w (mx s0 (w 0)) n)), .inl (n : Int), .inl 0] (rJ (rJ h 45 R) 44 Q) := ⟨100 * (40 - n) - 1 - 0, by omega, N, R, Q, N0, N1, hv, ha, rfl, Or.inr ⟨rfl, n, 0, rfl, y, by omega, rfl⟩⟩
          repeat' (first | apply And.intro | (with_reducible assumption) | (intro h9; first | (exfalso; omega) | (simp only [rI_rI, rJ_rJ, hI_rI, hJ_rI, hI_rJ, hJ_rJ, hI_rR, hR_rI, hR_rJ, hN_rI, hN_rJ, svH_63, svH_66, rfH_63, wvH_63, wvH_62, wvH_67, wvH_68, wvH_69, sc_63, sc_n62, sc_n67, sc_n68, sc_n69, sc_n70, reduceIte, Nat.reduceEqDiff, eq_self, up_up, up_self, up_ne, ne_eq, not_false_eq_true, Int.reduceEq, Int.reduceNeg] at h9; first | (exfalso; omega) | skip) | skip) | exact C | exact h2 | exact h2 (by omega) | omega | exact True.intro | (simp only [rI_rI, rJ_rJ, hI_rI, hJ_rI, hI_rJ, hJ_rJ, hI_rR, hR_rI, hR_rJ, hN_rI, hN_rJ, svH_63, svH_66, rfH_63, wvH_63, wvH_62, wvH_67, wvH_68, wvH_69, sc_63, sc_n62, sc_n67, sc_n68, sc_n69, sc_n70, reduceIte, Nat.reduceEqDiff, eq_self, up_up, up_self, up_ne, ne_eq, not_false_eq_true, Int.reduceEq, Int.reduceNeg]; omega))
        · have e : (w 0).toNat = n := by omega
          have K := h2 R Q
          unfold hnW at K
          rw [e] at K
          repeat' (first | apply And.intro | (with_reducible assumption) | (intro h9; first | (exfalso; omega) | (simp only [rI_rI, rJ_rJ, hI_rI, hJ_rI, hI_rJ, hJ_rJ, hI_rR, hR_rI, hR_rJ, hN_rI, hN_rJ, svH_63, svH_66, rfH_63, wvH_63, wvH_62, wvH_67, wvH_68, wvH_69, sc_63, sc_n62, sc_n67, sc_n68, sc_n69, sc_n70, reduceIte, Nat.reduceEqDiff, eq_self, up_up, up_self, up_ne, ne_eq, not_false_eq_true, Int.reduceEq, Int.reduceNeg] at h9; first | (exfalso; omega) | skip) | skip) | exact K | exact h2 | exact h2 (by omega) | omega | exact True.intro | (simp only [rI_rI, rJ_rJ, hI_rI, hJ_rI, hI_rJ, hJ_rJ, hI_rR, hR_rI, hR_rJ, hN_rI, hN_rJ, svH_63, svH_66, rfH_63, wvH_63, wvH_62, wvH_67, wvH_68, wvH_69, sc_63, sc_n62, sc_n67, sc_n68, sc_n69, sc_n70, reduceIte, Nat.reduceEqDiff, eq_self, up_up, up_self, up_ne, ne_eq, not_false_eq_true, Int.reduceEq, Int.reduceNeg]; omega))
      · cases q
    · rcases look2 hl with ⟨q, _⟩ | ⟨_, rfl⟩
      · cases q
      · by_cases y : j < 8
        · have et : hI h 2 ((n : Int) * 8 + j) = toldW w n j := told_gh hG (by omega) i1 hW (by omega) (by omega)
          have C : ∃ k', k' < 100 * (40 - n) - 1 - j ∧ HnI h w s0 k' 65 [.inr (.inr (some 0)), .inl N, .inr (.inl (Int64.ofNat 31 * fW w n (dN w (mx s0 (w 0)) n) j + i2L (hI h 2 ((n : Int) * 8 + j)))), .inl (n : Int), .inl ((j : Int) + 1)] (rJ (rJ h 45 R) 44 Q) := ⟨100 * (40 - n) - 1 - (j + 1), by omega, N, R, Q, N0, N1, hv, ha, rfl, Or.inr ⟨rfl, n, j + 1, by rw [et]; rfl, i1, by omega, rfl⟩⟩
          repeat' (first | apply And.intro | (with_reducible assumption) | (intro h9; first | (exfalso; omega) | (simp only [rI_rI, rJ_rJ, hI_rI, hJ_rI, hI_rJ, hJ_rJ, hI_rR, hR_rI, hR_rJ, hN_rI, hN_rJ, svH_63, svH_66, rfH_63, wvH_63, wvH_62, wvH_67, wvH_68, wvH_69, sc_63, sc_n62, sc_n67, sc_n68, sc_n69, sc_n70, reduceIte, Nat.reduceEqDiff, eq_self, up_up, up_self, up_ne, ne_eq, not_false_eq_true, Int.reduceEq, Int.reduceNeg] at h9; first | (exfalso; omega) | skip) | skip) | exact C | exact h2 | exact h2 (by omega) | omega | exact True.intro | (simp only [rI_rI, rJ_rJ, hI_rI, hJ_rI, hI_rJ, hJ_rJ, hI_rR, hR_rI, hR_rJ, hN_rI, hN_rJ, svH_63, svH_66, rfH_63, wvH_63, wvH_62, wvH_67, wvH_68, wvH_69, sc_63, sc_n62, sc_n67, sc_n68, sc_n69, sc_n70, reduceIte, Nat.reduceEqDiff, eq_self, up_up, up_self, up_ne, ne_eq, not_false_eq_true, Int.reduceEq, Int.reduceNeg]; omega))
        · obtain rfl : j = 8 := by omega
          have ev := val_at hW (by omega) i1 N0 N1 hv (all_lb hW (by omega) i1) ha fun v v0 v1 => hC.st.o.2.2.2.2.2 v v0 v1
          have ep : toldW w n 8 = pcL (coneW w n) := by
            unfold toldW
            rw [if_pos rfl, parts_eq hW (by omega) i1]
          have C : ∃ k', k' < 100 * (40 - n) - 1 - 8 ∧ HnI h w s0 k' 50 [.inr (.inr (some 0)), .inl N, .inr (.inl (Int64.ofNat 31 * (Int64.ofNat 31 * fW w n (dN w (mx s0 (w 0)) n) 8 + i2L (pcL (coneW w n))) + i2L (lw Q (N % 64).toNat ((n : Int) * 8) (nd w n 1).toNat))), .inl ((n : Int) + 1)] (rJ (rJ h 45 R) 44 Q) := ⟨100 * (40 - (n + 1)), by omega, N, R, Q, N0, N1, hv, ha, rfl, Or.inl ⟨rfl, n + 1, by rw [ev, ← ep]; rfl, by omega, rfl⟩⟩
          repeat' (first | apply And.intro | (with_reducible assumption) | (intro h9; first | (exfalso; omega) | (simp only [rI_rI, rJ_rJ, hI_rI, hJ_rI, hI_rJ, hJ_rJ, hI_rR, hR_rI, hR_rJ, hN_rI, hN_rJ, svH_63, svH_66, rfH_63, wvH_63, wvH_62, wvH_67, wvH_68, wvH_69, sc_63, sc_n62, sc_n67, sc_n68, sc_n69, sc_n70, reduceIte, Nat.reduceEqDiff, eq_self, up_up, up_self, up_ne, ne_eq, not_false_eq_true, Int.reduceEq, Int.reduceNeg] at h9; first | (exfalso; omega) | skip) | skip) | refine Exists.intro w ?_ | exact gg | exact hW | exact C | exact h2 | exact h2 (by omega) | omega | exact True.intro | (simp only [rI_rI, rJ_rJ, hI_rI, hJ_rI, hI_rJ, hJ_rJ, hI_rR, hR_rI, hR_rJ, hN_rI, hN_rJ, svH_63, svH_66, rfH_63, wvH_63, wvH_62, wvH_67, wvH_68, wvH_69, sc_63, sc_n62, sc_n67, sc_n68, sc_n69, sc_n70, reduceIte, Nat.reduceEqDiff, eq_self, up_up, up_self, up_ne, ne_eq, not_false_eq_true, Int.reduceEq, Int.reduceNeg]; omega))
theorem m_X9_hashNodes : MM 176 s_X9_hashNodes := mm_of (own := 8) (by rfl) k_X9_hashNodes (cl := [(31, s_X0_assignment), (24, s_X0_allNodes), (45, s_X3_run), (1, s_X0_count), (178, s_X9_mix), (5, s_X0_get), (25, s_X0_cone), (288, s_J13_bitCount_95d88), (46, s_X3_wordAt)]) ⟨m_X0_assignment, m_X0_allNodes, m_X3_run, m_X0_count, m_X9_mix, m_X0_get, m_X0_cone, m_J13_bitCount_95d88, m_X3_wordAt, trivial⟩ o_X9_hashNodes
def dmW (w : Int → Int) (s0 : Int64) : Int64 := dW w (mx (mx (dC w (mx s0 (w 290)) (w 290).toNat) (w 331)) (w 332)) (w 332).toNat
def HdQ (h : Hp) (w : Int → Int) (s0 : Int64) (m pc : Nat) (vs : List AV) (g : Hp) : Prop := g = h ∧
  ((pc = 16 ∧ ∃ k : Nat, vs = [.inr (.inr (some 0)), .inr (.inl (dC w (mx s0 (w 290)) k)), .inl (k : Int)] ∧ (k : Int) ≤ w 290 ∧ m = 100 + (20 - k)) ∨
  (pc = 93 ∧ ∃ k : Nat, vs = [.inr (.inr (some 0)), .inr (.inl (dW w (mx (mx (dC w (mx s0 (w 290)) (w 290).toNat) (w 331)) (w 332)) k)), .inl (k : Int)] ∧ (k : Int) ≤ w 332 ∧ m = 8 - k))
def s_X9_hashDemands : CS := (zc 2, ap [(3, 0), (1, 0)] (fun s0 h Rt X =>
∃ w ps s, CI h w ps s ∧ Rt (some (.inr (.inl (dmW w s0)))) h))
set_option maxRecDepth 100000 in
set_option maxHeartbeats 4000000 in
theorem o_X9_hashDemands : Obl true 3 6 (sp [(178, s_X9_mix)]) [] code_X9_hashDemands s_X9_hashDemands := by
  refine oblL (by rfl) [(16, [0, 3, 5]), (93, [0, 3, 5])] ?_
  intro s0 h Rt X hh hf hs
  obtain ⟨w, ps, s, hC, h2⟩ := hs
  have hW := hC.wf
  have cn := hW.cn
  have wn := hW.wn
  obtain ⟨s1, s2, s3, s4, s5, s6⟩ := hC.st.o
  refine ⟨HdQ h w s0, ?_, ?_⟩
  · have C : ∃ k, HdQ h w s0 k 16 [.inr (.inr (some 0)), .inr (.inl (Int64.ofNat 31 * s0 + i2L (hI h 5 2))), .inl 0] h := ⟨100 + 20, rfl, Or.inl ⟨rfl, 0, by rw [s2]; rfl, cn.1, rfl⟩⟩
    repeat' (first | apply And.intro | (with_reducible assumption) | (intro h9; first | (exfalso; omega) | (simp only [rI_rI, rJ_rJ, hI_rI, hJ_rI, hI_rJ, hJ_rJ, hI_rR, hR_rI, hR_rJ, hN_rI, hN_rJ, svH_63, svH_66, rfH_63, wvH_63, wvH_62, wvH_67, wvH_68, wvH_69, sc_63, sc_n62, sc_n67, sc_n68, sc_n69, sc_n70, reduceIte, Nat.reduceEqDiff, eq_self, up_up, up_self, up_ne, ne_eq, not_false_eq_true, Int.reduceEq, Int.reduceNeg] at h9; first | (exfalso; omega) | skip) | skip) | exact C | exact h2 | exact h2 (by omega) | omega | exact True.intro | (simp only [rI_rI, rJ_rJ, hI_rI, hJ_rI, hI_rJ, hJ_rJ, hI_rR, hR_rI, hR_rJ, hN_rI, hN_rJ, svH_63, svH_66, rfH_63, wvH_63, wvH_62, wvH_67, wvH_68, wvH_69, sc_63, sc_n62, sc_n67, sc_n68, sc_n69, sc_n70, reduceIte, Nat.reduceEqDiff, eq_self, up_up, up_self, up_ne, ne_eq, not_false_eq_true, Int.reduceEq, Int.reduceNeg]; omega))
  · rintro m pc live vs g hl ⟨rfl, q⟩ hv1 hh1 hf1
    rcases q with ⟨rfl, k, rfl, i1, rfl⟩ | ⟨rfl, k, rfl, i1, rfl⟩
    · rcases look2 hl with ⟨_, rfl⟩ | ⟨q, _⟩
      · by_cases y : (k : Int) < w 290
        · obtain ⟨e1, e2⟩ := s4 k (by omega) y
          have C : ∃ k', k' < 100 + (20 - k) ∧ HdQ g w s0 k' 16 [.inr (.inr (some 0)), .inr (.inl (Int64.ofNat 31 * (Int64.ofNat 31 * dC w (mx s0 (w 290)) k + i2L (hI g 6 k)) + i2L (hI g 7 k))), .inl ((k : Int) + 1)] g := ⟨100 + (20 - (k + 1)), by omega, rfl, Or.inl ⟨rfl, k + 1, by rw [show hI g 6 k = w (291 + k) from e1, show hI g 7 k = w (311 + k) from e2]; rfl, by omega, rfl⟩⟩
          repeat' (first | apply And.intro | (with_reducible assumption) | (intro h9; first | (exfalso; omega) | (simp only [rI_rI, rJ_rJ, hI_rI, hJ_rI, hI_rJ, hJ_rJ, hI_rR, hR_rI, hR_rJ, hN_rI, hN_rJ, svH_63, svH_66, rfH_63, wvH_63, wvH_62, wvH_67, wvH_68, wvH_69, sc_63, sc_n62, sc_n67, sc_n68, sc_n69, sc_n70, reduceIte, Nat.reduceEqDiff, eq_self, up_up, up_self, up_ne, ne_eq, not_false_eq_true, Int.reduceEq, Int.reduceNeg] at h9; first | (exfalso; omega) | skip) | skip) | exact C | exact h2 | exact h2 (by omega) | omega | exact True.intro | (simp only [rI_rI, rJ_rJ, hI_rI, hJ_rI, hI_rJ, hJ_rJ, hI_rR, hR_rI, hR_rJ, hN_rI, hN_rJ, svH_63, svH_66, rfH_63, wvH_63, wvH_62, wvH_67, wvH_68, wvH_69, sc_63, sc_n62, sc_n67, sc_n68, sc_n69, sc_n70, reduceIte, Nat.reduceEqDiff, eq_self, up_up, up_self, up_ne, ne_eq, not_false_eq_true, Int.reduceEq, Int.reduceNeg]; omega))
        · have e : (w 290).toNat = k := by omega
          have C : ∃ k', k' < 100 + (20 - k) ∧ HdQ g w s0 k' 93 [.inr (.inr (some 0)), .inr (.inl (Int64.ofNat 31 * (Int64.ofNat 31 * dC w (mx s0 (w 290)) k + i2L (hI g 5 1)) + i2L (hI g 5 5))), .inl 0] g := ⟨8, by omega, rfl, Or.inr ⟨rfl, 0, by rw [s1, s3, e]; rfl, wn.1, rfl⟩⟩
          repeat' (first | apply And.intro | (with_reducible assumption) | (intro h9; first | (exfalso; omega) | (simp only [rI_rI, rJ_rJ, hI_rI, hJ_rI, hI_rJ, hJ_rJ, hI_rR, hR_rI, hR_rJ, hN_rI, hN_rJ, svH_63, svH_66, rfH_63, wvH_63, wvH_62, wvH_67, wvH_68, wvH_69, sc_63, sc_n62, sc_n67, sc_n68, sc_n69, sc_n70, reduceIte, Nat.reduceEqDiff, eq_self, up_up, up_self, up_ne, ne_eq, not_false_eq_true, Int.reduceEq, Int.reduceNeg] at h9; first | (exfalso; omega) | skip) | skip) | exact C | exact h2 | exact h2 (by omega) | omega | exact True.intro | (simp only [rI_rI, rJ_rJ, hI_rI, hJ_rI, hI_rJ, hJ_rJ, hI_rR, hR_rI, hR_rJ, hN_rI, hN_rJ, svH_63, svH_66, rfH_63, wvH_63, wvH_62, wvH_67, wvH_68, wvH_69, sc_63, sc_n62, sc_n67, sc_n68, sc_n69, sc_n70, reduceIte, Nat.reduceEqDiff, eq_self, up_up, up_self, up_ne, ne_eq, not_false_eq_true, Int.reduceEq, Int.reduceNeg]; omega))
      · cases q
    · rcases look2 hl with ⟨q, _⟩ | ⟨_, rfl⟩
      · cases q
      · by_cases y : (k : Int) < w 332
        · obtain ⟨e1, e2⟩ := s5 k (by omega) y
          have C : ∃ k', k' < 8 - k ∧ HdQ g w s0 k' 93 [.inr (.inr (some 0)), .inr (.inl (Int64.ofNat 31 * (Int64.ofNat 31 * dW w (mx (mx (dC w (mx s0 (w 290)) (w 290).toNat) (w 331)) (w 332)) k + i2L (hI g 8 k)) + i2L (hI g 9 k))), .inl ((k : Int) + 1)] g := ⟨8 - (k + 1), by omega, rfl, Or.inr ⟨rfl, k + 1, by rw [show hI g 8 k = w (333 + k) from e1, show hI g 9 k = w (341 + k) from e2]; rfl, by omega, rfl⟩⟩
          repeat' (first | apply And.intro | (with_reducible assumption) | (intro h9; first | (exfalso; omega) | (simp only [rI_rI, rJ_rJ, hI_rI, hJ_rI, hI_rJ, hJ_rJ, hI_rR, hR_rI, hR_rJ, hN_rI, hN_rJ, svH_63, svH_66, rfH_63, wvH_63, wvH_62, wvH_67, wvH_68, wvH_69, sc_63, sc_n62, sc_n67, sc_n68, sc_n69, sc_n70, reduceIte, Nat.reduceEqDiff, eq_self, up_up, up_self, up_ne, ne_eq, not_false_eq_true, Int.reduceEq, Int.reduceNeg] at h9; first | (exfalso; omega) | skip) | skip) | exact C | exact h2 | exact h2 (by omega) | omega | exact True.intro | (simp only [rI_rI, rJ_rJ, hI_rI, hJ_rI, hI_rJ, hJ_rJ, hI_rR, hR_rI, hR_rJ, hN_rI, hN_rJ, svH_63, svH_66, rfH_63, wvH_63, wvH_62, wvH_67, wvH_68, wvH_69, sc_63, sc_n62, sc_n67, sc_n68, sc_n69, sc_n70, reduceIte, Nat.reduceEqDiff, eq_self, up_up, up_self, up_ne, ne_eq, not_false_eq_true, Int.reduceEq, Int.reduceNeg]; omega))
        · have e : (w 332).toNat = k := by omega
          have K := h2
          unfold dmW at K
          rw [e] at K
          repeat' (first | apply And.intro | (with_reducible assumption) | (intro h9; first | (exfalso; omega) | (simp only [rI_rI, rJ_rJ, hI_rI, hJ_rI, hI_rJ, hJ_rJ, hI_rR, hR_rI, hR_rJ, hN_rI, hN_rJ, svH_63, svH_66, rfH_63, wvH_63, wvH_62, wvH_67, wvH_68, wvH_69, sc_63, sc_n62, sc_n67, sc_n68, sc_n69, sc_n70, reduceIte, Nat.reduceEqDiff, eq_self, up_up, up_self, up_ne, ne_eq, not_false_eq_true, Int.reduceEq, Int.reduceNeg] at h9; first | (exfalso; omega) | skip) | skip) | exact K | exact h2 | exact h2 (by omega) | omega | exact True.intro | (simp only [rI_rI, rJ_rJ, hI_rI, hJ_rI, hI_rJ, hJ_rJ, hI_rR, hR_rI, hR_rJ, hN_rI, hN_rJ, svH_63, svH_66, rfH_63, wvH_63, wvH_62, wvH_67, wvH_68, wvH_69, sc_63, sc_n62, sc_n67, sc_n68, sc_n69, sc_n70, reduceIte, Nat.reduceEqDiff, eq_self, up_up, up_self, up_ne, ne_eq, not_false_eq_true, Int.reduceEq, Int.reduceNeg]; omega))
theorem m_X9_hashDemands : MM 177 s_X9_hashDemands := mm_of (own := 8) (by rfl) k_X9_hashDemands (cl := [(178, s_X9_mix)]) ⟨m_X9_mix, trivial⟩ o_X9_hashDemands

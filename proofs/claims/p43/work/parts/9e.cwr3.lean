/-! ===== the class: a description written ===== -/
theorem GH.td {h : Hp} {w : Int → Int} (g : GH h w) (P : List Int) (c : Int) : GH (wI h (tAd (tAs (hI h) P) c)) w := by
  have := g.ta (P ++ [c])
  rw [tAs_app] at this
  exact this
def dsP (w : Int → Int) (n K : Int) (i : Nat) : List Int := 40 :: (wdU K (wlen K).toNat ++ opsL (dsc w) w n i)
def DsQ (h : Hp) (w : Int → Int) (n t K : Int) (m : Nat) (vs : List AV) (g : Hp) : Prop := ∃ i : Nat, g = wI h (tAs (hI h) (dsP w n K i)) ∧ vs = [.inr (.inr (some 60)), .inl n, .inl K, .inl t, .inl (i : Int)] ∧ (i : Int) ≤ opc K ∧ 2 ≤ K ∧ m = (opc K - i).toNat
theorem dsP_s (w : Int → Int) (n K : Int) (i : Nat) (r : Rw) : tAs (tAd (tAs r (dsP w n K i)) 32) (dsc w (nd w n (2 + (i : Int)))) = tAs r (dsP w n K (i + 1)) := by
  have e : dsP w n K (i + 1) = dsP w n K i ++ (32 :: dsc w (nd w n (2 + (i : Int)))) := by
    show 40 :: (wdU K (wlen K).toNat ++ (opsL (dsc w) w n i ++ (32 :: dsc w (nd w n (2 + (i : Int)))))) = (40 :: (wdU K (wlen K).toNat ++ opsL (dsc w) w n i)) ++ _
    rw [← List.append_assoc]
    rfl
  rw [e, tAs_app]
  rfl
theorem DsQ.st {h : Hp} {w : Int → Int} {n t K : Int} {i : Nat} (hi : (i : Int) < opc K) (k2 : 2 ≤ K) {x : Int} (hx : x = nd w n (2 + (i : Int))) : ∃ k', k' < (opc K - i).toNat ∧ DsQ h w n t K k' [.inr (.inr (some 60)), .inl n, .inl K, .inl t, .inl ((i : Int) + 1)] (wI h (tAs (tAd (tAs (hI h) (dsP w n K i)) 32) (dsc w x))) := by
  subst hx
  exact ⟨(opc K - (i + 1 : Nat)).toNat, by omega, i + 1, by rw [dsP_s], rfl, by omega, k2, rfl⟩
theorem hbP (d : Nat) : Nat.blt (2 * d + 10) (2 * d + 11) = true := by
  show Nat.ble (2 * d + 10 + 1) (2 * d + 11) = true
  exact Nat.ble_eq_true_of_le (by omega)
theorem hbW (d : Nat) : Nat.blt (2 * d + 11) (2 * (d + 1) + 10) = true := by
  show Nat.ble (2 * d + 11 + 1) (2 * (d + 1) + 10) = true
  exact Nat.ble_eq_true_of_le (by omega)
def s_dP (d : Nat) : CS := (zc (2 * d + 10), ap [(3, 60), (0, 0), (0, 0)] (fun n t h Rt X =>
∃ w, GH h w ∧ WF w ∧ (0 ≤ n ∧ n < (d : Int) ∧ n < w 0 ∧ 0 ≤ t ∧ t + n ≤ 39) ∧ TL h ∧ Rt none (wI h (tAs (hI h) (dsc w n)))))
def s_dW (d : Nat) : CS := (zc (2 * d + 11), ap [(3, 60), (0, 0), (0, 0), (0, 0)] (fun n K t h Rt X =>
∃ w, GH h w ∧ WF w ∧ (0 ≤ n ∧ n < (d : Int) + 1 ∧ n < w 0 ∧ 0 ≤ t ∧ t + n ≤ 39) ∧ K = hI h 2 (n * 8 + 0) ∧ 2 ≤ K ∧ TL h ∧ Rt none (wI h (tAs (hI h) (dsc w n)))))
set_option maxRecDepth 100000 in
set_option maxHeartbeats 4000000 in
theorem o_dP (d : Nat) : Obl true 0 4 (sp [(5, s_X0_get), (126, s_X7_add), (134, s_X8_addNumber), (6, s_X0_width), (290, s_dW d)]) [] code_X8_describePart (s_dP (d + 1)) := by
  refine obl0 (by rfl) ?_
  intro n r_n t r_t h Rt X hh hf hs
  obtain ⟨w, hG, hW, ⟨n0, nd', n1, t1, t39⟩, hT, h5⟩ := hs
  have t0 : TLr (hI h) := hT
  have nn := hW.nn
  have gn := hG.n
  have hn := hW.node n0 n1
  obtain ⟨⟨w1, w2, w3, w4⟩, _, p1, p2c, p3, _⟩ := hn.o
  have vn := hW.vn
  have k0 := hG.k0 n0 n1
  have k1 := hG.k1 n0 n1
  have h6 := h5
  rw [dsc_eq hW n0 n1] at h5
  unfold dsB at h5
  rw [← k0] at h5 w1 w2 p1 p2c p3
  by_cases a : hI h 2 (n * 8 + 0) = 1
  · rw [if_pos a] at h5
    have ns := hG.ns n0 n1 (by rw [← k0]; omega)
    have q := p3 a
    rw [← ns.1] at h5 q
    have ql : numL (hI h 2 (n * 8 + 5)) = [48 + hI h 2 (n * 8 + 5)] := numL_d (by omega) (by omega)
    have h5 : Rt none (wI h (tAs (tAd (hI h) 118) (numL (hI h 2 (n * 8 + 5))))) := by rw [ql]; exact h5
    repeat' (first | apply And.intro | (with_reducible assumption) | (intro h9; first | (exfalso; omega) | (simp only [rI_rI, rJ_rJ, hI_rI, hJ_rI, hI_rJ, hJ_rJ, hI_rR, hR_rI, hR_rJ, hN_rI, hN_rJ, svH_63, svH_66, rfH_63, wvH_63, wvH_62, wvH_67, wvH_68, wvH_69, sc_63, sc_n62, sc_n67, sc_n68, sc_n69, sc_n70, reduceIte, Nat.reduceEqDiff, eq_self, up_up, up_self, up_ne, ne_eq, not_false_eq_true, Int.reduceEq, Int.reduceNeg, hI_wI, tAd_1, tAd_2, tAd_3, tAd_4, tAs_1, tAs_2, tAs_3, tAs_4] at h9; first | (exfalso; omega) | skip) | skip) | omega | exact (tAd_tl t0 _).1 | exact (tAd_tl t0 _).2 | (simp only [rI_rI, rJ_rJ, hI_rI, hJ_rI, hI_rJ, hJ_rJ, hI_rR, hR_rI, hR_rJ, hN_rI, hN_rJ, svH_63, svH_66, rfH_63, wvH_63, wvH_62, wvH_67, wvH_68, wvH_69, sc_63, sc_n62, sc_n67, sc_n68, sc_n69, sc_n70, reduceIte, Nat.reduceEqDiff, eq_self, up_up, up_self, up_ne, ne_eq, not_false_eq_true, Int.reduceEq, Int.reduceNeg, hI_wI, tAd_1, tAd_2, tAd_3, tAd_4, tAs_1, tAs_2, tAs_3, tAs_4]; exact h5) | exact h5 | exact h5 (by omega) | omega | exact True.intro | (simp only [rI_rI, rJ_rJ, hI_rI, hJ_rI, hI_rJ, hJ_rJ, hI_rR, hR_rI, hR_rJ, hN_rI, hN_rJ, svH_63, svH_66, rfH_63, wvH_63, wvH_62, wvH_67, wvH_68, wvH_69, sc_63, sc_n62, sc_n67, sc_n68, sc_n69, sc_n70, reduceIte, Nat.reduceEqDiff, eq_self, up_up, up_self, up_ne, ne_eq, not_false_eq_true, Int.reduceEq, Int.reduceNeg, hI_wI, tAd_1, tAd_2, tAd_3, tAd_4, tAs_1, tAs_2, tAs_3, tAs_4]; omega))
  · rw [if_neg a] at h5
    by_cases b : hI h 2 (n * 8 + 0) = 0
    · rw [if_pos b] at h5
      have ns := hG.ns n0 n1 (by rw [← k0]; omega)
      have q := p2c b
      have p8 := p2_le8 w4
      rw [← ns.1] at h5 q
      rw [← k1] at h5 w3 w4
      have ql : numL (hI h 2 (n * 8 + 1)) = [48 + hI h 2 (n * 8 + 1)] := numL_d (by omega) (by omega)
      have h5 : Rt none (wI h (tAs (tAd (tAs (hI h) (numL (hI h 2 (n * 8 + 5)))) 58) (numL (hI h 2 (n * 8 + 1))))) := by
        rw [ql]
        rw [tAs_app] at h5
        exact h5
      repeat' (first | apply And.intro | (with_reducible assumption) | (intro h9; first | (exfalso; omega) | (simp only [rI_rI, rJ_rJ, hI_rI, hJ_rI, hI_rJ, hJ_rJ, hI_rR, hR_rI, hR_rJ, hN_rI, hN_rJ, svH_63, svH_66, rfH_63, wvH_63, wvH_62, wvH_67, wvH_68, wvH_69, sc_63, sc_n62, sc_n67, sc_n68, sc_n69, sc_n70, reduceIte, Nat.reduceEqDiff, eq_self, up_up, up_self, up_ne, ne_eq, not_false_eq_true, Int.reduceEq, Int.reduceNeg, hI_wI, tAd_1, tAd_2, tAd_3, tAd_4, tAs_1, tAs_2, tAs_3, tAs_4] at h9; first | (exfalso; omega) | skip) | skip) | omega | exact (tAs_tl _ t0).1 | exact (tAs_tl _ t0).2 | exact (tAd_tl (tAs_tl _ t0) _).1 | exact (tAd_tl (tAs_tl _ t0) _).2 | (simp only [rI_rI, rJ_rJ, hI_rI, hJ_rI, hI_rJ, hJ_rJ, hI_rR, hR_rI, hR_rJ, hN_rI, hN_rJ, svH_63, svH_66, rfH_63, wvH_63, wvH_62, wvH_67, wvH_68, wvH_69, sc_63, sc_n62, sc_n67, sc_n68, sc_n69, sc_n70, reduceIte, Nat.reduceEqDiff, eq_self, up_up, up_self, up_ne, ne_eq, not_false_eq_true, Int.reduceEq, Int.reduceNeg, hI_wI, tAd_1, tAd_2, tAd_3, tAd_4, tAs_1, tAs_2, tAs_3, tAs_4]; first | exact (tAd_tl (tAs_tl _ t0) _).1 | exact (tAd_tl (tAs_tl _ t0) _).2 | exact h5) | exact h5 | exact h5 (by omega) | omega | exact True.intro | (simp only [rI_rI, rJ_rJ, hI_rI, hJ_rI, hI_rJ, hJ_rJ, hI_rR, hR_rI, hR_rJ, hN_rI, hN_rJ, svH_63, svH_66, rfH_63, wvH_63, wvH_62, wvH_67, wvH_68, wvH_69, sc_63, sc_n62, sc_n67, sc_n68, sc_n69, sc_n70, reduceIte, Nat.reduceEqDiff, eq_self, up_up, up_self, up_ne, ne_eq, not_false_eq_true, Int.reduceEq, Int.reduceNeg, hI_wI, tAd_1, tAd_2, tAd_3, tAd_4, tAs_1, tAs_2, tAs_3, tAs_4]; omega))
    · repeat' (first | (refine ob_i (hbW d) ?_) | apply And.intro | (with_reducible assumption) | (intro h9; first | (exfalso; omega) | (simp only [rI_rI, rJ_rJ, hI_rI, hJ_rI, hI_rJ, hJ_rJ, hI_rR, hR_rI, hR_rJ, hN_rI, hN_rJ, svH_63, svH_66, rfH_63, wvH_63, wvH_62, wvH_67, wvH_68, wvH_69, sc_63, sc_n62, sc_n67, sc_n68, sc_n69, sc_n70, reduceIte, Nat.reduceEqDiff, eq_self, up_up, up_self, up_ne, ne_eq, not_false_eq_true, Int.reduceEq, Int.reduceNeg, hI_wI, tAd_1, tAd_2, tAd_3, tAd_4, tAs_1, tAs_2, tAs_3, tAs_4] at h9; first | (exfalso; omega) | skip) | skip) | omega | refine Exists.intro w ?_ | exact hG | exact hW | exact hT | exact h6 | rfl | exact h5 | exact h5 (by omega) | omega | exact True.intro | (simp only [rI_rI, rJ_rJ, hI_rI, hJ_rI, hI_rJ, hJ_rJ, hI_rR, hR_rI, hR_rJ, hN_rI, hN_rJ, svH_63, svH_66, rfH_63, wvH_63, wvH_62, wvH_67, wvH_68, wvH_69, sc_63, sc_n62, sc_n67, sc_n68, sc_n69, sc_n70, reduceIte, Nat.reduceEqDiff, eq_self, up_up, up_self, up_ne, ne_eq, not_false_eq_true, Int.reduceEq, Int.reduceNeg, hI_wI, tAd_1, tAd_2, tAd_3, tAd_4, tAs_1, tAs_2, tAs_3, tAs_4]; omega))
set_option maxRecDepth 100000 in
set_option maxHeartbeats 4000000 in
theorem o_dW (d : Nat) : Obl true 0 5 (sp [(126, s_X7_add), (132, s_X8_addWord), (38, s_X2_operandCount), (5, s_X0_get), (289, s_dP d), (133, s_X8_addDigits)]) [] code_X8_describeWithOperands (s_dW d) := by
  refine oblL (by rfl) [(17, [0, 1, 2, 3, 4])] ?_
  intro n r_n K r_K t r_t h Rt X hh hf hs
  obtain ⟨w, hG, hW, ⟨n0, nd', n1, t1, t39⟩, kk, k2, hT, h5⟩ := hs
  have t0 : TLr (hI h) := hT
  have nn := hW.nn
  have gn := hG.n
  have hn := hW.node n0 n1
  obtain ⟨⟨w1, w2, w3, w4⟩, _, p1, p2c, p3, _⟩ := hn.o
  have vn := hW.vn
  have k0 := hG.k0 n0 n1
  rw [dsc_eq hW n0 n1] at h5
  unfold dsB at h5
  rw [← k0] at h5 w1 w2 p1 p2c p3
  rw [← kk] at h5 k0 w1 w2 p1 p2c p3
  have oc := opc_rng K
  rw [if_neg (by omega), if_neg (by omega)] at h5
  refine ⟨fun m _ vs g => DsQ h w n t K m vs g, ?_, ?_⟩
  · have C : ∃ k', DsQ h w n t K k' [.inr (.inr (some 60)), .inl n, .inl K, .inl t, .inl 0] (wI h (tAs (tAd (hI h) 40) (wdU K (wlen K).toNat))) := ⟨(opc K - 0).toNat, 0, by
        show _ = wI h (tAs (tAd (hI h) 40) (wdU K (wlen K).toNat ++ []))
        rw [List.append_nil], rfl, by show (0 : Int) ≤ _; omega, by omega, rfl⟩
    repeat' (first | apply And.intro | (with_reducible assumption) | (intro h9; first | (exfalso; omega) | (simp only [rI_rI, rJ_rJ, hI_rI, hJ_rI, hI_rJ, hJ_rJ, hI_rR, hR_rI, hR_rJ, hN_rI, hN_rJ, svH_63, svH_66, rfH_63, wvH_63, wvH_62, wvH_67, wvH_68, wvH_69, sc_63, sc_n62, sc_n67, sc_n68, sc_n69, sc_n70, reduceIte, Nat.reduceEqDiff, eq_self, up_up, up_self, up_ne, ne_eq, not_false_eq_true, Int.reduceEq, Int.reduceNeg, hI_wI, tAd_1, tAd_2, tAd_3, tAd_4, tAs_1, tAs_2, tAs_3, tAs_4] at h9; first | (exfalso; omega) | skip) | skip) | omega | exact (tAd_tl t0 _).1 | exact (tAd_tl t0 _).2 | exact C | (simp only [rI_rI, rJ_rJ, hI_rI, hJ_rI, hI_rJ, hJ_rJ, hI_rR, hR_rI, hR_rJ, hN_rI, hN_rJ, svH_63, svH_66, rfH_63, wvH_63, wvH_62, wvH_67, wvH_68, wvH_69, sc_63, sc_n62, sc_n67, sc_n68, sc_n69, sc_n70, reduceIte, Nat.reduceEqDiff, eq_self, up_up, up_self, up_ne, ne_eq, not_false_eq_true, Int.reduceEq, Int.reduceNeg, hI_wI, tAd_1, tAd_2, tAd_3, tAd_4, tAs_1, tAs_2, tAs_3, tAs_4]; exact C) | exact h5 | exact h5 (by omega) | omega | exact True.intro | (simp only [rI_rI, rJ_rJ, hI_rI, hJ_rI, hI_rJ, hJ_rJ, hI_rR, hR_rI, hR_rJ, hN_rI, hN_rJ, svH_63, svH_66, rfH_63, wvH_63, wvH_62, wvH_67, wvH_68, wvH_69, sc_63, sc_n62, sc_n67, sc_n68, sc_n69, sc_n70, reduceIte, Nat.reduceEqDiff, eq_self, up_up, up_self, up_ne, ne_eq, not_false_eq_true, Int.reduceEq, Int.reduceNeg, hI_wI, tAd_1, tAd_2, tAd_3, tAd_4, tAs_1, tAs_2, tAs_3, tAs_4]; omega))
  · rintro m pc vs' vs g hl ⟨i, rfl, rfl, i1, _, rfl⟩ hv hh1 hf1
    obtain ⟨rfl, rfl⟩ := look1 hl
    have tt := tAs_tl (dsP w n K i) t0
    by_cases y : (i : Int) < opc K
    · have e := hG.op n0 n1 (i := i) (by omega)
      have o := op_lt hn (i := i) (by rw [← k0]; omega)
      rw [← e] at o
      have G1 := hG.td (dsP w n K i) 32
      have Y := DsQ.st (h := h) (w := w) (t := t) y k2 e
      repeat' (first | (refine ob_i (hbP d) ?_) | apply And.intro | (with_reducible assumption) | (intro h9; first | (exfalso; omega) | (simp only [rI_rI, rJ_rJ, hI_rI, hJ_rI, hI_rJ, hJ_rJ, hI_rR, hR_rI, hR_rJ, hN_rI, hN_rJ, svH_63, svH_66, rfH_63, wvH_63, wvH_62, wvH_67, wvH_68, wvH_69, sc_63, sc_n62, sc_n67, sc_n68, sc_n69, sc_n70, reduceIte, Nat.reduceEqDiff, eq_self, up_up, up_self, up_ne, ne_eq, not_false_eq_true, Int.reduceEq, Int.reduceNeg, hI_wI, tAd_1, tAd_2, tAd_3, tAd_4, tAs_1, tAs_2, tAs_3, tAs_4] at h9; first | (exfalso; omega) | skip) | skip) | omega | refine Exists.intro w ?_ | exact G1 | exact hW | exact tt.1 | exact tt.2 | exact (tAd_tl tt _).1 | exact (tAd_tl tt _).2 | (simp only [rI_rI, rJ_rJ, hI_rI, hJ_rI, hI_rJ, hJ_rJ, hI_rR, hR_rI, hR_rJ, hN_rI, hN_rJ, svH_63, svH_66, rfH_63, wvH_63, wvH_62, wvH_67, wvH_68, wvH_69, sc_63, sc_n62, sc_n67, sc_n68, sc_n69, sc_n70, reduceIte, Nat.reduceEqDiff, eq_self, up_up, up_self, up_ne, ne_eq, not_false_eq_true, Int.reduceEq, Int.reduceNeg, hI_wI, tAd_1, tAd_2, tAd_3, tAd_4, tAs_1, tAs_2, tAs_3, tAs_4]; exact Y) | exact h5 | exact h5 (by omega) | omega | exact True.intro | (simp only [rI_rI, rJ_rJ, hI_rI, hJ_rI, hI_rJ, hJ_rJ, hI_rR, hR_rI, hR_rJ, hN_rI, hN_rJ, svH_63, svH_66, rfH_63, wvH_63, wvH_62, wvH_67, wvH_68, wvH_69, sc_63, sc_n62, sc_n67, sc_n68, sc_n69, sc_n70, reduceIte, Nat.reduceEqDiff, eq_self, up_up, up_self, up_ne, ne_eq, not_false_eq_true, Int.reduceEq, Int.reduceNeg, hI_wI, tAd_1, tAd_2, tAd_3, tAd_4, tAs_1, tAs_2, tAs_3, tAs_4]; omega))
    · have ie : (opc K).toNat = i := by omega
      rw [ie] at h5
      have G1 := hG.ta (dsP w n K i)
      have h6 : Rt none (wI h (tAd (tAs (tAs (hI h) (dsP w n K i)) (digL w n)) 41)) := by
        have e : (40 :: (wdU K (wlen K).toNat ++ (opsL (dsc w) w n i ++ (digL w n ++ [41])))) = dsP w n K i ++ (digL w n ++ [41]) := by
          unfold dsP
          simp [List.append_assoc]
        rw [e, tAs_app, tAs_app] at h5
        exact h5
      repeat' (first | apply And.intro | (with_reducible assumption) | (intro h9; first | (exfalso; omega) | (simp only [rI_rI, rJ_rJ, hI_rI, hJ_rI, hI_rJ, hJ_rJ, hI_rR, hR_rI, hR_rJ, hN_rI, hN_rJ, svH_63, svH_66, rfH_63, wvH_63, wvH_62, wvH_67, wvH_68, wvH_69, sc_63, sc_n62, sc_n67, sc_n68, sc_n69, sc_n70, reduceIte, Nat.reduceEqDiff, eq_self, up_up, up_self, up_ne, ne_eq, not_false_eq_true, Int.reduceEq, Int.reduceNeg, hI_wI, tAd_1, tAd_2, tAd_3, tAd_4, tAs_1, tAs_2, tAs_3, tAs_4] at h9; first | (exfalso; omega) | skip) | skip) | omega | refine Exists.intro w ?_ | exact G1 | exact hW | exact kk | exact tt.1 | exact tt.2 | exact (tAs_tl _ tt).1 | exact (tAs_tl _ tt).2 | exact h6 | (simp only [rI_rI, rJ_rJ, hI_rI, hJ_rI, hI_rJ, hJ_rJ, hI_rR, hR_rI, hR_rJ, hN_rI, hN_rJ, svH_63, svH_66, rfH_63, wvH_63, wvH_62, wvH_67, wvH_68, wvH_69, sc_63, sc_n62, sc_n67, sc_n68, sc_n69, sc_n70, reduceIte, Nat.reduceEqDiff, eq_self, up_up, up_self, up_ne, ne_eq, not_false_eq_true, Int.reduceEq, Int.reduceNeg, hI_wI, tAd_1, tAd_2, tAd_3, tAd_4, tAs_1, tAs_2, tAs_3, tAs_4]; exact h6) | exact h5 | exact h5 (by omega) | omega | exact True.intro | (simp only [rI_rI, rJ_rJ, hI_rI, hJ_rI, hI_rJ, hJ_rJ, hI_rR, hR_rI, hR_rJ, hN_rI, hN_rJ, svH_63, svH_66, rfH_63, wvH_63, wvH_62, wvH_67, wvH_68, wvH_69, sc_63, sc_n62, sc_n67, sc_n68, sc_n69, sc_n70, reduceIte, Nat.reduceEqDiff, eq_self, up_up, up_self, up_ne, ne_eq, not_false_eq_true, Int.reduceEq, Int.reduceNeg, hI_wI, tAd_1, tAd_2, tAd_3, tAd_4, tAs_1, tAs_2, tAs_3, tAs_4]; omega))
theorem m_dW {d : Nat} (M : MM 289 (s_dP d)) : MM 290 (s_dW d) := mm_of (own := 7) (by rfl) k_X8_describeWithOperands (cl := [(126, s_X7_add), (132, s_X8_addWord), (38, s_X2_operandCount), (5, s_X0_get), (289, s_dP d), (133, s_X8_addDigits)]) ⟨m_X7_add, m_X8_addWord, m_X2_operandCount, m_X0_get, M, m_X8_addDigits, trivial⟩ (o_dW d)
theorem o_dP0 : Obl true 0 4 (sp []) [] code_X8_describePart (s_dP 0) := by
  intro as h Rt X hv hh hf ha
  have A : AllA [(3, 60), (0, 0), (0, 0)] (fun n t h Rt X => ∃ w, GH h w ∧ WF w ∧ (0 ≤ n ∧ n < ((0 : Nat) : Int) ∧ n < w 0 ∧ 0 ≤ t ∧ t + n ≤ 39) ∧ TL h ∧ Rt none (wI h (tAs (hI h) (dsc w n)))) (fun _ g => ∀ (h : Hp) (Rt : Option AV → Hp → Prop) (X : Nat → Hp → Prop), g h Rt X → False) := by
    rintro n _ t _ h Rt X ⟨w, _, _, ⟨a, b, _⟩, _⟩
    have b : n < 0 := b
    omega
  obtain ⟨_, g, h1, h2⟩ := allA_el A hv ha
  exact (h1 h Rt X h2).elim
theorem m_dP : ∀ d : Nat, MM 289 (s_dP d) := by
  intro d
  induction d with
  | zero => exact mm_of (own := 7) (by rfl) k_X8_describePart (cl := []) trivial o_dP0
  | succ d ih => exact mm_of (own := 7) (by rfl) k_X8_describePart (cl := [(5, s_X0_get), (126, s_X7_add), (134, s_X8_addNumber), (6, s_X0_width), (290, s_dW d)]) ⟨m_X0_get, m_X7_add, m_X8_addNumber, m_X0_width, (m_dW ih), trivial⟩ (o_dP d)
def s_X8_describePart : CS := s_dP 40
theorem m_X8_describePart : MM 289 s_X8_describePart := m_dP 40
def s_X8_describe : CS := (zc 91, ap [(3, 60), (0, 0)] (fun n h Rt X =>
∃ w, GH h w ∧ WF w ∧ (0 ≤ n ∧ n < w 0 ∧ n < 40) ∧ TL h ∧ Rt none (wI h (tAs (hI h) (dsc w n)))))
set_option maxRecDepth 100000 in
set_option maxHeartbeats 4000000 in
theorem o_X8_describe : Obl true 0 2 (sp [(289, s_X8_describePart)]) [] code_X8_describe s_X8_describe := by
  refine obl0 (by rfl) ?_
  intro n r_n h Rt X hh hf hs
  obtain ⟨w, hG, hW, ⟨n0, n1, n2⟩, hT, h5⟩ := hs
  repeat' (first | apply And.intro | (with_reducible assumption) | (intro h9; first | (exfalso; omega) | (simp only [rI_rI, rJ_rJ, hI_rI, hJ_rI, hI_rJ, hJ_rJ, hI_rR, hR_rI, hR_rJ, hN_rI, hN_rJ, svH_63, svH_66, rfH_63, wvH_63, wvH_62, wvH_67, wvH_68, wvH_69, sc_63, sc_n62, sc_n67, sc_n68, sc_n69, sc_n70, reduceIte, Nat.reduceEqDiff, eq_self, up_up, up_self, up_ne, ne_eq, not_false_eq_true, Int.reduceEq, Int.reduceNeg, hI_wI, tAd_1, tAd_2, tAd_3, tAd_4, tAs_1, tAs_2, tAs_3, tAs_4] at h9; first | (exfalso; omega) | skip) | skip) | omega | refine Exists.intro w ?_ | exact hG | exact hW | exact hT | exact h5 | exact h5 (by omega) | omega | exact True.intro | (simp only [rI_rI, rJ_rJ, hI_rI, hJ_rI, hI_rJ, hJ_rJ, hI_rR, hR_rI, hR_rJ, hN_rI, hN_rJ, svH_63, svH_66, rfH_63, wvH_63, wvH_62, wvH_67, wvH_68, wvH_69, sc_63, sc_n62, sc_n67, sc_n68, sc_n69, sc_n70, reduceIte, Nat.reduceEqDiff, eq_self, up_up, up_self, up_ne, ne_eq, not_false_eq_true, Int.reduceEq, Int.reduceNeg, hI_wI, tAd_1, tAd_2, tAd_3, tAd_4, tAs_1, tAs_2, tAs_3, tAs_4]; omega))
theorem m_X8_describe : MM 131 s_X8_describe := mm_of (own := 7) (by rfl) k_X8_describe (cl := [(289, s_X8_describePart)]) ⟨m_X8_describePart, trivial⟩ o_X8_describe

/-! ===== the class: lengths of descriptions ===== -/
theorem GH.op {h : Hp} {w : Int → Int} (hG : GH h w) {n : Int} (h0 : 0 ≤ n) (h1 : n < w 0) {i : Nat} (hi : i < 3) : hI h 2 (n * 8 + (2 + (i : Int))) = nd w n (2 + (i : Int)) := by
  have : i = 0 ∨ i = 1 ∨ i = 2 := by omega
  rcases this with rfl | rfl | rfl
  · exact hG.k2 h0 h1
  · exact hG.k3 h0 h1
  · exact hG.k4 h0 h1
def LbQ (h : Hp) (w : Int → Int) (n : Int) (m : Nat) (vs : List AV) (g : Hp) : Prop := g = h ∧ 2 ≤ hI h 2 (n * 8 + 0) ∧ ∃ i : Nat, vs = [.inr (.inr (some 60)), .inl n, .inl (hI h 2 (n * 8 + 0)), .inl (2 + wlen (hI h 2 (n * 8 + 0)) + 2 * dgc (hI h 2 (n * 8 + 0)) + lnS (hI h 61) w n i), .inl (i : Int)] ∧ (i : Int) ≤ opc (hI h 2 (n * 8 + 0)) ∧ m = (opc (hI h 2 (n * 8 + 0)) - i).toNat
theorem LbQ.st {h : Hp} {w : Int → Int} {n : Int} {i : Nat} (k2 : 2 ≤ hI h 2 (n * 8 + 0)) (hi : (i : Int) < opc (hI h 2 (n * 8 + 0))) {x : Int} (hx : x = nd w n (2 + (i : Int))) : ∃ k', k' < (opc (hI h 2 (n * 8 + 0)) - i).toNat ∧ LbQ h w n k' [.inr (.inr (some 60)), .inl n, .inl (hI h 2 (n * 8 + 0)), .inl (2 + wlen (hI h 2 (n * 8 + 0)) + 2 * dgc (hI h 2 (n * 8 + 0)) + lnS (hI h 61) w n i + (1 + hI h 61 x)), .inl ((i : Int) + 1)] h := by
  subst hx
  refine ⟨(opc (hI h 2 (n * 8 + 0)) - (i + 1 : Nat)).toNat, by omega, rfl, k2, i + 1, ?_, by omega, rfl⟩
  have e : lnS (hI h 61) w n (i + 1) = lnS (hI h 61) w n i + (1 + hI h 61 (nd w n (2 + (i : Int)))) := rfl
  rw [e, ← Int.add_assoc (2 + wlen (hI h 2 (n * 8 + 0)) + 2 * dgc (hI h 2 (n * 8 + 0)))]
  rfl
def s_X8_lengthByOperands : CS := (zc 9, ap [(3, 60), (0, 0)] (fun n h Rt X =>
∃ w, GH h w ∧ WF w ∧ (0 ≤ n ∧ n < w 0) ∧ Box (∀ m, 0 ≤ m → m < n → hI h 61 m = lenC w m) ∧ Rt (some (.inl (lbo (hI h 61) w n))) h))
set_option maxRecDepth 100000 in
set_option maxHeartbeats 4000000 in
theorem o_X8_lengthByOperands : Obl true 1 5 (sp [(5, s_X0_get), (40, s_X2_wordLength), (39, s_X2_digitCount), (38, s_X2_operandCount)]) [] code_X8_lengthByOperands s_X8_lengthByOperands := by
  refine oblL (by rfl) [(72, [0, 1, 2, 3, 4])] ?_
  intro n r_n h Rt X hh hf hs
  obtain ⟨w, hG, hW, ⟨n0, n1⟩, hL, h5⟩ := hs
  have nn := hW.nn
  have gn := hG.n
  have hn := hW.node n0 n1
  obtain ⟨⟨w1, w2, w3, w4⟩, _, p1, p2c, _⟩ := hn.o
  have k0 := hG.k0 n0 n1
  have k1 := hG.k1 n0 n1
  unfold lbo at h5
  rw [← k0] at h5 w1 w2 p1 p2c
  have dr := dgc_rng (hI h 2 (n * 8 + 0))
  have oc := opc_rng (hI h 2 (n * 8 + 0))
  have ln : ∀ i : Nat, (i : Int) ≤ opc (hI h 2 (n * 8 + 0)) → 0 ≤ lnS (hI h 61) w n i ∧ lnS (hI h 61) w n i ≤ 122 * i := fun i hi => by
    have := opsL_len (f := hI h 61) (w := w) (n := n) i fun j hj => by
      have := op_lt hn (i := j) (by rw [← k0]; omega)
      exact hL.o _ this.1 this.2
    exact ⟨this.1, this.2.1⟩
  refine ⟨fun m _ vs g => LbQ h w n m vs g, ?_, ?_⟩
  · by_cases a : hI h 2 (n * 8 + 0) = 1
    · rw [if_pos a] at h5
      repeat' (first | apply And.intro | (with_reducible assumption) | (intro h9; first | (exfalso; omega) | (simp only [rI_rI, rJ_rJ, hI_rI, hJ_rI, hI_rJ, hJ_rJ, hI_rR, hR_rI, hR_rJ, hN_rI, hN_rJ, svH_63, svH_66, rfH_63, wvH_63, wvH_62, wvH_67, wvH_68, wvH_69, sc_63, sc_n62, sc_n67, sc_n68, sc_n69, sc_n70, reduceIte, Nat.reduceEqDiff, eq_self, up_up, up_self, up_ne, ne_eq, not_false_eq_true, Int.reduceEq, Int.reduceNeg] at h9; first | (exfalso; omega) | skip) | skip) | exact h5 | exact h5 | exact h5 (by omega) | omega | exact True.intro | (simp only [rI_rI, rJ_rJ, hI_rI, hJ_rI, hI_rJ, hJ_rJ, hI_rR, hR_rI, hR_rJ, hN_rI, hN_rJ, svH_63, svH_66, rfH_63, wvH_63, wvH_62, wvH_67, wvH_68, wvH_69, sc_63, sc_n62, sc_n67, sc_n68, sc_n69, sc_n70, reduceIte, Nat.reduceEqDiff, eq_self, up_up, up_self, up_ne, ne_eq, not_false_eq_true, Int.reduceEq, Int.reduceNeg]; omega))
    · rw [if_neg a] at h5
      by_cases b : hI h 2 (n * 8 + 0) = 0
      · rw [if_pos b] at h5
        have ns := hG.ns n0 n1 (by rw [← k0]; omega)
        rw [← ns.1] at h5 p2c
        by_cases c : 100 ≤ hI h 2 (n * 8 + 5)
        · rw [if_pos c] at h5
          repeat' (first | apply And.intro | (with_reducible assumption) | (intro h9; first | (exfalso; omega) | (simp only [rI_rI, rJ_rJ, hI_rI, hJ_rI, hI_rJ, hJ_rJ, hI_rR, hR_rI, hR_rJ, hN_rI, hN_rJ, svH_63, svH_66, rfH_63, wvH_63, wvH_62, wvH_67, wvH_68, wvH_69, sc_63, sc_n62, sc_n67, sc_n68, sc_n69, sc_n70, reduceIte, Nat.reduceEqDiff, eq_self, up_up, up_self, up_ne, ne_eq, not_false_eq_true, Int.reduceEq, Int.reduceNeg] at h9; first | (exfalso; omega) | skip) | skip) | exact h5 | exact h5 | exact h5 (by omega) | omega | exact True.intro | (simp only [rI_rI, rJ_rJ, hI_rI, hJ_rI, hI_rJ, hJ_rJ, hI_rR, hR_rI, hR_rJ, hN_rI, hN_rJ, svH_63, svH_66, rfH_63, wvH_63, wvH_62, wvH_67, wvH_68, wvH_69, sc_63, sc_n62, sc_n67, sc_n68, sc_n69, sc_n70, reduceIte, Nat.reduceEqDiff, eq_self, up_up, up_self, up_ne, ne_eq, not_false_eq_true, Int.reduceEq, Int.reduceNeg]; omega))
        · rw [if_neg c] at h5
          by_cases d : 10 ≤ hI h 2 (n * 8 + 5)
          · rw [if_pos d] at h5
            repeat' (first | apply And.intro | (with_reducible assumption) | (intro h9; first | (exfalso; omega) | (simp only [rI_rI, rJ_rJ, hI_rI, hJ_rI, hI_rJ, hJ_rJ, hI_rR, hR_rI, hR_rJ, hN_rI, hN_rJ, svH_63, svH_66, rfH_63, wvH_63, wvH_62, wvH_67, wvH_68, wvH_69, sc_63, sc_n62, sc_n67, sc_n68, sc_n69, sc_n70, reduceIte, Nat.reduceEqDiff, eq_self, up_up, up_self, up_ne, ne_eq, not_false_eq_true, Int.reduceEq, Int.reduceNeg] at h9; first | (exfalso; omega) | skip) | skip) | exact h5 | exact h5 | exact h5 (by omega) | omega | exact True.intro | (simp only [rI_rI, rJ_rJ, hI_rI, hJ_rI, hI_rJ, hJ_rJ, hI_rR, hR_rI, hR_rJ, hN_rI, hN_rJ, svH_63, svH_66, rfH_63, wvH_63, wvH_62, wvH_67, wvH_68, wvH_69, sc_63, sc_n62, sc_n67, sc_n68, sc_n69, sc_n70, reduceIte, Nat.reduceEqDiff, eq_self, up_up, up_self, up_ne, ne_eq, not_false_eq_true, Int.reduceEq, Int.reduceNeg]; omega))
          · rw [if_neg d] at h5
            repeat' (first | apply And.intro | (with_reducible assumption) | (intro h9; first | (exfalso; omega) | (simp only [rI_rI, rJ_rJ, hI_rI, hJ_rI, hI_rJ, hJ_rJ, hI_rR, hR_rI, hR_rJ, hN_rI, hN_rJ, svH_63, svH_66, rfH_63, wvH_63, wvH_62, wvH_67, wvH_68, wvH_69, sc_63, sc_n62, sc_n67, sc_n68, sc_n69, sc_n70, reduceIte, Nat.reduceEqDiff, eq_self, up_up, up_self, up_ne, ne_eq, not_false_eq_true, Int.reduceEq, Int.reduceNeg] at h9; first | (exfalso; omega) | skip) | skip) | exact h5 | exact h5 | exact h5 (by omega) | omega | exact True.intro | (simp only [rI_rI, rJ_rJ, hI_rI, hJ_rI, hI_rJ, hJ_rJ, hI_rR, hR_rI, hR_rJ, hN_rI, hN_rJ, svH_63, svH_66, rfH_63, wvH_63, wvH_62, wvH_67, wvH_68, wvH_69, sc_63, sc_n62, sc_n67, sc_n68, sc_n69, sc_n70, reduceIte, Nat.reduceEqDiff, eq_self, up_up, up_self, up_ne, ne_eq, not_false_eq_true, Int.reduceEq, Int.reduceNeg]; omega))
      · have wr := wlen_rng (k := hI h 2 (n * 8 + 0)) (by omega) w2
        have we : whl (fun i => decide (wl (hI h 2 (n * 8 + 0)) i ≠ 32)) 5 0 = wlen (hI h 2 (n * 8 + 0)) := rfl
        have C : ∃ k', LbQ h w n k' [.inr (.inr (some 60)), .inl n, .inl (hI h 2 (n * 8 + 0)), .inl (2 + wlen (hI h 2 (n * 8 + 0)) + 2 * dgc (hI h 2 (n * 8 + 0))), .inl 0] h := ⟨(opc (hI h 2 (n * 8 + 0)) - 0).toNat, rfl, by omega, 0, by
          have e : 2 + wlen (hI h 2 (n * 8 + 0)) + 2 * dgc (hI h 2 (n * 8 + 0)) + lnS (hI h 61) w n 0 = 2 + wlen (hI h 2 (n * 8 + 0)) + 2 * dgc (hI h 2 (n * 8 + 0)) := by
            have e : lnS (hI h 61) w n 0 = 0 := rfl
            rw [e]
            omega
          rw [e]
          rfl, by show (0 : Int) ≤ _; omega, rfl⟩
        repeat' (first | apply And.intro | (with_reducible assumption) | (intro h9; first | (exfalso; omega) | (simp only [rI_rI, rJ_rJ, hI_rI, hJ_rI, hI_rJ, hJ_rJ, hI_rR, hR_rI, hR_rJ, hN_rI, hN_rJ, svH_63, svH_66, rfH_63, wvH_63, wvH_62, wvH_67, wvH_68, wvH_69, sc_63, sc_n62, sc_n67, sc_n68, sc_n69, sc_n70, reduceIte, Nat.reduceEqDiff, eq_self, up_up, up_self, up_ne, ne_eq, not_false_eq_true, Int.reduceEq, Int.reduceNeg] at h9; first | (exfalso; omega) | skip) | skip) | omega | exact C | exact h5 | exact h5 (by omega) | omega | exact True.intro | (simp only [rI_rI, rJ_rJ, hI_rI, hJ_rI, hI_rJ, hJ_rJ, hI_rR, hR_rI, hR_rJ, hN_rI, hN_rJ, svH_63, svH_66, rfH_63, wvH_63, wvH_62, wvH_67, wvH_68, wvH_69, sc_63, sc_n62, sc_n67, sc_n68, sc_n69, sc_n70, reduceIte, Nat.reduceEqDiff, eq_self, up_up, up_self, up_ne, ne_eq, not_false_eq_true, Int.reduceEq, Int.reduceNeg]; omega))
  · rintro m pc vs' vs g hl ⟨rfl, kk, i, rfl, i1, rfl⟩ hv hh1 hf1
    obtain ⟨rfl, rfl⟩ := look1 hl
    have li := ln i i1
    have wr := wlen_rng (k := hI g 2 (n * 8 + 0)) (by omega) w2
    rw [if_neg (by omega), if_neg (by omega)] at h5
    by_cases y : (i : Int) < opc (hI g 2 (n * 8 + 0))
    · have e := hG.op n0 n1 (i := i) (by omega)
      have o := op_lt hn (i := i) (by rw [← k0]; omega)
      have lc := lenC_rng w (nd w n (2 + (i : Int)))
      have lf := hL.o _ o.1 o.2
      rw [← e] at o lf lc
      have Y := LbQ.st (w := w) kk y e
      repeat' (first | apply And.intro | (with_reducible assumption) | (intro h9; first | (exfalso; omega) | (simp only [rI_rI, rJ_rJ, hI_rI, hJ_rI, hI_rJ, hJ_rJ, hI_rR, hR_rI, hR_rJ, hN_rI, hN_rJ, svH_63, svH_66, rfH_63, wvH_63, wvH_62, wvH_67, wvH_68, wvH_69, sc_63, sc_n62, sc_n67, sc_n68, sc_n69, sc_n70, reduceIte, Nat.reduceEqDiff, eq_self, up_up, up_self, up_ne, ne_eq, not_false_eq_true, Int.reduceEq, Int.reduceNeg] at h9; first | (exfalso; omega) | skip) | skip) | omega | exact Y | exact h5 | exact h5 (by omega) | omega | exact True.intro | (simp only [rI_rI, rJ_rJ, hI_rI, hJ_rI, hI_rJ, hJ_rJ, hI_rR, hR_rI, hR_rJ, hN_rI, hN_rJ, svH_63, svH_66, rfH_63, wvH_63, wvH_62, wvH_67, wvH_68, wvH_69, sc_63, sc_n62, sc_n67, sc_n68, sc_n69, sc_n70, reduceIte, Nat.reduceEqDiff, eq_self, up_up, up_self, up_ne, ne_eq, not_false_eq_true, Int.reduceEq, Int.reduceNeg]; omega))
    · have ie : (opc (hI g 2 (n * 8 + 0))).toNat = i := by omega
      rw [ie] at h5
      repeat' (first | apply And.intro | (with_reducible assumption) | (intro h9; first | (exfalso; omega) | (simp only [rI_rI, rJ_rJ, hI_rI, hJ_rI, hI_rJ, hJ_rJ, hI_rR, hR_rI, hR_rJ, hN_rI, hN_rJ, svH_63, svH_66, rfH_63, wvH_63, wvH_62, wvH_67, wvH_68, wvH_69, sc_63, sc_n62, sc_n67, sc_n68, sc_n69, sc_n70, reduceIte, Nat.reduceEqDiff, eq_self, up_up, up_self, up_ne, ne_eq, not_false_eq_true, Int.reduceEq, Int.reduceNeg] at h9; first | (exfalso; omega) | skip) | skip) | omega | exact h5 | exact h5 | exact h5 (by omega) | omega | exact True.intro | (simp only [rI_rI, rJ_rJ, hI_rI, hJ_rI, hI_rJ, hJ_rJ, hI_rR, hR_rI, hR_rJ, hN_rI, hN_rJ, svH_63, svH_66, rfH_63, wvH_63, wvH_62, wvH_67, wvH_68, wvH_69, sc_63, sc_n62, sc_n67, sc_n68, sc_n69, sc_n70, reduceIte, Nat.reduceEqDiff, eq_self, up_up, up_self, up_ne, ne_eq, not_false_eq_true, Int.reduceEq, Int.reduceNeg]; omega))
theorem m_X8_lengthByOperands : MM 130 s_X8_lengthByOperands := mm_of (own := 7) (by rfl) k_X8_lengthByOperands (cl := [(5, s_X0_get), (40, s_X2_wordLength), (39, s_X2_digitCount), (38, s_X2_operandCount)]) ⟨m_X0_get, m_X2_wordLength, m_X2_digitCount, m_X2_operandCount, trivial⟩ o_X8_lengthByOperands
def LoQ (h : Hp) (w : Int → Int) (n : Int) (m : Nat) (vs : List AV) (g : Hp) : Prop := ∃ (i : Nat) (f : Int → Int), g = rI h 61 f ∧ vs = [.inr (.inr (some 60)), .inl n, .inl (i : Int)] ∧ (i : Int) ≤ n + 1 ∧ Box (∀ m, 0 ≤ m → m < (i : Int) → f m = lenC w m) ∧ m = (n + 1 - i).toNat
theorem LoQ.st {h : Hp} {w : Int → Int} {n : Int} {i : Nat} {f : Int → Int} (hi : (i : Int) ≤ n) (hf : Box (∀ m, 0 ≤ m → m < (i : Int) → f m = lenC w m)) {x : Int} (hx : x = lenC w i) : ∃ k', k' < (n + 1 - i).toNat ∧ LoQ h w n k' [.inr (.inr (some 60)), .inl n, .inl ((i : Int) + 1)] (rI (rI h 61 f) 61 (up f i x)) := by
  subst hx
  refine ⟨(n + 1 - (i + 1 : Nat)).toNat, by omega, i + 1, _, rI_rI _ _ _ _, rfl, by omega, Box.i fun m m0 m1 => ?_, rfl⟩
  by_cases e : m = i
  · subst e; rw [up_self]
  · rw [up_ne e]; exact hf.o m m0 (by omega)
def s_X8_lengthOf : CS := (zc 10, ap [(3, 60), (0, 0)] (fun n h Rt X =>
∃ w, GH h w ∧ WF w ∧ (0 ≤ n ∧ n < w 0) ∧ ∀ f, Rt (some (.inl (lenC w n))) (rI h 61 f)))
set_option maxRecDepth 100000 in
set_option maxHeartbeats 4000000 in
theorem o_X8_lengthOf : Obl true 1 3 (sp [(130, s_X8_lengthByOperands)]) [] code_X8_lengthOf s_X8_lengthOf := by
  refine oblL (by rfl) [(2, [0, 1, 2])] ?_
  intro n r_n h Rt X hh hf hs
  obtain ⟨w, hG, hW, ⟨n0, n1⟩, h5⟩ := hs
  have nn := hW.nn
  refine ⟨fun m _ vs g => LoQ h w n m vs g, ?_, ?_⟩
  · exact Exists.intro _ ⟨0, hI h 61, (rI_id h 61).symm, rfl, by show (0 : Int) ≤ _; omega, Box.i (fun m m0 m1 => by omega), rfl⟩
  · rintro m pc vs' vs g hl ⟨i, f, rfl, rfl, i1, hf, rfl⟩ hv hh1 hf1
    obtain ⟨rfl, rfl⟩ := look1 hl
    by_cases y : (i : Int) ≤ n
    · have L := lbo_eq (f := f) hW (n := i) (by omega) (by omega) hf.o
      have Y := fun x => LoQ.st (h := h) (x := x) y hf
      have G1 : GH (rI h 61 f) w := hG
      have F1 : Box (∀ m, 0 ≤ m → m < (i : Int) → hI (rI h 61 f) 61 m = lenC w m) := hf
      by_cases c : 121 ≤ lbo f w i
      · rw [if_pos c] at L
        repeat' (first | apply And.intro | (with_reducible assumption) | (intro h9; first | (exfalso; omega) | (simp only [rI_rI, rJ_rJ, hI_rI, hJ_rI, hI_rJ, hJ_rJ, hI_rR, hR_rI, hR_rJ, hN_rI, hN_rJ, svH_63, svH_66, rfH_63, wvH_63, wvH_62, wvH_67, wvH_68, wvH_69, sc_63, sc_n62, sc_n67, sc_n68, sc_n69, sc_n70, reduceIte, Nat.reduceEqDiff, eq_self, up_up, up_self, up_ne, ne_eq, not_false_eq_true, Int.reduceEq, Int.reduceNeg] at h9; first | (exfalso; omega) | skip) | skip) | refine Exists.intro w ?_ | exact G1 | exact hW | exact F1 | exact Y _ L.2.2 | exact h5 | exact h5 (by omega) | omega | exact True.intro | (simp only [rI_rI, rJ_rJ, hI_rI, hJ_rI, hI_rJ, hJ_rJ, hI_rR, hR_rI, hR_rJ, hN_rI, hN_rJ, svH_63, svH_66, rfH_63, wvH_63, wvH_62, wvH_67, wvH_68, wvH_69, sc_63, sc_n62, sc_n67, sc_n68, sc_n69, sc_n70, reduceIte, Nat.reduceEqDiff, eq_self, up_up, up_self, up_ne, ne_eq, not_false_eq_true, Int.reduceEq, Int.reduceNeg]; omega))
      · rw [if_neg c] at L
        repeat' (first | apply And.intro | (with_reducible assumption) | (intro h9; first | (exfalso; omega) | (simp only [rI_rI, rJ_rJ, hI_rI, hJ_rI, hI_rJ, hJ_rJ, hI_rR, hR_rI, hR_rJ, hN_rI, hN_rJ, svH_63, svH_66, rfH_63, wvH_63, wvH_62, wvH_67, wvH_68, wvH_69, sc_63, sc_n62, sc_n67, sc_n68, sc_n69, sc_n70, reduceIte, Nat.reduceEqDiff, eq_self, up_up, up_self, up_ne, ne_eq, not_false_eq_true, Int.reduceEq, Int.reduceNeg] at h9; first | (exfalso; omega) | skip) | skip) | refine Exists.intro w ?_ | exact G1 | exact hW | exact F1 | exact Y _ L.2.2 | exact h5 | exact h5 (by omega) | omega | exact True.intro | (simp only [rI_rI, rJ_rJ, hI_rI, hJ_rI, hI_rJ, hJ_rJ, hI_rR, hR_rI, hR_rJ, hN_rI, hN_rJ, svH_63, svH_66, rfH_63, wvH_63, wvH_62, wvH_67, wvH_68, wvH_69, sc_63, sc_n62, sc_n67, sc_n68, sc_n69, sc_n70, reduceIte, Nat.reduceEqDiff, eq_self, up_up, up_self, up_ne, ne_eq, not_false_eq_true, Int.reduceEq, Int.reduceNeg]; omega))
    · have k := h5 f
      rw [← hf.o n n0 (by omega)] at k
      repeat' (first | apply And.intro | (with_reducible assumption) | (intro h9; first | (exfalso; omega) | (simp only [rI_rI, rJ_rJ, hI_rI, hJ_rI, hI_rJ, hJ_rJ, hI_rR, hR_rI, hR_rJ, hN_rI, hN_rJ, svH_63, svH_66, rfH_63, wvH_63, wvH_62, wvH_67, wvH_68, wvH_69, sc_63, sc_n62, sc_n67, sc_n68, sc_n69, sc_n70, reduceIte, Nat.reduceEqDiff, eq_self, up_up, up_self, up_ne, ne_eq, not_false_eq_true, Int.reduceEq, Int.reduceNeg] at h9; first | (exfalso; omega) | skip) | skip) | exact k | exact h5 | exact h5 (by omega) | omega | exact True.intro | (simp only [rI_rI, rJ_rJ, hI_rI, hJ_rI, hI_rJ, hJ_rJ, hI_rR, hR_rI, hR_rJ, hN_rI, hN_rJ, svH_63, svH_66, rfH_63, wvH_63, wvH_62, wvH_67, wvH_68, wvH_69, sc_63, sc_n62, sc_n67, sc_n68, sc_n69, sc_n70, reduceIte, Nat.reduceEqDiff, eq_self, up_up, up_self, up_ne, ne_eq, not_false_eq_true, Int.reduceEq, Int.reduceNeg]; omega))
theorem m_X8_lengthOf : MM 129 s_X8_lengthOf := mm_of (own := 7) (by rfl) k_X8_lengthOf (cl := [(130, s_X8_lengthByOperands)]) ⟨m_X8_lengthByOperands, trivial⟩ o_X8_lengthOf

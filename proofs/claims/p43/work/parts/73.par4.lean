/-! ===== the class: one thing taken ===== -/
theorem opE_t {r : Rw} {p : Int} (h : p < r 49 1) (e : isL r p) : opE r p = opE r (p + 1) := whl_t h (decide_eq_true e)
theorem opE_f {r : Rw} {p : Int} (e : ¬ p < r 49 1 ∨ ¬ isL r p) : opE r p = p := whl_f (by
  rcases e with e | e
  · exact Or.inl e
  · exact Or.inr (decide_eq_false e))
theorem opE_rng (r : Rw) {p : Int} (h : p ≤ r 49 1) : p ≤ opE r p ∧ opE r p ≤ r 49 1 := ⟨(whl_rng _ _ _).1, (whl_rng _ _ _).2 h⟩
/-- there is room for one more parenthesis -/
def OpP (r : Rw) : Prop := Box (0 ≤ r 51 11 ∧ r 51 11 < 120)
theorem kdF_rng (r : Rw) (a n : Int) : kdF r a n = -1 ∨ (2 ≤ kdF r a n ∧ kdF r a n ≤ 24 ∧ isW r a n (kdF r a n)) := by
  unfold kdF
  by_cases e : fst (kdP r a n) 23 = -1
  · exact Or.inl (if_pos e)
  · rw [if_neg e]
    have := fst_some e
    exact Or.inr ⟨by omega, by omega, of_decide_eq_true this.2.2.1⟩
def s_X4_takeOpening : CS := (zc 10, ap [(3, 51)] (fun  h Rt X =>
PL (hI h) ∧ OpP (hI h) ∧ tA (hI h) (hI h 51 1) = 40 ∧ Rt none (wI h (opS (hI h)))))
set_option maxRecDepth 100000 in
set_option maxHeartbeats 4000000 in
theorem o_X4_takeOpening : Obl true 0 3 (sp [(90, s_X4_skipSpaces), (124, s_X7_length), (92, s_X4_isWordLetter), (42, s_X2_kindOf), (38, s_X2_operandCount), (39, s_X2_digitCount)]) [] code_X4_takeOpening s_X4_takeOpening := by
  refine oblL (by rfl) [(19, [0, 1])] ?_
  intro  h Rt X hh hf hs
  obtain ⟨hP, hO, hx, h3⟩ := hs
  have P1 := hP.av (tAn hx (by decide))
  have P2 := P1.sk
  obtain ⟨l0, l1, l2, l3⟩ := P2.o
  have Q1 := hP.r
  obtain ⟨o1, o2⟩ := hO.o
  refine ⟨fun m pc vs g => ∃ (p : Int), g = wI h (sF (skS (avS (hI h))) 1 p) ∧ vs = [.inr (.inr (some 51)), .inl (skS (avS (hI h)) 51 1)] ∧ skS (avS (hI h)) 51 1 ≤ p ∧ p ≤ hI h 49 1 ∧ opE (skS (avS (hI h))) p = opE (skS (avS (hI h))) (skS (avS (hI h)) 51 1) ∧ m = (hI h 49 1 - p).toNat, ?_, ?_⟩
  · repeat' (first | apply And.intro | (with_reducible assumption) | (intro h9; first | (exfalso; omega) | (simp only [rI_rI, rJ_rJ, hI_rI, hJ_rI, hI_rJ, hJ_rJ, hI_rR, hR_rI, hR_rJ, hN_rI, hN_rJ, svH_63, svH_66, rfH_63, wvH_63, wvH_62, wvH_67, wvH_68, wvH_69, sc_63, sc_n62, sc_n67, sc_n68, sc_n69, sc_n70, reduceIte, Nat.reduceEqDiff, eq_self, up_up, up_self, up_ne, ne_eq, not_false_eq_true, Int.reduceEq, Int.reduceNeg, hI_wI] at h9; first | (exfalso; omega) | skip) | skip) | exact P1 | exact Exists.intro _ ⟨_, (by rw [sF_P]; rfl), rfl, Int.le_refl _, l3, rfl, rfl⟩ | exact h3 | exact h3 (by omega) | omega | exact True.intro | (simp only [rI_rI, rJ_rJ, hI_rI, hJ_rI, hI_rJ, hJ_rJ, hI_rR, hR_rI, hR_rJ, hN_rI, hN_rJ, svH_63, svH_66, rfH_63, wvH_63, wvH_62, wvH_67, wvH_68, wvH_69, sc_63, sc_n62, sc_n67, sc_n68, sc_n69, sc_n70, reduceIte, Nat.reduceEqDiff, eq_self, up_up, up_self, up_ne, ne_eq, not_false_eq_true, Int.reduceEq, Int.reduceNeg, hI_wI]; omega))
  · rintro m pc vs' vs g hl ⟨p, rfl, rfl, i1, i2, i3, rfl⟩ hv hh1 hf1
    obtain ⟨rfl, rfl⟩ := look1 hl
    have l4 : hI h 49 1 ≤ 120 := l1
    have l5 : 0 ≤ p := Int.le_trans l2 i1
    have l6 : 0 ≤ hI h 49 1 := l0
    have l7 : skS (avS (hI h)) 51 1 ≤ hI h 49 1 := l3
    have a2 : sF (skS (avS (hI h))) 1 p 51 1 = p := up_self (skS (avS (hI h)) 51) 1 p
    have a3 : isL (sF (skS (avS (hI h))) 1 p) (sF (skS (avS (hI h))) 1 p 51 1) ↔ isL (skS (avS (hI h))) p := by rw [a2]; exact Iff.rfl
    have a4 : sF (skS (avS (hI h))) 1 p 49 1 = hI h 49 1 := rfl
    by_cases y : p < hI h 49 1 ∧ isL (skS (avS (hI h))) p
    · have e := opE_t (r := skS (avS (hI h))) y.1 y.2
      have y1 := y.1
      have y2 := a3.mpr y.2
      repeat' (first | apply And.intro | (with_reducible assumption) | (intro h9; first | (exfalso; omega) | (simp only [rI_rI, rJ_rJ, hI_rI, hJ_rI, hI_rJ, hJ_rJ, hI_rR, hR_rI, hR_rJ, hN_rI, hN_rJ, svH_63, svH_66, rfH_63, wvH_63, wvH_62, wvH_67, wvH_68, wvH_69, sc_63, sc_n62, sc_n67, sc_n68, sc_n69, sc_n70, reduceIte, Nat.reduceEqDiff, eq_self, up_up, up_self, up_ne, ne_eq, not_false_eq_true, Int.reduceEq, Int.reduceNeg, hI_wI] at h9; first | (exfalso; omega) | skip) | skip) | exact absurd y2 (by assumption) | exact Exists.intro _ ⟨by omega, p + 1, congrArg (wI h) (sF_nx _ p), rfl, by omega, by omega, e.symm.trans i3, rfl⟩ | exact h3 | exact h3 (by omega) | omega | exact True.intro | (simp only [rI_rI, rJ_rJ, hI_rI, hJ_rI, hI_rJ, hJ_rJ, hI_rR, hR_rI, hR_rJ, hN_rI, hN_rJ, svH_63, svH_66, rfH_63, wvH_63, wvH_62, wvH_67, wvH_68, wvH_69, sc_63, sc_n62, sc_n67, sc_n68, sc_n69, sc_n70, reduceIte, Nat.reduceEqDiff, eq_self, up_up, up_self, up_ne, ne_eq, not_false_eq_true, Int.reduceEq, Int.reduceNeg, hI_wI]; omega))
    · have e := opE_f (r := skS (avS (hI h))) (p := p) (by
        by_cases z : p < hI h 49 1
        · exact Or.inr (fun q => y ⟨z, q⟩)
        · exact Or.inl z)
      have y2 : p < hI h 49 1 → ¬ isL (sF (skS (avS (hI h))) 1 p) (sF (skS (avS (hI h))) 1 p 51 1) := fun z q => y ⟨z, a3.mp q⟩
      have e2 : opS (hI h) = opC (sF (skS (avS (hI h))) 1 p) (skS (avS (hI h)) 51 1) := by
        unfold opS opB
        rw [show opE (skS (avS (hI h))) (pP (skS (avS (hI h)))) = p from i3.symm.trans e]
      rw [e2] at h3
      unfold opC at h3
      have a5 : pP (sF (skS (avS (hI h))) 1 p) = p := a2
      rw [a5] at h3
      have kr := kdF_rng (sF (skS (avS (hI h))) 1 p) (skS (avS (hI h)) 51 1) (p - skS (avS (hI h)) 51 1)
      have o3 : sF (skS (avS (hI h))) 1 p 51 11 = hI h 51 11 := rfl
      by_cases x : kdF (sF (skS (avS (hI h))) 1 p) (skS (avS (hI h)) 51 1) (p - skS (avS (hI h)) 51 1) = -1
      · rw [if_pos x] at h3
        have x2 := x
        rw [← a2] at x2
        repeat' (first | apply And.intro | (with_reducible assumption) | (intro h9; first | (exfalso; omega) | (simp only [rI_rI, rJ_rJ, hI_rI, hJ_rI, hI_rJ, hJ_rJ, hI_rR, hR_rI, hR_rJ, hN_rI, hN_rJ, svH_63, svH_66, rfH_63, wvH_63, wvH_62, wvH_67, wvH_68, wvH_69, sc_63, sc_n62, sc_n67, sc_n68, sc_n69, sc_n70, reduceIte, Nat.reduceEqDiff, eq_self, up_up, up_self, up_ne, ne_eq, not_false_eq_true, Int.reduceEq, Int.reduceNeg, hI_wI] at h9; first | (exfalso; omega) | skip) | skip) | exact absurd (by assumption) (y2 (by omega)) | exact absurd x2 (by assumption) | exact h3 | exact h3 | exact h3 (by omega) | omega | exact True.intro | (simp only [rI_rI, rJ_rJ, hI_rI, hJ_rI, hI_rJ, hJ_rJ, hI_rR, hR_rI, hR_rJ, hN_rI, hN_rJ, svH_63, svH_66, rfH_63, wvH_63, wvH_62, wvH_67, wvH_68, wvH_69, sc_63, sc_n62, sc_n67, sc_n68, sc_n69, sc_n70, reduceIte, Nat.reduceEqDiff, eq_self, up_up, up_self, up_ne, ne_eq, not_false_eq_true, Int.reduceEq, Int.reduceNeg, hI_wI]; omega))
      · rw [if_neg x] at h3
        have x2 := x
        rw [← a2] at x2
        repeat' (first | apply And.intro | (with_reducible assumption) | (intro h9; first | (exfalso; omega) | (simp only [rI_rI, rJ_rJ, hI_rI, hJ_rI, hI_rJ, hJ_rJ, hI_rR, hR_rI, hR_rJ, hN_rI, hN_rJ, svH_63, svH_66, rfH_63, wvH_63, wvH_62, wvH_67, wvH_68, wvH_69, sc_63, sc_n62, sc_n67, sc_n68, sc_n69, sc_n70, reduceIte, Nat.reduceEqDiff, eq_self, up_up, up_self, up_ne, ne_eq, not_false_eq_true, Int.reduceEq, Int.reduceNeg, hI_wI] at h9; first | (exfalso; omega) | skip) | skip) | exact absurd (by assumption) (y2 (by omega)) | exact absurd (by assumption) x2 | exact h3 | exact h3 | exact h3 (by omega) | omega | exact True.intro | (simp only [rI_rI, rJ_rJ, hI_rI, hJ_rI, hI_rJ, hJ_rJ, hI_rR, hR_rI, hR_rJ, hN_rI, hN_rJ, svH_63, svH_66, rfH_63, wvH_63, wvH_62, wvH_67, wvH_68, wvH_69, sc_63, sc_n62, sc_n67, sc_n68, sc_n69, sc_n70, reduceIte, Nat.reduceEqDiff, eq_self, up_up, up_self, up_ne, ne_eq, not_false_eq_true, Int.reduceEq, Int.reduceNeg, hI_wI]; omega))
theorem m_X4_takeOpening : MM 85 s_X4_takeOpening := mm_of (own := 3) (by rfl) k_X4_takeOpening (cl := [(90, s_X4_skipSpaces), (124, s_X7_length), (92, s_X4_isWordLetter), (42, s_X2_kindOf), (38, s_X2_operandCount), (39, s_X2_digitCount)]) ⟨m_X4_skipSpaces, m_X7_length, m_X4_isWordLetter, m_X2_kindOf, m_X2_operandCount, m_X2_digitCount, trivial⟩ o_X4_takeOpening

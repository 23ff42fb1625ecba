/-! ===== the reference: conflicts, the best model ===== -/
/-- no assignment fulfils all of a set -/
def cfB (w : Int → Int) (s : Int) : Bool := decide (fst (fun N => decide (bAnd (fulW w N (w 290).toNat) s = s)) (tot w).toNat = -1)
/-- what is fulfilled is right -/
def FV (w F c : Int → Int) : Prop := Box (F 11 = tot w ∧ ∀ N, 0 ≤ N → N < tot w → c N = fulW w N (w 290).toNat)
theorem FR.fv {w F c F0 : Int → Int} (h : FR w F c) (z : Fz F0 F) : FV w F c := Box.i (h.o z.o.1)
def s_X10_isConflict : CS := (zc 1, ap [(3, 62), (0, 0)] (fun s h Rt X =>
WF (hI h 63) ∧ FV (hI h 63) (hI h 62) (hI h 69) ∧ (cfB (hI h 63) s = true → Rt (some (.inl 1)) h) ∧ (cfB (hI h 63) s = false → Rt (some (.inl 0)) h)))
set_option maxRecDepth 100000 in
set_option maxHeartbeats 4000000 in
theorem o_X10_isConflict : Obl true 2 4 (sp []) [] code_X10_isConflict s_X10_isConflict := by
  refine oblL (by rfl) [(4, [0, 1, 2, 3])] ?_
  intro s r_s h Rt X hh hf hs
  obtain ⟨h1, h2, h3, h4⟩ := hs
  have tt := tot_rng h1
  obtain ⟨f1, f2⟩ := h2.o
  refine ⟨fun k pc vs g => ∃ (x n : Int), g = h ∧ vs = [.inr (.inr (some 62)), .inl s, .inl x, .inl n] ∧ 0 ≤ n ∧ n ≤ tot (hI h 63) ∧ ((x = 1 ∧ fst (fun N => decide (bAnd (fulW (hI h 63) N (hI h 63 290).toNat) s = s)) n.toNat = -1) ∨ (x = 0 ∧ cfB (hI h 63) s = false)) ∧ k = (tot (hI h 63) - n).toNat, ?_, ?_⟩
  · repeat' (first | apply And.intro | (with_reducible assumption) | (intro h9; first | (exfalso; omega) | (simp only [rI_rI, rJ_rJ, hI_rI, hJ_rI, hI_rJ, hJ_rJ, hR_rI, hR_rJ, hN_rI, hN_rJ, svH_63, svH_66, rfH_63, wvH_63, wvH_62, wvH_67, wvH_68, wvH_69, sc_63, sc_n62, sc_n67, sc_n68, sc_n69, sc_n70, reduceIte, Nat.reduceEqDiff, eq_self, up_up, up_self, up_ne, ne_eq, not_false_eq_true, Int.reduceEq, Int.reduceNeg] at h9; first | (exfalso; omega) | skip) | skip) | exact Exists.intro _ ⟨1, 0, rfl, rfl, by omega, by omega, Or.inl ⟨rfl, rfl⟩, rfl⟩ | exact h1 | exact h1 (by omega) | exact h2 | exact h2 (by omega) | exact h3 | exact h3 (by omega) | exact h4 | exact h4 (by omega) | omega | exact True.intro | (simp only [rI_rI, rJ_rJ, hI_rI, hJ_rI, hI_rJ, hJ_rJ, hR_rI, hR_rJ, hN_rI, hN_rJ, svH_63, svH_66, rfH_63, wvH_63, wvH_62, wvH_67, wvH_68, wvH_69, sc_63, sc_n62, sc_n67, sc_n68, sc_n69, sc_n70, reduceIte, Nat.reduceEqDiff, eq_self, up_up, up_self, up_ne, ne_eq, not_false_eq_true, Int.reduceEq, Int.reduceNeg]; omega))
  · rintro k pc live vs g hl ⟨x, n, rfl, rfl, i1, i2, i3, rfl⟩ hv hh1 hf1
    obtain ⟨rfl, rfl⟩ := look1 hl
    by_cases z : n < tot (hI g 63)
    · have e := f2 n i1 z
      rcases i3 with ⟨rfl, i4⟩ | ⟨rfl, i4⟩
      · by_cases y : bAnd (fulW (hI g 63) n (hI g 63 290).toNat) s = s
        · have r : cfB (hI g 63) s = false := by
            unfold cfB
            rw [fst_hit i1 z i4 (decide_eq_true y)]
            exact decide_eq_false (by omega)
          have y2 := y
          rw [← e] at y2
          repeat' (first | apply And.intro | (with_reducible assumption) | (intro h9; first | (exfalso; omega) | (simp only [rI_rI, rJ_rJ, hI_rI, hJ_rI, hI_rJ, hJ_rJ, hR_rI, hR_rJ, hN_rI, hN_rJ, svH_63, svH_66, rfH_63, wvH_63, wvH_62, wvH_67, wvH_68, wvH_69, sc_63, sc_n62, sc_n67, sc_n68, sc_n69, sc_n70, reduceIte, Nat.reduceEqDiff, eq_self, up_up, up_self, up_ne, ne_eq, not_false_eq_true, Int.reduceEq, Int.reduceNeg] at h9; first | (exfalso; omega) | skip) | skip) | exact Exists.intro _ ⟨by omega, 0, n + 1, rfl, rfl, by omega, by omega, Or.inr ⟨rfl, r⟩, rfl⟩ | exact h1 | exact h1 (by omega) | exact h2 | exact h2 (by omega) | exact h3 | exact h3 (by omega) | exact h4 | exact h4 (by omega) | omega | exact True.intro | (simp only [rI_rI, rJ_rJ, hI_rI, hJ_rI, hI_rJ, hJ_rJ, hR_rI, hR_rJ, hN_rI, hN_rJ, svH_63, svH_66, rfH_63, wvH_63, wvH_62, wvH_67, wvH_68, wvH_69, sc_63, sc_n62, sc_n67, sc_n68, sc_n69, sc_n70, reduceIte, Nat.reduceEqDiff, eq_self, up_up, up_self, up_ne, ne_eq, not_false_eq_true, Int.reduceEq, Int.reduceNeg]; omega))
        · have r := fst_miss (P := fun N => decide (bAnd (fulW (hI g 63) N (hI g 63 290).toNat) s = s)) i1 i4 (decide_eq_false y)
          have y2 := y
          rw [← e] at y2
          repeat' (first | apply And.intro | (with_reducible assumption) | (intro h9; first | (exfalso; omega) | (simp only [rI_rI, rJ_rJ, hI_rI, hJ_rI, hI_rJ, hJ_rJ, hR_rI, hR_rJ, hN_rI, hN_rJ, svH_63, svH_66, rfH_63, wvH_63, wvH_62, wvH_67, wvH_68, wvH_69, sc_63, sc_n62, sc_n67, sc_n68, sc_n69, sc_n70, reduceIte, Nat.reduceEqDiff, eq_self, up_up, up_self, up_ne, ne_eq, not_false_eq_true, Int.reduceEq, Int.reduceNeg] at h9; first | (exfalso; omega) | skip) | skip) | exact Exists.intro _ ⟨by omega, 1, n + 1, rfl, rfl, by omega, by omega, Or.inl ⟨rfl, r⟩, rfl⟩ | exact h1 | exact h1 (by omega) | exact h2 | exact h2 (by omega) | exact h3 | exact h3 (by omega) | exact h4 | exact h4 (by omega) | omega | exact True.intro | (simp only [rI_rI, rJ_rJ, hI_rI, hJ_rI, hI_rJ, hJ_rJ, hR_rI, hR_rJ, hN_rI, hN_rJ, svH_63, svH_66, rfH_63, wvH_63, wvH_62, wvH_67, wvH_68, wvH_69, sc_63, sc_n62, sc_n67, sc_n68, sc_n69, sc_n70, reduceIte, Nat.reduceEqDiff, eq_self, up_up, up_self, up_ne, ne_eq, not_false_eq_true, Int.reduceEq, Int.reduceNeg]; omega))
      · repeat' (first | apply And.intro | (with_reducible assumption) | (intro h9; first | (exfalso; omega) | (simp only [rI_rI, rJ_rJ, hI_rI, hJ_rI, hI_rJ, hJ_rJ, hR_rI, hR_rJ, hN_rI, hN_rJ, svH_63, svH_66, rfH_63, wvH_63, wvH_62, wvH_67, wvH_68, wvH_69, sc_63, sc_n62, sc_n67, sc_n68, sc_n69, sc_n70, reduceIte, Nat.reduceEqDiff, eq_self, up_up, up_self, up_ne, ne_eq, not_false_eq_true, Int.reduceEq, Int.reduceNeg] at h9; first | (exfalso; omega) | skip) | skip) | exact Exists.intro _ ⟨by omega, 0, n + 1, rfl, rfl, by omega, by omega, Or.inr ⟨rfl, i4⟩, rfl⟩ | exact h1 | exact h1 (by omega) | exact h2 | exact h2 (by omega) | exact h3 | exact h3 (by omega) | exact h4 | exact h4 (by omega) | omega | exact True.intro | (simp only [rI_rI, rJ_rJ, hI_rI, hJ_rI, hI_rJ, hJ_rJ, hR_rI, hR_rJ, hN_rI, hN_rJ, svH_63, svH_66, rfH_63, wvH_63, wvH_62, wvH_67, wvH_68, wvH_69, sc_63, sc_n62, sc_n67, sc_n68, sc_n69, sc_n70, reduceIte, Nat.reduceEqDiff, eq_self, up_up, up_self, up_ne, ne_eq, not_false_eq_true, Int.reduceEq, Int.reduceNeg]; omega))
    · obtain rfl : n = tot (hI g 63) := by omega
      rcases i3 with ⟨rfl, i4⟩ | ⟨rfl, i4⟩
      · have r : cfB (hI g 63) s = true := by
          unfold cfB
          exact decide_eq_true i4
        repeat' (first | apply And.intro | (with_reducible assumption) | (intro h9; first | (exfalso; omega) | (simp only [rI_rI, rJ_rJ, hI_rI, hJ_rI, hI_rJ, hJ_rJ, hR_rI, hR_rJ, hN_rI, hN_rJ, svH_63, svH_66, rfH_63, wvH_63, wvH_62, wvH_67, wvH_68, wvH_69, sc_63, sc_n62, sc_n67, sc_n68, sc_n69, sc_n70, reduceIte, Nat.reduceEqDiff, eq_self, up_up, up_self, up_ne, ne_eq, not_false_eq_true, Int.reduceEq, Int.reduceNeg] at h9; first | (exfalso; omega) | skip) | skip) | exact h3 r | exact h1 | exact h1 (by omega) | exact h2 | exact h2 (by omega) | exact h3 | exact h3 (by omega) | exact h4 | exact h4 (by omega) | omega | exact True.intro | (simp only [rI_rI, rJ_rJ, hI_rI, hJ_rI, hI_rJ, hJ_rJ, hR_rI, hR_rJ, hN_rI, hN_rJ, svH_63, svH_66, rfH_63, wvH_63, wvH_62, wvH_67, wvH_68, wvH_69, sc_63, sc_n62, sc_n67, sc_n68, sc_n69, sc_n70, reduceIte, Nat.reduceEqDiff, eq_self, up_up, up_self, up_ne, ne_eq, not_false_eq_true, Int.reduceEq, Int.reduceNeg]; omega))
      · repeat' (first | apply And.intro | (with_reducible assumption) | (intro h9; first | (exfalso; omega) | (simp only [rI_rI, rJ_rJ, hI_rI, hJ_rI, hI_rJ, hJ_rJ, hR_rI, hR_rJ, hN_rI, hN_rJ, svH_63, svH_66, rfH_63, wvH_63, wvH_62, wvH_67, wvH_68, wvH_69, sc_63, sc_n62, sc_n67, sc_n68, sc_n69, sc_n70, reduceIte, Nat.reduceEqDiff, eq_self, up_up, up_self, up_ne, ne_eq, not_false_eq_true, Int.reduceEq, Int.reduceNeg] at h9; first | (exfalso; omega) | skip) | skip) | exact h4 i4 | exact h1 | exact h1 (by omega) | exact h2 | exact h2 (by omega) | exact h3 | exact h3 (by omega) | exact h4 | exact h4 (by omega) | omega | exact True.intro | (simp only [rI_rI, rJ_rJ, hI_rI, hJ_rI, hI_rJ, hJ_rJ, hR_rI, hR_rJ, hN_rI, hN_rJ, svH_63, svH_66, rfH_63, wvH_63, wvH_62, wvH_67, wvH_68, wvH_69, sc_63, sc_n62, sc_n67, sc_n68, sc_n69, sc_n70, reduceIte, Nat.reduceEqDiff, eq_self, up_up, up_self, up_ne, ne_eq, not_false_eq_true, Int.reduceEq, Int.reduceNeg]; omega))
def coreS (w : Int → Int) (s k : Int) : Int := bAnd s (bXor (sShl 1 k) (-1))
/-- the core of the first k constraints -/
def coreF (w : Int → Int) : Nat → Int
  | 0 => p2 (w 290) - 1
  | k + 1 => if cfB w (coreS w (coreF w k) (k : Int)) then coreS w (coreF w k) (k : Int) else coreF w k
theorem coreF_s (w : Int → Int) {k : Int} (h : 0 ≤ k) : coreF w (k + 1).toNat = if cfB w (coreS w (coreF w k.toNat) k) then coreS w (coreF w k.toNat) k else coreF w k.toNat := by
  rw [show (k + 1).toNat = k.toNat + 1 by omega]
  show (if cfB w (coreS w (coreF w k.toNat) (k.toNat : Int)) then _ else _) = _
  rw [show ((k.toNat : Nat) : Int) = k by omega]
theorem m_X10_isConflict : MM 253 s_X10_isConflict := mm_of (own := 9) (by rfl) k_X10_isConflict (cl := []) trivial o_X10_isConflict
def s_X10_core : CS := (zc 8, ap [(3, 62)] (fun  h Rt X =>
WF (hI h 63) ∧ FR (hI h 63) (hI h 62) (hI h 69) ∧ (nxt (hI h 63) 0 ≠ -1 → ∀ F a b c, Fz (up (hI h 62) 4 0) F → FR (hI h 63) F c → Rt (some (.inl (-1))) (sc (rfH h 0) F a b c)) ∧ (nxt (hI h 63) 0 = -1 → ∀ F a b c, Fz (up (hI h 62) 4 0) F → FR (hI h 63) F c → Rt (some (.inl (coreF (hI h 63) (hI h 63 290).toNat))) (sc (rfH h 0) F a b c))))
set_option maxRecDepth 100000 in
set_option maxHeartbeats 4000000 in
theorem o_X10_core : Obl true 1 3 (sp [(238, s_X10_model), (201, s_X10_mask), (253, s_X10_isConflict)]) [] code_X10_core s_X10_core := by
  refine oblL (by rfl) [(30, [0, 1, 2])] ?_
  intro  h Rt X hh hf hs
  obtain ⟨h1, h2, h3, h4⟩ := hs
  have tt := tot_rng h1
  have cc := h1.cn
  have k2 := h2.rf (x := 0)
  have c0 := cc.1
  have c1 := cc.2
  by_cases z : nxt (hI h 63) 0 = -1
  · refine ⟨fun m pc vs g => ∃ (k : Int) (F a b c : Int → Int), g = sc (rfH h 0) F a b c ∧ vs = [.inr (.inr (some 62)), .inl (coreF (hI h 63) k.toNat), .inl k] ∧ Fz (up (hI h 62) 4 0) F ∧ FR (hI h 63) F c ∧ 0 ≤ k ∧ k ≤ hI h 63 290 ∧ m = (hI h 63 290 - k).toNat, ?_, ?_⟩
    · repeat' (first | apply And.intro | (with_reducible assumption) | (intro h9; first | (exfalso; omega) | (simp only [rI_rI, rJ_rJ, hI_rI, hJ_rI, hI_rJ, hJ_rJ, hR_rI, hR_rJ, hN_rI, hN_rJ, svH_63, svH_66, rfH_63, wvH_63, wvH_62, wvH_67, wvH_68, wvH_69, sc_63, sc_n62, sc_n67, sc_n68, sc_n69, sc_n70, reduceIte, Nat.reduceEqDiff, eq_self, up_up, up_self, up_ne, ne_eq, not_false_eq_true, Int.reduceEq, Int.reduceNeg] at h9; first | (exfalso; omega) | skip) | skip) | exact h1 | exact k2 | exact Exists.intro _ ⟨0, _, _, _, _, rfl, rfl, by assumption, by assumption, by omega, by omega, rfl⟩ | exact h1 | exact h1 (by omega) | exact h2 | exact h2 (by omega) | exact h3 | exact h3 (by omega) | exact h4 | exact h4 (by omega) | omega | exact True.intro | (simp only [rI_rI, rJ_rJ, hI_rI, hJ_rI, hI_rJ, hJ_rJ, hR_rI, hR_rJ, hN_rI, hN_rJ, svH_63, svH_66, rfH_63, wvH_63, wvH_62, wvH_67, wvH_68, wvH_69, sc_63, sc_n62, sc_n67, sc_n68, sc_n69, sc_n70, reduceIte, Nat.reduceEqDiff, eq_self, up_up, up_self, up_ne, ne_eq, not_false_eq_true, Int.reduceEq, Int.reduceNeg]; omega))
    · rintro m pc live vs g hl ⟨k, F, a, b, c, rfl, rfl, i1, i2, i3, i4, rfl⟩ hv hh1 hf1
      obtain ⟨rfl, rfl⟩ := look1 hl
      have fv := i2.fv i1
      by_cases y : k < hI h 63 290
      · have e := coreF_s (hI h 63) i3
        cases q : cfB (hI h 63) (coreS (hI h 63) (coreF (hI h 63) k.toNat) k) with
        | true =>
          rw [q, if_pos rfl] at e
          have q2 : ¬ cfB (hI h 63) (coreS (hI h 63) (coreF (hI h 63) k.toNat) k) = false := by rw [q]; decide
          repeat' (first | apply And.intro | (with_reducible assumption) | (intro h9; first | (exfalso; omega) | (simp only [rI_rI, rJ_rJ, hI_rI, hJ_rI, hI_rJ, hJ_rJ, hR_rI, hR_rJ, hN_rI, hN_rJ, svH_63, svH_66, rfH_63, wvH_63, wvH_62, wvH_67, wvH_68, wvH_69, sc_63, sc_n62, sc_n67, sc_n68, sc_n69, sc_n70, reduceIte, Nat.reduceEqDiff, eq_self, up_up, up_self, up_ne, ne_eq, not_false_eq_true, Int.reduceEq, Int.reduceNeg] at h9; first | (exfalso; omega) | skip) | skip) | exact h1 | exact fv | exact absurd (by assumption) q2 | exact Exists.intro _ ⟨by omega, k + 1, F, a, b, c, rfl, by rw [e]; rfl, i1, i2, by omega, by omega, rfl⟩ | exact h1 | exact h1 (by omega) | exact h2 | exact h2 (by omega) | exact h3 | exact h3 (by omega) | exact h4 | exact h4 (by omega) | omega | exact True.intro | (simp only [rI_rI, rJ_rJ, hI_rI, hJ_rI, hI_rJ, hJ_rJ, hR_rI, hR_rJ, hN_rI, hN_rJ, svH_63, svH_66, rfH_63, wvH_63, wvH_62, wvH_67, wvH_68, wvH_69, sc_63, sc_n62, sc_n67, sc_n68, sc_n69, sc_n70, reduceIte, Nat.reduceEqDiff, eq_self, up_up, up_self, up_ne, ne_eq, not_false_eq_true, Int.reduceEq, Int.reduceNeg]; omega))
        | false =>
          rw [q, if_neg (by decide)] at e
          have q2 : ¬ cfB (hI h 63) (coreS (hI h 63) (coreF (hI h 63) k.toNat) k) = true := by rw [q]; decide
          repeat' (first | apply And.intro | (with_reducible assumption) | (intro h9; first | (exfalso; omega) | (simp only [rI_rI, rJ_rJ, hI_rI, hJ_rI, hI_rJ, hJ_rJ, hR_rI, hR_rJ, hN_rI, hN_rJ, svH_63, svH_66, rfH_63, wvH_63, wvH_62, wvH_67, wvH_68, wvH_69, sc_63, sc_n62, sc_n67, sc_n68, sc_n69, sc_n70, reduceIte, Nat.reduceEqDiff, eq_self, up_up, up_self, up_ne, ne_eq, not_false_eq_true, Int.reduceEq, Int.reduceNeg] at h9; first | (exfalso; omega) | skip) | skip) | exact h1 | exact fv | exact absurd (by assumption) q2 | exact Exists.intro _ ⟨by omega, k + 1, F, a, b, c, rfl, by rw [e] <;> rfl, i1, i2, by omega, by omega, rfl⟩ | exact h1 | exact h1 (by omega) | exact h2 | exact h2 (by omega) | exact h3 | exact h3 (by omega) | exact h4 | exact h4 (by omega) | omega | exact True.intro | (simp only [rI_rI, rJ_rJ, hI_rI, hJ_rI, hI_rJ, hJ_rJ, hR_rI, hR_rJ, hN_rI, hN_rJ, svH_63, svH_66, rfH_63, wvH_63, wvH_62, wvH_67, wvH_68, wvH_69, sc_63, sc_n62, sc_n67, sc_n68, sc_n69, sc_n70, reduceIte, Nat.reduceEqDiff, eq_self, up_up, up_self, up_ne, ne_eq, not_false_eq_true, Int.reduceEq, Int.reduceNeg]; omega))
      · obtain rfl : k = hI h 63 290 := by omega
        have k4 := h4 z F a b c i1 i2
        repeat' (first | apply And.intro | (with_reducible assumption) | (intro h9; first | (exfalso; omega) | (simp only [rI_rI, rJ_rJ, hI_rI, hJ_rI, hI_rJ, hJ_rJ, hR_rI, hR_rJ, hN_rI, hN_rJ, svH_63, svH_66, rfH_63, wvH_63, wvH_62, wvH_67, wvH_68, wvH_69, sc_63, sc_n62, sc_n67, sc_n68, sc_n69, sc_n70, reduceIte, Nat.reduceEqDiff, eq_self, up_up, up_self, up_ne, ne_eq, not_false_eq_true, Int.reduceEq, Int.reduceNeg] at h9; first | (exfalso; omega) | skip) | skip) | exact k4 | exact h1 | exact h1 (by omega) | exact h2 | exact h2 (by omega) | exact h3 | exact h3 (by omega) | exact h4 | exact h4 (by omega) | omega | exact True.intro | (simp only [rI_rI, rJ_rJ, hI_rI, hJ_rI, hI_rJ, hJ_rJ, hR_rI, hR_rJ, hN_rI, hN_rJ, svH_63, svH_66, rfH_63, wvH_63, wvH_62, wvH_67, wvH_68, wvH_69, sc_63, sc_n62, sc_n67, sc_n68, sc_n69, sc_n70, reduceIte, Nat.reduceEqDiff, eq_self, up_up, up_self, up_ne, ne_eq, not_false_eq_true, Int.reduceEq, Int.reduceNeg]; omega))
  · refine ⟨fun k pc vs q => False, ?_, ?_⟩
    · repeat' (first | apply And.intro | (with_reducible assumption) | (intro h9; first | (exfalso; omega) | (simp only [rI_rI, rJ_rJ, hI_rI, hJ_rI, hI_rJ, hJ_rJ, hR_rI, hR_rJ, hN_rI, hN_rJ, svH_63, svH_66, rfH_63, wvH_63, wvH_62, wvH_67, wvH_68, wvH_69, sc_63, sc_n62, sc_n67, sc_n68, sc_n69, sc_n70, reduceIte, Nat.reduceEqDiff, eq_self, up_up, up_self, up_ne, ne_eq, not_false_eq_true, Int.reduceEq, Int.reduceNeg] at h9; first | (exfalso; omega) | skip) | skip) | exact h1 | exact k2 | exact h3 z _ _ _ _ (by assumption) (by assumption) | exact h1 | exact h1 (by omega) | exact h2 | exact h2 (by omega) | exact h3 | exact h3 (by omega) | exact h4 | exact h4 (by omega) | omega | exact True.intro | (simp only [rI_rI, rJ_rJ, hI_rI, hJ_rI, hI_rJ, hJ_rJ, hR_rI, hR_rJ, hN_rI, hN_rJ, svH_63, svH_66, rfH_63, wvH_63, wvH_62, wvH_67, wvH_68, wvH_69, sc_63, sc_n62, sc_n67, sc_n68, sc_n69, sc_n70, reduceIte, Nat.reduceEqDiff, eq_self, up_up, up_self, up_ne, ne_eq, not_false_eq_true, Int.reduceEq, Int.reduceNeg]; omega))
    · intro k pc live vs q hl hq; exact hq.elim
/-- the gain of an assignment by the first k wishes -/
def gnW (w : Int → Int) (N : Int) : Nat → Int
  | 0 => 0
  | k + 1 => gnW w N k + vl w (asg w N) (w (333 + (k : Int))) * w (341 + (k : Int))
theorem gnW_s (w : Int → Int) (N : Int) {k : Int} (h : 0 ≤ k) : gnW w N (k + 1).toNat = gnW w N k.toNat + vl w (asg w N) (w (333 + k)) * w (341 + k) := by
  rw [show (k + 1).toNat = k.toNat + 1 by omega]
  show gnW w N k.toNat + vl w (asg w N) (w (333 + (k.toNat : Int))) * w (341 + (k.toNat : Int)) = _
  rw [show ((k.toNat : Nat) : Int) = k by omega]
def gnA (w : Int → Int) (N : Int) : Int := gnW w N (w 332).toNat
theorem wish01 {w : Int → Int} (h : WF w) (N : Int) {k : Int} (h0 : 0 ≤ k) (h1 : k < w 332) : vl w (asg w N) (w (333 + k)) = 0 ∨ vl w (asg w N) (w (333 + k)) = 1 := by
  have q := h.wish h0 h1
  have := h.vr (asg_ev w N) q.1 q.2.1
  rw [q.2.2.1, p2_1] at this
  omega
theorem gnW_rng {w : Int → Int} (h : WF w) (N : Int) : ∀ k : Nat, (k : Int) ≤ w 332 → 0 ≤ gnW w N k ∧ gnW w N k ≤ 9 * k := by
  intro k
  induction k with
  | zero => intro _; exact ⟨Int.le_refl _, Int.le_refl _⟩
  | succ k ih =>
    intro hk
    have a := ih (by omega)
    have b := wish01 h N (k := k) (by omega) (by omega)
    have c := h.wish (k := k) (by omega) (by omega)
    have e : gnW w N (k + 1) = gnW w N k + vl w (asg w N) (w (333 + (k : Int))) * w (341 + (k : Int)) := rfl
    rcases b with b | b
    · rw [b, Int.zero_mul] at e; omega
    · rw [b, Int.one_mul] at e; omega
def gnR (w : Int → Int) (r : Int) : Int := if r = -1 then -1 else gnA w r
theorem gn_new {w : Int → Int} {N r : Int} (hb : isB (mdl w) (gnA w) N r) (h0 : 0 ≤ N) (hp : mdl w N = true) (c : gnR w r < gnA w N) : isB (mdl w) (gnA w) (N + 1) N := by
  refine isB_new hb h0 hp ?_
  by_cases e : r = -1
  · exact Or.inl e
  · unfold gnR at c
    rw [if_neg e] at c
    exact Or.inr c
theorem gn_keep {w : Int → Int} (hw : WF w) {N r : Int} (hb : isB (mdl w) (gnA w) N r) (h0 : 0 ≤ N) (c : gnA w N ≤ gnR w r) : isB (mdl w) (gnA w) (N + 1) r := by
  have := (gnW_rng hw N (w 332).toNat (by have := hw.wn; omega)).1
  have e0 : gnA w N = gnW w N (w 332).toNat := rfl
  by_cases e : r = -1
  · unfold gnR at c
    rw [if_pos e] at c
    omega
  · unfold gnR at c
    rw [if_neg e] at c
    exact isB_keep hb h0 e c
theorem sc_mo (h : Hp) (F a b c a' b' X F' a2 b2 c' : Int → Int) : sc (rI (wvH (sc h F a b c) a' b') 62 X) F' a2 b2 c' = sc h F' a2 b2 c' := by rw [sc_wv, sc_62, sc_sc]
/-- the fields with the gain most -/
def Fm (F0 : Int → Int) (x : Int) (F : Int → Int) : Prop := Box (F 10 = 0 ∧ F 13 = x ∧ ∀ j, j ≠ 10 → j ≠ 11 → j ≠ 13 → F j = F0 j)
theorem Fm.st {F0 F G : Int → Int} {x y : Int} (h : Fm F0 x F) (hg : Fz (up F 13 y) G) : Fm F0 y G := by
  obtain ⟨a, b⟩ := hg.o
  obtain ⟨c, d, e⟩ := h.o
  refine Box.i ⟨a, by rw [b 13 (by decide) (by decide), up_self], fun j h1 h2 h3 => ?_⟩
  rw [b j h1 h2, up_ne h3, e j h1 h2 h3]
theorem Fm.i {F0 G : Int → Int} {y : Int} (hg : Fz (up F0 13 y) G) : Fm F0 y G := by
  obtain ⟨a, b⟩ := hg.o
  refine Box.i ⟨a, by rw [b 13 (by decide) (by decide), up_self], fun j h1 h2 h3 => ?_⟩
  rw [b j h1 h2, up_ne h3]
theorem sc_u13 (h : Hp) (F a b c : Int → Int) (x : Int) : rI (sc h F a b c) 62 (up F 13 x) = sc h (up F 13 x) a b c := sc_62 _ _ _ _ _ _
theorem m_X10_core : MM 254 s_X10_core := mm_of (own := 9) (by rfl) k_X10_core (cl := [(238, s_X10_model), (201, s_X10_mask), (253, s_X10_isConflict)]) ⟨m_X10_model, m_X10_mask, m_X10_isConflict, trivial⟩ o_X10_core
def s_X10_best : CS := (zc 8, ap [(3, 62)] (fun  h Rt X =>
WF (hI h 63) ∧ FR (hI h 63) (hI h 62) (hI h 69) ∧ ∀ r F a b c, isB (mdl (hI h 63)) (gnA (hI h 63)) (tot (hI h 63)) r → Fm (hI h 62) (gnR (hI h 63) r) F → FR (hI h 63) F c → Rt (some (.inl r)) (sc h F a b c)))
set_option maxRecDepth 100000 in
set_option maxHeartbeats 4000000 in
theorem o_X10_best : Obl true 1 5 (sp [(238, s_X10_model), (230, s_X10_laysAssignment)]) [] code_X10_best s_X10_best := by
  refine oblL (by rfl) [(13, [0, 1, 2]), (28, [0, 1, 2, 3, 4])] ?_
  intro  h Rt X hh hf hs
  obtain ⟨h1, h2, h3⟩ := hs
  have tt := tot_rng h1
  have ww := h1.wn
  have nn := h1.nn
  have n0 := nxt_lt h1 0
  have k2 : FR (hI h 63) (up (hI h 62) 13 (-1)) (hI h 69) := h2
  refine ⟨fun k pc vs g => ∃ (r N m : Int) (F a b c : Int → Int), g = sc h F a b c ∧ Fm (hI h 62) (gnR (hI h 63) r) F ∧ FR (hI h 63) F c ∧ atM (hI h 63) m N ∧ m ≤ tot (hI h 63) ∧ isB (mdl (hI h 63)) (gnA (hI h 63)) m r ∧ ((pc = 13 ∧ vs = [.inr (.inr (some 62)), .inl r, .inl N] ∧ k = 100 * meas (hI h 63) N) ∨ (pc = 28 ∧ N ≠ -1 ∧ ∃ i : Int, vs = [.inr (.inr (some 62)), .inl r, .inl N, .inl (gnW (hI h 63) N i.toNat), .inl i] ∧ 0 ≤ i ∧ i ≤ hI h 63 332 ∧ Vls (hI h 63) (asg (hI h 63) N) b ∧ k = 100 * meas (hI h 63) N - 50 + (hI h 63 332 - i).toNat)), ?_, ?_⟩
  · repeat' (first | apply And.intro | (with_reducible assumption) | (intro h9; first | (exfalso; omega) | (simp only [rI_rI, rJ_rJ, hI_rI, hJ_rI, hI_rJ, hJ_rJ, hR_rI, hR_rJ, hN_rI, hN_rJ, svH_63, svH_66, rfH_63, wvH_63, wvH_62, wvH_67, wvH_68, wvH_69, sc_63, sc_n62, sc_n67, sc_n68, sc_n69, sc_n70, reduceIte, Nat.reduceEqDiff, eq_self, up_up, up_self, up_ne, ne_eq, not_false_eq_true, Int.reduceEq, Int.reduceNeg] at h9; first | (exfalso; omega) | skip) | skip) | exact h1 | exact k2 | exact Exists.intro _ ⟨-1, nxt (hI h 63) 0, 0, _, _, _, _, sc_rI62 _ _ _ _ _ _, Fm.i (by assumption), by assumption, Box.i ⟨rfl, by omega, by omega⟩, by omega, isB_0 _ _, Or.inl ⟨rfl, rfl, rfl⟩⟩ | exact h1 | exact h1 (by omega) | exact h2 | exact h2 (by omega) | exact h3 | exact h3 (by omega) | omega | exact True.intro | (simp only [rI_rI, rJ_rJ, hI_rI, hJ_rI, hI_rJ, hJ_rJ, hR_rI, hR_rJ, hN_rI, hN_rJ, svH_63, svH_66, rfH_63, wvH_63, wvH_62, wvH_67, wvH_68, wvH_69, sc_63, sc_n62, sc_n67, sc_n68, sc_n69, sc_n70, reduceIte, Nat.reduceEqDiff, eq_self, up_up, up_self, up_ne, ne_eq, not_false_eq_true, Int.reduceEq, Int.reduceNeg]; omega))
  · rintro k pc live vs g hl ⟨r, N, m, F, a, b, c, rfl, i1, i2, i3, i6, i4, ⟨rfl, rfl, rfl⟩ | ⟨rfl, q, i, rfl, j1, j2, j3, rfl⟩⟩ hv hh1 hf1
    · rcases look2 hl with ⟨_, rfl⟩ | ⟨q, _⟩
      · by_cases q : N = -1
        · have r3 := h3 r F a b c (i3.fin h1 q i6 i4) i1 i2
          repeat' (first | apply And.intro | (with_reducible assumption) | (intro h9; first | (exfalso; omega) | (simp only [rI_rI, rJ_rJ, hI_rI, hJ_rI, hI_rJ, hJ_rJ, hR_rI, hR_rJ, hN_rI, hN_rJ, svH_63, svH_66, rfH_63, wvH_63, wvH_62, wvH_67, wvH_68, wvH_69, sc_63, sc_n62, sc_n67, sc_n68, sc_n69, sc_n70, reduceIte, Nat.reduceEqDiff, eq_self, up_up, up_self, up_ne, ne_eq, not_false_eq_true, Int.reduceEq, Int.reduceNeg] at h9; first | (exfalso; omega) | skip) | skip) | exact r3 | exact h1 | exact h1 (by omega) | exact h2 | exact h2 (by omega) | exact h3 | exact h3 (by omega) | omega | exact True.intro | (simp only [rI_rI, rJ_rJ, hI_rI, hJ_rI, hI_rJ, hJ_rJ, hR_rI, hR_rJ, hN_rI, hN_rJ, svH_63, svH_66, rfH_63, wvH_63, wvH_62, wvH_67, wvH_68, wvH_69, sc_63, sc_n62, sc_n67, sc_n68, sc_n69, sc_n70, reduceIte, Nat.reduceEqDiff, eq_self, up_up, up_self, up_ne, ne_eq, not_false_eq_true, Int.reduceEq, Int.reduceNeg]; omega))
        · obtain ⟨q1, q2, q3, q4, q5⟩ := i3.at q
          have q6 := i3.to q i4
          have q9 : 0 < meas (hI h 63) N := by unfold meas; rw [if_neg q]; omega
          repeat' (first | apply And.intro | (with_reducible assumption) | (intro h9; first | (exfalso; omega) | (simp only [rI_rI, rJ_rJ, hI_rI, hJ_rI, hI_rJ, hJ_rJ, hR_rI, hR_rJ, hN_rI, hN_rJ, svH_63, svH_66, rfH_63, wvH_63, wvH_62, wvH_67, wvH_68, wvH_69, sc_63, sc_n62, sc_n67, sc_n68, sc_n69, sc_n70, reduceIte, Nat.reduceEqDiff, eq_self, up_up, up_self, up_ne, ne_eq, not_false_eq_true, Int.reduceEq, Int.reduceNeg] at h9; first | (exfalso; omega) | skip) | skip) | exact h1 | exact Exists.intro _ ⟨by omega, r, N, m, F, _, _, c, sc_wv _ _ _ _ _ _ _, i1, i2, i3, i6, i4, Or.inr ⟨rfl, q, 0, rfl, by omega, by omega, by assumption, rfl⟩⟩ | exact h1 | exact h1 (by omega) | exact h2 | exact h2 (by omega) | exact h3 | exact h3 (by omega) | omega | exact True.intro | (simp only [rI_rI, rJ_rJ, hI_rI, hJ_rI, hI_rJ, hJ_rJ, hR_rI, hR_rJ, hN_rI, hN_rJ, svH_63, svH_66, rfH_63, wvH_63, wvH_62, wvH_67, wvH_68, wvH_69, sc_63, sc_n62, sc_n67, sc_n68, sc_n69, sc_n70, reduceIte, Nat.reduceEqDiff, eq_self, up_up, up_self, up_ne, ne_eq, not_false_eq_true, Int.reduceEq, Int.reduceNeg]; omega))
      · cases q
    · rcases look2 hl with ⟨q, _⟩ | ⟨_, rfl⟩
      · cases q
      · obtain ⟨q1, q2, q3, q4, q5⟩ := i3.at q
        have q9 : 0 < meas (hI h 63) N := by unfold meas; rw [if_neg q]; omega
        have gg := gnW_rng h1 N i.toNat (by omega)
        by_cases y : i < hI h 63 332
        · have e := gnW_s (hI h 63) N j1
          have w1 := h1.wish j1 y
          have w2 := wish01 h1 N j1 y
          rw [← j3.o _ w1.1 w1.2.1] at e w2
          have w3 : b (hI h 63 (333 + i)) * hI h 63 (341 + i) = 0 ∨ b (hI h 63 (333 + i)) * hI h 63 (341 + i) = hI h 63 (341 + i) := by
            rcases w2 with w2 | w2 <;> rw [w2]
            · exact Or.inl (Int.zero_mul _)
            · exact Or.inr (Int.one_mul _)
          repeat' (first | apply And.intro | (with_reducible assumption) | (intro h9; first | (exfalso; omega) | (simp only [rI_rI, rJ_rJ, hI_rI, hJ_rI, hI_rJ, hJ_rJ, hR_rI, hR_rJ, hN_rI, hN_rJ, svH_63, svH_66, rfH_63, wvH_63, wvH_62, wvH_67, wvH_68, wvH_69, sc_63, sc_n62, sc_n67, sc_n68, sc_n69, sc_n70, reduceIte, Nat.reduceEqDiff, eq_self, up_up, up_self, up_ne, ne_eq, not_false_eq_true, Int.reduceEq, Int.reduceNeg] at h9; first | (exfalso; omega) | skip) | skip) | exact (show Rng (b (hI h 63 (333 + i)) * hI h 63 (341 + i)) from ⟨by omega, by omega⟩).1 | exact (show Rng (b (hI h 63 (333 + i)) * hI h 63 (341 + i)) from ⟨by omega, by omega⟩).2 | exact Exists.intro _ ⟨by omega, r, N, m, F, a, b, c, rfl, i1, i2, i3, i6, i4, Or.inr ⟨rfl, q, i + 1, by rw [e] <;> rfl, by omega, by omega, j3, rfl⟩⟩ | exact h1 | exact h1 (by omega) | exact h2 | exact h2 (by omega) | exact h3 | exact h3 (by omega) | omega | exact True.intro | (simp only [rI_rI, rJ_rJ, hI_rI, hJ_rI, hI_rJ, hJ_rJ, hR_rI, hR_rJ, hN_rI, hN_rJ, svH_63, svH_66, rfH_63, wvH_63, wvH_62, wvH_67, wvH_68, wvH_69, sc_63, sc_n62, sc_n67, sc_n68, sc_n69, sc_n70, reduceIte, Nat.reduceEqDiff, eq_self, up_up, up_self, up_ne, ne_eq, not_false_eq_true, Int.reduceEq, Int.reduceNeg]; omega))
        · obtain rfl : i = hI h 63 332 := by omega
          have q6 := i3.to q i4
          have q7 := i3.nx h1 q
          have q8 := meas_dn q1 q3
          have f13 : hI (sc h F a b c) 62 13 = gnR (hI h 63) r := i1.o.2.1
          have f13' : F 13 = gnR (hI h 63) r := i1.o.2.1
          have eN : gnR (hI h 63) N = gnW (hI h 63) N (hI h 63 332).toNat := by unfold gnR; rw [if_neg q]; rfl
          by_cases y : gnR (hI h 63) r < gnW (hI h 63) N (hI h 63 332).toNat
          · have s1 := gn_new q6 q1 q4 y
            have k3 : ∀ x, FR (hI h 63) (up F 13 x) c := fun x => i2
            have s3 : ∀ G, Fz (up F 13 (gnW (hI h 63) N (hI h 63 332).toNat)) G → Fm (hI h 62) (gnR (hI h 63) N) G := fun G hg => by rw [eN]; exact i1.st hg
            repeat' (first | apply And.intro | (with_reducible assumption) | (intro h9; first | (exfalso; omega) | (simp only [rI_rI, rJ_rJ, hI_rI, hJ_rI, hI_rJ, hJ_rJ, hR_rI, hR_rJ, hN_rI, hN_rJ, svH_63, svH_66, rfH_63, wvH_63, wvH_62, wvH_67, wvH_68, wvH_69, sc_63, sc_n62, sc_n67, sc_n68, sc_n69, sc_n70, reduceIte, Nat.reduceEqDiff, eq_self, up_up, up_self, up_ne, ne_eq, not_false_eq_true, Int.reduceEq, Int.reduceNeg] at h9; first | (exfalso; omega) | skip) | skip) | exact h1 | exact k3 _ | exact Exists.intro _ ⟨by omega, N, nxt (hI h 63) (N + 1), N + 1, _, _, _, _, (by rw [sc_62, sc_sc]), s3 _ (by assumption), by assumption, q7, by omega, s1, Or.inl ⟨rfl, rfl, rfl⟩⟩ | exact h1 | exact h1 (by omega) | exact h2 | exact h2 (by omega) | exact h3 | exact h3 (by omega) | omega | exact True.intro | (simp only [rI_rI, rJ_rJ, hI_rI, hJ_rI, hI_rJ, hJ_rJ, hR_rI, hR_rJ, hN_rI, hN_rJ, svH_63, svH_66, rfH_63, wvH_63, wvH_62, wvH_67, wvH_68, wvH_69, sc_63, sc_n62, sc_n67, sc_n68, sc_n69, sc_n70, reduceIte, Nat.reduceEqDiff, eq_self, up_up, up_self, up_ne, ne_eq, not_false_eq_true, Int.reduceEq, Int.reduceNeg]; omega))
          · have s1 := gn_keep h1 q6 q1 (show gnA (hI h 63) N ≤ gnR (hI h 63) r from Int.not_lt.mp y)
            have k3 : ∀ x, FR (hI h 63) (up F 13 x) c := fun x => i2
            have s3 : ∀ G, Fz (up F 13 (F 13)) G → Fm (hI h 62) (gnR (hI h 63) r) G := fun G hg => by rw [← f13']; exact i1.st hg
            repeat' (first | apply And.intro | (with_reducible assumption) | (intro h9; first | (exfalso; omega) | (simp only [rI_rI, rJ_rJ, hI_rI, hJ_rI, hI_rJ, hJ_rJ, hR_rI, hR_rJ, hN_rI, hN_rJ, svH_63, svH_66, rfH_63, wvH_63, wvH_62, wvH_67, wvH_68, wvH_69, sc_63, sc_n62, sc_n67, sc_n68, sc_n69, sc_n70, reduceIte, Nat.reduceEqDiff, eq_self, up_up, up_self, up_ne, ne_eq, not_false_eq_true, Int.reduceEq, Int.reduceNeg] at h9; first | (exfalso; omega) | skip) | skip) | exact h1 | exact k3 _ | exact Exists.intro _ ⟨by omega, r, nxt (hI h 63) (N + 1), N + 1, _, _, _, _, (by rw [sc_62, sc_sc]), s3 _ (by assumption), by assumption, q7, by omega, s1, Or.inl ⟨rfl, rfl, rfl⟩⟩ | exact h1 | exact h1 (by omega) | exact h2 | exact h2 (by omega) | exact h3 | exact h3 (by omega) | omega | exact True.intro | (simp only [rI_rI, rJ_rJ, hI_rI, hJ_rI, hI_rJ, hJ_rJ, hR_rI, hR_rJ, hN_rI, hN_rJ, svH_63, svH_66, rfH_63, wvH_63, wvH_62, wvH_67, wvH_68, wvH_69, sc_63, sc_n62, sc_n67, sc_n68, sc_n69, sc_n70, reduceIte, Nat.reduceEqDiff, eq_self, up_up, up_self, up_ne, ne_eq, not_false_eq_true, Int.reduceEq, Int.reduceNeg]; omega))
theorem m_X10_best : MM 257 s_X10_best := mm_of (own := 9) (by rfl) k_X10_best (cl := [(238, s_X10_model), (230, s_X10_laysAssignment)]) ⟨m_X10_model, m_X10_laysAssignment, trivial⟩ o_X10_best
def s_X10_gain : CS := (zc 9, ap [(3, 62)] (fun  h Rt X =>
WF (hI h 63) ∧ FR (hI h 63) (hI h 62) (hI h 69) ∧ ∀ r F a b c, isB (mdl (hI h 63)) (gnA (hI h 63)) (tot (hI h 63)) r → Fm (up (hI h 62) 4 0) (gnR (hI h 63) r) F → FR (hI h 63) F c → Rt (some (.inl (gnR (hI h 63) r))) (sc (rfH h 0) F a b c)))
set_option maxRecDepth 100000 in
set_option maxHeartbeats 4000000 in
theorem o_X10_gain : Obl true 1 1 (sp [(257, s_X10_best)]) [] code_X10_gain s_X10_gain := by
  refine obl0 (by rfl) ?_
  intro  h Rt X hh hf hs
  obtain ⟨h1, h2, h3⟩ := hs
  have k2 := h2.rf (x := 0)
  have k3 : ∀ r F a b c, isB (mdl (hI h 63)) (gnA (hI h 63)) (tot (hI h 63)) r → Fm (up (hI h 62) 4 0) (gnR (hI h 63) r) F → FR (hI h 63) F c → Rt (some (.inl (F 13))) (sc (rfH h 0) F a b c) := fun r F a b c z1 z2 z3 => by
    rw [z2.o.2.1]
    exact h3 r F a b c z1 z2 z3
  repeat' (first | apply And.intro | (with_reducible assumption) | (intro h9; first | (exfalso; omega) | (simp only [rI_rI, rJ_rJ, hI_rI, hJ_rI, hI_rJ, hJ_rJ, hR_rI, hR_rJ, hN_rI, hN_rJ, svH_63, svH_66, rfH_63, wvH_63, wvH_62, wvH_67, wvH_68, wvH_69, sc_63, sc_n62, sc_n67, sc_n68, sc_n69, sc_n70, reduceIte, Nat.reduceEqDiff, eq_self, up_up, up_self, up_ne, ne_eq, not_false_eq_true, Int.reduceEq, Int.reduceNeg] at h9; first | (exfalso; omega) | skip) | skip) | exact h1 | exact k2 | exact k3 _ _ _ _ _ (by assumption) (by assumption) (by assumption) | exact h1 | exact h1 (by omega) | exact h2 | exact h2 (by omega) | exact h3 | exact h3 (by omega) | omega | exact True.intro | (simp only [rI_rI, rJ_rJ, hI_rI, hJ_rI, hI_rJ, hJ_rJ, hR_rI, hR_rJ, hN_rI, hN_rJ, svH_63, svH_66, rfH_63, wvH_63, wvH_62, wvH_67, wvH_68, wvH_69, sc_63, sc_n62, sc_n67, sc_n68, sc_n69, sc_n70, reduceIte, Nat.reduceEqDiff, eq_self, up_up, up_self, up_ne, ne_eq, not_false_eq_true, Int.reduceEq, Int.reduceNeg]; omega))
theorem m_X10_gain : MM 258 s_X10_gain := mm_of (own := 9) (by rfl) k_X10_gain (cl := [(257, s_X10_best)]) ⟨m_X10_best, trivial⟩ o_X10_gain
def s_X10_bestWitness : CS := (zc 9, ap [(3, 62), (0, 0)] (fun v h Rt X =>
WF (hI h 63) ∧ FR (hI h 63) (hI h 62) (hI h 69) ∧ (¬ (0 ≤ v ∧ v < hI h 63 281) → Rt (some (.inl 0)) (rfH h 1)) ∧ (0 ≤ v ∧ v < hI h 63 281 → ∀ r F a b c, isB (mdl (hI h 63)) (gnA (hI h 63)) (tot (hI h 63)) r → Fm (up (hI h 62) 4 0) (gnR (hI h 63) r) F → FR (hI h 63) F c → Rt (some (.inl (wrd (hI h 63) r v))) (sc (rfH h 0) F a b c))))
set_option maxRecDepth 100000 in
set_option maxHeartbeats 4000000 in
theorem o_X10_bestWitness : Obl true 1 2 (sp [(200, s_X10_isVariable), (193, s_X10_need), (191, s_X10_refused), (257, s_X10_best), (239, s_X10_wordOf)]) [] code_X10_bestWitness s_X10_bestWitness := by
  refine obl0 (by rfl) ?_
  intro v r_v h Rt X hh hf hs
  obtain ⟨h1, h2, h3, h4⟩ := hs
  have k2 := h2.rf (x := 0)
  have vn := h1.vn
  have tt := tot_rng h1
  by_cases c : 0 ≤ v ∧ v < hI h 63 281
  · have i1 : ∀ r, isB (mdl (hI h 63)) (gnA (hI h 63)) (tot (hI h 63)) r → -1 ≤ r ∧ r ≤ 65536 := fun r hr => by
      have := isB_lo hr
      omega
    have k4 : ∀ r F a b d, isB (mdl (hI h 63)) (gnA (hI h 63)) (tot (hI h 63)) r → Fm (up (hI h 62) 4 0) (gnR (hI h 63) r) F → FR (hI h 63) F d → r = -1 → Rt (some (.inl (-1))) (sc (rfH h 0) F a b d) := fun r F a b d z1 z2 z3 z4 => by
      have := h4 c r F a b d z1 z2 z3
      unfold wrd at this
      rw [if_pos z4] at this
      exact this
    have k5 : ∀ r F a b d, isB (mdl (hI h 63)) (gnA (hI h 63)) (tot (hI h 63)) r → Fm (up (hI h 62) 4 0) (gnR (hI h 63) r) F → FR (hI h 63) F d → r ≠ -1 → Rt (some (.inl (asg (hI h 63) r v))) (sc (rfH h 0) F a b d) := fun r F a b d z1 z2 z3 z4 => by
      have := h4 c r F a b d z1 z2 z3
      unfold wrd at this
      rw [if_neg z4] at this
      exact this
    repeat' (first | apply And.intro | (with_reducible assumption) | (intro h9; first | (exfalso; omega) | (simp only [rI_rI, rJ_rJ, hI_rI, hJ_rI, hI_rJ, hJ_rJ, hR_rI, hR_rJ, hN_rI, hN_rJ, svH_63, svH_66, rfH_63, wvH_63, wvH_62, wvH_67, wvH_68, wvH_69, sc_63, sc_n62, sc_n67, sc_n68, sc_n69, sc_n70, reduceIte, Nat.reduceEqDiff, eq_self, up_up, up_self, up_ne, ne_eq, not_false_eq_true, Int.reduceEq, Int.reduceNeg] at h9; first | (exfalso; omega) | skip) | skip) | exact h1 | exact k2 | exact (i1 _ (by assumption)).1 | exact (i1 _ (by assumption)).2 | exact k4 _ _ _ _ _ (by assumption) (by assumption) (by assumption) (by omega) | exact rt_eq (Rt := Rt) (k5 _ _ _ _ _ (by assumption) (by assumption) (by assumption) (by omega)) rfl (sc_wv' _ _ _ _ _ _ _) | exact h1 | exact h1 (by omega) | exact h2 | exact h2 (by omega) | exact h3 | exact h3 (by omega) | exact h4 | exact h4 (by omega) | omega | exact True.intro | (simp only [rI_rI, rJ_rJ, hI_rI, hJ_rI, hI_rJ, hJ_rJ, hR_rI, hR_rJ, hN_rI, hN_rJ, svH_63, svH_66, rfH_63, wvH_63, wvH_62, wvH_67, wvH_68, wvH_69, sc_63, sc_n62, sc_n67, sc_n68, sc_n69, sc_n70, reduceIte, Nat.reduceEqDiff, eq_self, up_up, up_self, up_ne, ne_eq, not_false_eq_true, Int.reduceEq, Int.reduceNeg]; omega))
  · repeat' (first | apply And.intro | (with_reducible assumption) | (intro h9; first | (exfalso; omega) | (simp only [rI_rI, rJ_rJ, hI_rI, hJ_rI, hI_rJ, hJ_rJ, hR_rI, hR_rJ, hN_rI, hN_rJ, svH_63, svH_66, rfH_63, wvH_63, wvH_62, wvH_67, wvH_68, wvH_69, sc_63, sc_n62, sc_n67, sc_n68, sc_n69, sc_n70, reduceIte, Nat.reduceEqDiff, eq_self, up_up, up_self, up_ne, ne_eq, not_false_eq_true, Int.reduceEq, Int.reduceNeg] at h9; first | (exfalso; omega) | skip) | skip) | exact h3 c | exact h1 | exact h1 (by omega) | exact h2 | exact h2 (by omega) | exact h3 | exact h3 (by omega) | exact h4 | exact h4 (by omega) | omega | exact True.intro | (simp only [rI_rI, rJ_rJ, hI_rI, hJ_rI, hI_rJ, hJ_rJ, hR_rI, hR_rJ, hN_rI, hN_rJ, svH_63, svH_66, rfH_63, wvH_63, wvH_62, wvH_67, wvH_68, wvH_69, sc_63, sc_n62, sc_n67, sc_n68, sc_n69, sc_n70, reduceIte, Nat.reduceEqDiff, eq_self, up_up, up_self, up_ne, ne_eq, not_false_eq_true, Int.reduceEq, Int.reduceNeg]; omega))
theorem m_X10_bestWitness : MM 259 s_X10_bestWitness := mm_of (own := 9) (by rfl) k_X10_bestWitness (cl := [(200, s_X10_isVariable), (193, s_X10_need), (191, s_X10_refused), (257, s_X10_best), (239, s_X10_wordOf)]) ⟨m_X10_isVariable, m_X10_need, m_X10_refused, m_X10_best, m_X10_wordOf, trivial⟩ o_X10_bestWitness

/-! ===== the reference: values, differences, conflicts, the best ===== -/
def smF (f : Int → Int) : Nat → Int
  | 0 => 0
  | k + 1 => smF f k + f (k : Int)
theorem smF_s (f : Int → Int) (k : Nat) : smF f (k + 1) = smF f k + f (k : Int) := rfl
theorem smF_i (f : Int → Int) {i : Int} (h : 0 ≤ i) : smF f (i + 1).toNat = smF f i.toNat + f i := by
  rw [show (i + 1).toNat = i.toNat + 1 by omega, smF_s, show ((i.toNat : Nat) : Int) = i by omega]
theorem sc_r70 (h : Hp) (x : Int) (f F a b c : Int → Int) : sc (rI (rfH h x) 70 f) F a b c = sc (rI h 70 f) F a b c := by
  unfold sc rI rfH rI
  congr 2
  funext q
  by_cases e1 : q = 62
  · simp [e1]
  · by_cases e2 : q = 70
    · simp [e2]
    · simp [e1, e2]
theorem Mets.b01 {w f : Int → Int} {n m : Int} (h : Mets w n f m) {i : Int} (h0 : 0 ≤ i) (h1 : i < 256) : f i = 0 ∨ f i = 1 := by
  rcases h.o i h0 h1 with a | a
  · exact Or.inl a.1
  · exact Or.inr a.1
def s_X10_values : CS := (zc 9, ap [(3, 62), (0, 0), (0, 0)] (fun n l h Rt X =>
WF (hI h 63) ∧ FR (hI h 63) (hI h 62) (hI h 69) ∧ (¬ (0 ≤ n ∧ n < hI h 63 0) → Rt (some (.inl 0)) (rfH h 1)) ∧ (0 ≤ n ∧ n < hI h 63 0 → ¬ (1 ≤ l ∧ l ≤ 200) → Rt (some (.inl 0)) (rfH h 2)) ∧
(0 ≤ n ∧ n < hI h 63 0 → 1 ≤ l ∧ l ≤ 200 → ∀ f F a b c, Mets (hI h 63) n f (tot (hI h 63)) → Fz (up (hI h 62) 4 0) F → FR (hI h 63) F c → Rt (some (.inl (if smF f 256 < l then smF f 256 else l))) (sc (rI (rfH h 0) 70 f) F a b c))))
set_option maxRecDepth 100000 in
set_option maxHeartbeats 4000000 in
theorem o_X10_values : Obl true 1 5 (sp [(199, s_X10_isNode), (192, s_X10_within), (191, s_X10_refused), (247, s_X10_laysMet)]) [] code_X10_values s_X10_values := by
  refine oblL (by rfl) [(47, [0, 2, 3, 4])] ?_
  intro n r_n l r_l h Rt X hh hf hs
  obtain ⟨h1, h2, h3, h5, h4⟩ := hs
  have nn := h1.nn
  have k2 := h2.rf (x := 0)
  refine ⟨fun k pc vs q => ∃ (x i : Int) (f F a b c : Int → Int), q = sc (rI (rfH h 0) 70 f) F a b c ∧ vs = [.inr (.inr (some 62)), .inl l, .inl x, .inl i] ∧ Fz (up (hI h 62) 4 0) F ∧ FR (hI h 63) F c ∧ Mets (hI h 63) n f (tot (hI h 63)) ∧ 0 ≤ i ∧ i ≤ 256 ∧ x = smF f i.toNat ∧ 0 ≤ x ∧ x ≤ i ∧ (0 ≤ n ∧ n < hI h 63 0) ∧ (1 ≤ l ∧ l ≤ 200) ∧ k = (256 - i).toNat, ?_, ?_⟩
  · repeat' (first | apply And.intro | (with_reducible assumption) | (intro h9; first | (exfalso; omega) | (simp only [rI_rI, rJ_rJ, hI_rI, hJ_rI, hI_rJ, hJ_rJ, hR_rI, hR_rJ, hN_rI, hN_rJ, svH_63, svH_66, rfH_63, wvH_63, wvH_62, wvH_67, wvH_68, wvH_69, sc_63, sc_n62, sc_n67, sc_n68, sc_n69, sc_n70, reduceIte, Nat.reduceEqDiff, eq_self, up_up, up_self, up_ne, ne_eq, not_false_eq_true, Int.reduceEq, Int.reduceNeg] at h9; first | (exfalso; omega) | skip) | skip) | exact h1 | exact k2 | exact h3 (by omega) | exact h5 (by omega) (by omega) | exact Exists.intro _ ⟨0, 0, _, _, _, _, _, rfl, rfl, by assumption, by assumption, by assumption, by omega, by omega, rfl, by omega, by omega, by omega, by omega, rfl⟩ | exact h1 | exact h1 (by omega) | exact h2 | exact h2 (by omega) | exact h3 | exact h3 (by omega) | exact h5 | exact h5 (by omega) | exact h4 | exact h4 (by omega) | omega | exact True.intro | (simp only [rI_rI, rJ_rJ, hI_rI, hJ_rI, hI_rJ, hJ_rJ, hR_rI, hR_rJ, hN_rI, hN_rJ, svH_63, svH_66, rfH_63, wvH_63, wvH_62, wvH_67, wvH_68, wvH_69, sc_63, sc_n62, sc_n67, sc_n68, sc_n69, sc_n70, reduceIte, Nat.reduceEqDiff, eq_self, up_up, up_self, up_ne, ne_eq, not_false_eq_true, Int.reduceEq, Int.reduceNeg]; omega))
  · rintro k pc live vs q hl ⟨x, i, f, F, a, b, c, rfl, rfl, i1, i2, i3, i4, i5, rfl, i6, i7, i8, i9, rfl⟩ hv hh1 hf1
    obtain ⟨rfl, rfl⟩ := look1 hl
    by_cases z : i < 256
    · have e := i3.b01 i4 z
      have e2 := smF_i f i4
      have e3 : hI (sc (rI (rfH h 0) 70 f) F a b c) 70 i = f i := rfl
      repeat' (first | apply And.intro | (with_reducible assumption) | (intro h9; first | (exfalso; omega) | (simp only [rI_rI, rJ_rJ, hI_rI, hJ_rI, hI_rJ, hJ_rJ, hR_rI, hR_rJ, hN_rI, hN_rJ, svH_63, svH_66, rfH_63, wvH_63, wvH_62, wvH_67, wvH_68, wvH_69, sc_63, sc_n62, sc_n67, sc_n68, sc_n69, sc_n70, reduceIte, Nat.reduceEqDiff, eq_self, up_up, up_self, up_ne, ne_eq, not_false_eq_true, Int.reduceEq, Int.reduceNeg] at h9; first | (exfalso; omega) | skip) | skip) | exact Exists.intro _ ⟨by omega, _, i + 1, f, F, a, b, c, rfl, rfl, i1, i2, i3, by omega, by omega, e2.symm, by omega, by omega, i8, i9, rfl⟩ | exact h1 | exact h1 (by omega) | exact h2 | exact h2 (by omega) | exact h3 | exact h3 (by omega) | exact h5 | exact h5 (by omega) | exact h4 | exact h4 (by omega) | omega | exact True.intro | (simp only [rI_rI, rJ_rJ, hI_rI, hJ_rI, hI_rJ, hJ_rJ, hR_rI, hR_rJ, hN_rI, hN_rJ, svH_63, svH_66, rfH_63, wvH_63, wvH_62, wvH_67, wvH_68, wvH_69, sc_63, sc_n62, sc_n67, sc_n68, sc_n69, sc_n70, reduceIte, Nat.reduceEqDiff, eq_self, up_up, up_self, up_ne, ne_eq, not_false_eq_true, Int.reduceEq, Int.reduceNeg]; omega))
    · obtain rfl : i = 256 := by omega
      have k4 := h4 i8 i9 f F a b c i3 i1 i2
      have e : smF f (256 : Int).toNat = smF f 256 := rfl
      rw [← e] at k4
      by_cases y : smF f (256 : Int).toNat < l
      · rw [if_pos y] at k4
        repeat' (first | apply And.intro | (with_reducible assumption) | (intro h9; first | (exfalso; omega) | (simp only [rI_rI, rJ_rJ, hI_rI, hJ_rI, hI_rJ, hJ_rJ, hR_rI, hR_rJ, hN_rI, hN_rJ, svH_63, svH_66, rfH_63, wvH_63, wvH_62, wvH_67, wvH_68, wvH_69, sc_63, sc_n62, sc_n67, sc_n68, sc_n69, sc_n70, reduceIte, Nat.reduceEqDiff, eq_self, up_up, up_self, up_ne, ne_eq, not_false_eq_true, Int.reduceEq, Int.reduceNeg] at h9; first | (exfalso; omega) | skip) | skip) | exact k4 | exact h1 | exact h1 (by omega) | exact h2 | exact h2 (by omega) | exact h3 | exact h3 (by omega) | exact h5 | exact h5 (by omega) | exact h4 | exact h4 (by omega) | omega | exact True.intro | (simp only [rI_rI, rJ_rJ, hI_rI, hJ_rI, hI_rJ, hJ_rJ, hR_rI, hR_rJ, hN_rI, hN_rJ, svH_63, svH_66, rfH_63, wvH_63, wvH_62, wvH_67, wvH_68, wvH_69, sc_63, sc_n62, sc_n67, sc_n68, sc_n69, sc_n70, reduceIte, Nat.reduceEqDiff, eq_self, up_up, up_self, up_ne, ne_eq, not_false_eq_true, Int.reduceEq, Int.reduceNeg]; omega))
      · rw [if_neg y] at k4
        repeat' (first | apply And.intro | (with_reducible assumption) | (intro h9; first | (exfalso; omega) | (simp only [rI_rI, rJ_rJ, hI_rI, hJ_rI, hI_rJ, hJ_rJ, hR_rI, hR_rJ, hN_rI, hN_rJ, svH_63, svH_66, rfH_63, wvH_63, wvH_62, wvH_67, wvH_68, wvH_69, sc_63, sc_n62, sc_n67, sc_n68, sc_n69, sc_n70, reduceIte, Nat.reduceEqDiff, eq_self, up_up, up_self, up_ne, ne_eq, not_false_eq_true, Int.reduceEq, Int.reduceNeg] at h9; first | (exfalso; omega) | skip) | skip) | exact k4 | exact h1 | exact h1 (by omega) | exact h2 | exact h2 (by omega) | exact h3 | exact h3 (by omega) | exact h5 | exact h5 (by omega) | exact h4 | exact h4 (by omega) | omega | exact True.intro | (simp only [rI_rI, rJ_rJ, hI_rI, hJ_rI, hI_rJ, hJ_rJ, hR_rI, hR_rJ, hN_rI, hN_rJ, svH_63, svH_66, rfH_63, wvH_63, wvH_62, wvH_67, wvH_68, wvH_69, sc_63, sc_n62, sc_n67, sc_n68, sc_n69, sc_n70, reduceIte, Nat.reduceEqDiff, eq_self, up_up, up_self, up_ne, ne_eq, not_false_eq_true, Int.reduceEq, Int.reduceNeg]; omega))
/-- the k-th value that is met -/
def kth (f : Int → Int) (k : Int) : Int := if 0 ≤ k ∧ k ≤ 199 then fst (fun v => decide (f v = 1 ∧ smF f v.toNat = k)) 256 else -1
theorem m_X10_values : MM 248 s_X10_values := mm_of (own := 9) (by rfl) k_X10_values (cl := [(199, s_X10_isNode), (192, s_X10_within), (191, s_X10_refused), (247, s_X10_laysMet)]) ⟨m_X10_isNode, m_X10_within, m_X10_refused, m_X10_laysMet, trivial⟩ o_X10_values
def s_X10_valueAt : CS := (zc 9, ap [(3, 62), (0, 0), (0, 0)] (fun n k h Rt X =>
WF (hI h 63) ∧ FR (hI h 63) (hI h 62) (hI h 69) ∧ (¬ (0 ≤ n ∧ n < hI h 63 0) → Rt (some (.inl 0)) (rfH h 1)) ∧
(0 ≤ n ∧ n < hI h 63 0 → ∀ f F a b c, Mets (hI h 63) n f (tot (hI h 63)) → Fz (up (hI h 62) 4 0) F → FR (hI h 63) F c → Rt (some (.inl (kth f k))) (sc (rI (rfH h 0) 70 f) F a b c))))
set_option maxRecDepth 100000 in
set_option maxHeartbeats 4000000 in
theorem o_X10_valueAt : Obl true 1 5 (sp [(199, s_X10_isNode), (193, s_X10_need), (191, s_X10_refused), (247, s_X10_laysMet), (192, s_X10_within)]) [] code_X10_valueAt s_X10_valueAt := by
  refine oblL (by rfl) [(28, [0, 2, 3, 4])] ?_
  intro n r_n k r_k h Rt X hh hf hs
  obtain ⟨h1, h2, h3, h4⟩ := hs
  have nn := h1.nn
  have k2 := h2.rf (x := 0)
  refine ⟨fun m pc vs q => ∃ (x i : Int) (f F a b c : Int → Int), q = sc (rI (rfH h 0) 70 f) F a b c ∧ vs = [.inr (.inr (some 62)), .inl k, .inl x, .inl i] ∧ Fz (up (hI h 62) 4 0) F ∧ FR (hI h 63) F c ∧ Mets (hI h 63) n f (tot (hI h 63)) ∧ 0 ≤ i ∧ i ≤ 256 ∧ x = smF f i.toNat ∧ 0 ≤ x ∧ x ≤ i ∧ (0 ≤ n ∧ n < hI h 63 0) ∧ fst (fun v => decide (f v = 1 ∧ smF f v.toNat = k)) i.toNat = -1 ∧ m = (256 - i).toNat, ?_, ?_⟩
  · repeat' (first | apply And.intro | (with_reducible assumption) | (intro h9; first | (exfalso; omega) | (simp only [rI_rI, rJ_rJ, hI_rI, hJ_rI, hI_rJ, hJ_rJ, hR_rI, hR_rJ, hN_rI, hN_rJ, svH_63, svH_66, rfH_63, wvH_63, wvH_62, wvH_67, wvH_68, wvH_69, sc_63, sc_n62, sc_n67, sc_n68, sc_n69, sc_n70, reduceIte, Nat.reduceEqDiff, eq_self, up_up, up_self, up_ne, ne_eq, not_false_eq_true, Int.reduceEq, Int.reduceNeg] at h9; first | (exfalso; omega) | skip) | skip) | exact h1 | exact k2 | exact h3 (by omega) | exact Exists.intro _ ⟨0, 0, _, _, _, _, _, rfl, rfl, by assumption, by assumption, by assumption, by omega, by omega, rfl, by omega, by omega, by omega, rfl, rfl⟩ | exact h1 | exact h1 (by omega) | exact h2 | exact h2 (by omega) | exact h3 | exact h3 (by omega) | exact h4 | exact h4 (by omega) | omega | exact True.intro | (simp only [rI_rI, rJ_rJ, hI_rI, hJ_rI, hI_rJ, hJ_rJ, hR_rI, hR_rJ, hN_rI, hN_rJ, svH_63, svH_66, rfH_63, wvH_63, wvH_62, wvH_67, wvH_68, wvH_69, sc_63, sc_n62, sc_n67, sc_n68, sc_n69, sc_n70, reduceIte, Nat.reduceEqDiff, eq_self, up_up, up_self, up_ne, ne_eq, not_false_eq_true, Int.reduceEq, Int.reduceNeg]; omega))
  · rintro m pc live vs q hl ⟨x, i, f, F, a, b, c, rfl, rfl, i1, i2, i3, i4, i5, rfl, i6, i7, i8, i9, rfl⟩ hv hh1 hf1
    obtain ⟨rfl, rfl⟩ := look1 hl
    have k4 := h4 i8 f F a b c i3 i1 i2
    unfold kth at k4
    by_cases y : 0 ≤ k ∧ k ≤ 199
    · rw [if_pos y] at k4
      by_cases z : i < 256
      · have e := i3.b01 i4 z
        have e2 := smF_i f i4
        have e3 : hI (sc (rI (rfH h 0) 70 f) F a b c) 70 i = f i := rfl
        have r1 : f i = 1 → smF f i.toNat = k → Rt (some (.inl i)) (sc (rI (rfH h 0) 70 f) F a b c) := fun z1 z2 => by
          have e4 : fst (fun v => decide (f v = 1 ∧ smF f v.toNat = k)) 256 = i := fst_hit (N := 256) i4 (by omega) i9 (decide_eq_true ⟨z1, z2⟩)
          rw [e4] at k4
          exact k4
        have r2 : ¬ (f i = 1 ∧ smF f i.toNat = k) → fst (fun v => decide (f v = 1 ∧ smF f v.toNat = k)) (i + 1).toNat = -1 := fun z1 => fst_miss i4 i9 (decide_eq_false z1)
        repeat' (first | apply And.intro | (with_reducible assumption) | (intro h9; first | (exfalso; omega) | (simp only [rI_rI, rJ_rJ, hI_rI, hJ_rI, hI_rJ, hJ_rJ, hR_rI, hR_rJ, hN_rI, hN_rJ, svH_63, svH_66, rfH_63, wvH_63, wvH_62, wvH_67, wvH_68, wvH_69, sc_63, sc_n62, sc_n67, sc_n68, sc_n69, sc_n70, reduceIte, Nat.reduceEqDiff, eq_self, up_up, up_self, up_ne, ne_eq, not_false_eq_true, Int.reduceEq, Int.reduceNeg] at h9; first | (exfalso; omega) | skip) | skip) | exact r1 (by omega) (by omega) | exact Exists.intro _ ⟨by omega, _, i + 1, f, F, a, b, c, rfl, rfl, i1, i2, i3, by omega, by omega, (by first | omega | (rw [e2]; omega)), by omega, by omega, i8, r2 (by omega), rfl⟩ | exact h1 | exact h1 (by omega) | exact h2 | exact h2 (by omega) | exact h3 | exact h3 (by omega) | exact h4 | exact h4 (by omega) | omega | exact True.intro | (simp only [rI_rI, rJ_rJ, hI_rI, hJ_rI, hI_rJ, hJ_rJ, hR_rI, hR_rJ, hN_rI, hN_rJ, svH_63, svH_66, rfH_63, wvH_63, wvH_62, wvH_67, wvH_68, wvH_69, sc_63, sc_n62, sc_n67, sc_n68, sc_n69, sc_n70, reduceIte, Nat.reduceEqDiff, eq_self, up_up, up_self, up_ne, ne_eq, not_false_eq_true, Int.reduceEq, Int.reduceNeg]; omega))
      · obtain rfl : i = 256 := by omega
        have e : fst (fun v => decide (f v = 1 ∧ smF f v.toNat = k)) 256 = -1 := i9
        rw [e] at k4
        repeat' (first | apply And.intro | (with_reducible assumption) | (intro h9; first | (exfalso; omega) | (simp only [rI_rI, rJ_rJ, hI_rI, hJ_rI, hI_rJ, hJ_rJ, hR_rI, hR_rJ, hN_rI, hN_rJ, svH_63, svH_66, rfH_63, wvH_63, wvH_62, wvH_67, wvH_68, wvH_69, sc_63, sc_n62, sc_n67, sc_n68, sc_n69, sc_n70, reduceIte, Nat.reduceEqDiff, eq_self, up_up, up_self, up_ne, ne_eq, not_false_eq_true, Int.reduceEq, Int.reduceNeg] at h9; first | (exfalso; omega) | skip) | skip) | exact k4 | exact h1 | exact h1 (by omega) | exact h2 | exact h2 (by omega) | exact h3 | exact h3 (by omega) | exact h4 | exact h4 (by omega) | omega | exact True.intro | (simp only [rI_rI, rJ_rJ, hI_rI, hJ_rI, hI_rJ, hJ_rJ, hR_rI, hR_rJ, hN_rI, hN_rJ, svH_63, svH_66, rfH_63, wvH_63, wvH_62, wvH_67, wvH_68, wvH_69, sc_63, sc_n62, sc_n67, sc_n68, sc_n69, sc_n70, reduceIte, Nat.reduceEqDiff, eq_self, up_up, up_self, up_ne, ne_eq, not_false_eq_true, Int.reduceEq, Int.reduceNeg]; omega))
    · rw [if_neg y] at k4
      repeat' (first | apply And.intro | (with_reducible assumption) | (intro h9; first | (exfalso; omega) | (simp only [rI_rI, rJ_rJ, hI_rI, hJ_rI, hI_rJ, hJ_rJ, hR_rI, hR_rJ, hN_rI, hN_rJ, svH_63, svH_66, rfH_63, wvH_63, wvH_62, wvH_67, wvH_68, wvH_69, sc_63, sc_n62, sc_n67, sc_n68, sc_n69, sc_n70, reduceIte, Nat.reduceEqDiff, eq_self, up_up, up_self, up_ne, ne_eq, not_false_eq_true, Int.reduceEq, Int.reduceNeg] at h9; first | (exfalso; omega) | skip) | skip) | exact k4 | exact h1 | exact h1 (by omega) | exact h2 | exact h2 (by omega) | exact h3 | exact h3 (by omega) | exact h4 | exact h4 (by omega) | omega | exact True.intro | (simp only [rI_rI, rJ_rJ, hI_rI, hJ_rI, hI_rJ, hJ_rJ, hR_rI, hR_rJ, hN_rI, hN_rJ, svH_63, svH_66, rfH_63, wvH_63, wvH_62, wvH_67, wvH_68, wvH_69, sc_63, sc_n62, sc_n67, sc_n68, sc_n69, sc_n70, reduceIte, Nat.reduceEqDiff, eq_self, up_up, up_self, up_ne, ne_eq, not_false_eq_true, Int.reduceEq, Int.reduceNeg]; omega))
/-- the first model in which two nodes differ -/
def dfM (w : Int → Int) (a b : Int) : Int := fst (fun N => mdl w N && decide (vl w (asg w N) a ≠ vl w (asg w N) b)) (tot w).toNat
theorem df_none {w : Int → Int} {a b : Int} (h : ∀ N, 0 ≤ N → N < tot w → mdl w N = true → vl w (asg w N) a = vl w (asg w N) b) : dfM w a b = -1 := by
  refine fst_none.mpr fun j hj => ?_
  cases e : mdl w (j : Int) with
  | false => simp [e]
  | true => simp [e, h j (by omega) (by omega) e]
theorem df_hit {w : Int → Int} {a b N : Int} (h0 : 0 ≤ N) (h1 : N < tot w) (hp : mdl w N = true) (hd : vl w (asg w N) a ≠ vl w (asg w N) b) (h : ∀ M, 0 ≤ M → M < N → mdl w M = true → vl w (asg w M) a = vl w (asg w M) b) : dfM w a b = N := by
  refine fst_hit h0 h1 (fst_none.mpr fun j hj => ?_) (by simp [hp, hd])
  cases e : mdl w (j : Int) with
  | false => simp [e]
  | true => simp [e, h j (by omega) (by omega) e]
theorem df_lt {w : Int → Int} (h : WF w) (a b : Int) : -1 ≤ dfM w a b ∧ dfM w a b < tot w := by
  have := tot_rng h
  by_cases e : dfM w a b = -1
  · omega
  · have := fst_some (P := fun N => mdl w N && decide (vl w (asg w N) a ≠ vl w (asg w N) b)) e
    have e2 : fst (fun N => mdl w N && decide (vl w (asg w N) a ≠ vl w (asg w N) b)) (tot w).toNat = dfM w a b := rfl
    rw [e2] at this
    omega
/-- no model below m in which they differ -/
def eqB (w : Int → Int) (a b m : Int) : Prop := Box (∀ N, 0 ≤ N → N < m → mdl w N = true → vl w (asg w N) a = vl w (asg w N) b)
theorem eqB.go {w : Int → Int} {a b m m' : Int} (h : eqB w a b m) (hn : ∀ N, 0 ≤ N → m ≤ N → N < m' → mdl w N = false) : eqB w a b m' := by
  refine Box.i fun N h0 h1 h2 => ?_
  by_cases e : N < m
  · exact h.o N h0 e h2
  · rw [hn N h0 (by omega) h1] at h2
    cases h2
theorem eqB.st {w f : Int → Int} {a b N : Int} (h : eqB w a b N) (a0 : 0 ≤ a) (a1 : a < w 0) (b0 : 0 ≤ b) (b1 : b < w 0) (hf : Vls w (asg w N) f) (e : f a = f b) : eqB w a b (N + 1) := by
  refine Box.i fun M h0 h1 h2 => ?_
  by_cases q : M = N
  · subst q
    rw [← hf.o a a0 a1, ← hf.o b b0 b1]; exact e
  · exact h.o M h0 (by omega) h2
theorem eqB.hit {w f : Int → Int} {a b N : Int} (h : eqB w a b N) (h0 : 0 ≤ N) (h1 : N < tot w) (hp : mdl w N = true) (a0 : 0 ≤ a) (a1 : a < w 0) (b0 : 0 ≤ b) (b1 : b < w 0) (hf : Vls w (asg w N) f) (e : f a ≠ f b) : dfM w a b = N := by
  refine df_hit h0 h1 hp ?_ fun M c d g => h.o M c d g
  rw [← hf.o a a0 a1, ← hf.o b b0 b1]; exact e
theorem m_X10_valueAt : MM 249 s_X10_valueAt := mm_of (own := 9) (by rfl) k_X10_valueAt (cl := [(199, s_X10_isNode), (193, s_X10_need), (191, s_X10_refused), (247, s_X10_laysMet), (192, s_X10_within)]) ⟨m_X10_isNode, m_X10_need, m_X10_refused, m_X10_laysMet, m_X10_within, trivial⟩ o_X10_valueAt
def s_X10_differing : CS := (zc 8, ap [(3, 62), (0, 0), (0, 0)] (fun p q h Rt X =>
(0 ≤ p ∧ p < hI h 63 0 ∧ 0 ≤ q ∧ q < hI h 63 0) ∧ WF (hI h 63) ∧ FR (hI h 63) (hI h 62) (hI h 69) ∧ ∀ F a b c, Fz (hI h 62) F → FR (hI h 63) F c → Rt (some (.inl (dfM (hI h 63) p q))) (sc h F a b c)))
set_option maxRecDepth 100000 in
set_option maxHeartbeats 4000000 in
theorem o_X10_differing : Obl true 1 4 (sp [(238, s_X10_model), (230, s_X10_laysAssignment)]) [] code_X10_differing s_X10_differing := by
  refine oblL (by rfl) [(6, [0, 1, 2, 3])] ?_
  intro p r_p q r_q h Rt X hh hf hs
  obtain ⟨⟨a1, a2, a3, a4⟩, h1, h2, h3⟩ := hs
  have nn := h1.nn
  have tt := tot_rng h1
  have n0 := nxt_lt h1 0
  refine ⟨fun k pc vs g => ∃ (N m : Int) (F a b c : Int → Int), g = sc h F a b c ∧ vs = [.inr (.inr (some 62)), .inl p, .inl q, .inl N] ∧ Fz (hI h 62) F ∧ FR (hI h 63) F c ∧ atM (hI h 63) m N ∧ m ≤ tot (hI h 63) ∧ eqB (hI h 63) p q m ∧ k = meas (hI h 63) N, ?_, ?_⟩
  · repeat' (first | apply And.intro | (with_reducible assumption) | (intro h9; first | (exfalso; omega) | (simp only [rI_rI, rJ_rJ, hI_rI, hJ_rI, hI_rJ, hJ_rJ, hR_rI, hR_rJ, hN_rI, hN_rJ, svH_63, svH_66, rfH_63, wvH_63, wvH_62, wvH_67, wvH_68, wvH_69, sc_63, sc_n62, sc_n67, sc_n68, sc_n69, sc_n70, reduceIte, Nat.reduceEqDiff, eq_self, up_up, up_self, up_ne, ne_eq, not_false_eq_true, Int.reduceEq, Int.reduceNeg] at h9; first | (exfalso; omega) | skip) | skip) | exact h1 | exact h2 | exact Exists.intro _ ⟨_, 0, _, _, _, _, rfl, rfl, by assumption, by assumption, Box.i ⟨rfl, by omega, by omega⟩, by omega, Box.i (fun N c d => by omega), rfl⟩ | exact h1 | exact h1 (by omega) | exact h2 | exact h2 (by omega) | exact h3 | exact h3 (by omega) | omega | exact True.intro | (simp only [rI_rI, rJ_rJ, hI_rI, hJ_rI, hI_rJ, hJ_rJ, hR_rI, hR_rJ, hN_rI, hN_rJ, svH_63, svH_66, rfH_63, wvH_63, wvH_62, wvH_67, wvH_68, wvH_69, sc_63, sc_n62, sc_n67, sc_n68, sc_n69, sc_n70, reduceIte, Nat.reduceEqDiff, eq_self, up_up, up_self, up_ne, ne_eq, not_false_eq_true, Int.reduceEq, Int.reduceNeg]; omega))
  · rintro k pc live vs g hl ⟨N, m, F, a, b, c, rfl, rfl, i1, i2, i3, i6, i4, rfl⟩ hv hh1 hf1
    obtain ⟨rfl, rfl⟩ := look1 hl
    by_cases z : N = -1
    · have r3 := h3 F a b c i1 i2
      rw [df_none fun M z1 z2 z3 => (i4.go fun N a b c => i3.end z N a b c).o M z1 z2 z3] at r3
      repeat' (first | apply And.intro | (with_reducible assumption) | (intro h9; first | (exfalso; omega) | (simp only [rI_rI, rJ_rJ, hI_rI, hJ_rI, hI_rJ, hJ_rJ, hR_rI, hR_rJ, hN_rI, hN_rJ, svH_63, svH_66, rfH_63, wvH_63, wvH_62, wvH_67, wvH_68, wvH_69, sc_63, sc_n62, sc_n67, sc_n68, sc_n69, sc_n70, reduceIte, Nat.reduceEqDiff, eq_self, up_up, up_self, up_ne, ne_eq, not_false_eq_true, Int.reduceEq, Int.reduceNeg] at h9; first | (exfalso; omega) | skip) | skip) | exact r3 | exact h1 | exact h1 (by omega) | exact h2 | exact h2 (by omega) | exact h3 | exact h3 (by omega) | omega | exact True.intro | (simp only [rI_rI, rJ_rJ, hI_rI, hJ_rI, hI_rJ, hJ_rJ, hR_rI, hR_rJ, hN_rI, hN_rJ, svH_63, svH_66, rfH_63, wvH_63, wvH_62, wvH_67, wvH_68, wvH_69, sc_63, sc_n62, sc_n67, sc_n68, sc_n69, sc_n70, reduceIte, Nat.reduceEqDiff, eq_self, up_up, up_self, up_ne, ne_eq, not_false_eq_true, Int.reduceEq, Int.reduceNeg]; omega))
    · obtain ⟨q1, q2, q3, q4, q5⟩ := i3.at z
      have q6 := i4.go fun N a b c => q5 N a b c
      have q7 := i3.nx h1 z
      have q8 := meas_dn q1 q3
      have e1 : ∀ a b f, Vls (hI h 63) (asg (hI h 63) N) f → f p ≠ f q → Rt (some (.inl N)) (sc h F a b c) := fun a b f hf e => by
        have := h3 F a b c i1 i2
        rw [q6.hit q1 q3 q4 a1 a2 a3 a4 hf e] at this
        exact this
      repeat' (first | apply And.intro | (with_reducible assumption) | (intro h9; first | (exfalso; omega) | (simp only [rI_rI, rJ_rJ, hI_rI, hJ_rI, hI_rJ, hJ_rJ, hR_rI, hR_rJ, hN_rI, hN_rJ, svH_63, svH_66, rfH_63, wvH_63, wvH_62, wvH_67, wvH_68, wvH_69, sc_63, sc_n62, sc_n67, sc_n68, sc_n69, sc_n70, reduceIte, Nat.reduceEqDiff, eq_self, up_up, up_self, up_ne, ne_eq, not_false_eq_true, Int.reduceEq, Int.reduceNeg] at h9; first | (exfalso; omega) | skip) | skip) | exact h1 | exact i2 | exact rt_eq (Rt := Rt) (e1 _ _ _ (by assumption) (by omega)) rfl (sc_wv' _ _ _ _ _ _ _) | exact Exists.intro _ ⟨q8, _, N + 1, _, _, _, _, (by rw [sc_wv, sc_sc]), rfl, (by refine i1.tr ?_; assumption), (by assumption), q7, by omega, q6.st a1 a2 a3 a4 (by assumption) (by omega), rfl⟩ | exact h1 | exact h1 (by omega) | exact h2 | exact h2 (by omega) | exact h3 | exact h3 (by omega) | omega | exact True.intro | (simp only [rI_rI, rJ_rJ, hI_rI, hJ_rI, hI_rJ, hJ_rJ, hR_rI, hR_rJ, hN_rI, hN_rJ, svH_63, svH_66, rfH_63, wvH_63, wvH_62, wvH_67, wvH_68, wvH_69, sc_63, sc_n62, sc_n67, sc_n68, sc_n69, sc_n70, reduceIte, Nat.reduceEqDiff, eq_self, up_up, up_self, up_ne, ne_eq, not_false_eq_true, Int.reduceEq, Int.reduceNeg]; omega))
theorem m_X10_differing : MM 250 s_X10_differing := mm_of (own := 9) (by rfl) k_X10_differing (cl := [(238, s_X10_model), (230, s_X10_laysAssignment)]) ⟨m_X10_model, m_X10_laysAssignment, trivial⟩ o_X10_differing
def s_X10_equivalent : CS := (zc 9, ap [(3, 62), (0, 0), (0, 0)] (fun p q h Rt X =>
WF (hI h 63) ∧ FR (hI h 63) (hI h 62) (hI h 69) ∧ (¬ (0 ≤ p ∧ p < hI h 63 0 ∧ 0 ≤ q ∧ q < hI h 63 0) → Rt (some (.inl 0)) (rfH h 1)) ∧ (0 ≤ p ∧ p < hI h 63 0 ∧ 0 ≤ q ∧ q < hI h 63 0 → nd (hI h 63) p 1 ≠ nd (hI h 63) q 1 → Rt (some (.inl 0)) (rfH h 2)) ∧
(0 ≤ p ∧ p < hI h 63 0 ∧ 0 ≤ q ∧ q < hI h 63 0 → nd (hI h 63) p 1 = nd (hI h 63) q 1 → ∀ F a b c, Fz (up (hI h 62) 4 0) F → FR (hI h 63) F c → (dfM (hI h 63) p q = -1 → Rt (some (.inl 1)) (sc (rfH h 0) F a b c)) ∧ (dfM (hI h 63) p q ≠ -1 → Rt (some (.inl 0)) (sc (rfH h 0) F a b c)))))
set_option maxRecDepth 100000 in
set_option maxHeartbeats 4000000 in
theorem o_X10_equivalent : Obl true 2 4 (sp [(199, s_X10_isNode), (198, s_X10_width), (191, s_X10_refused), (250, s_X10_differing)]) [] code_X10_equivalent s_X10_equivalent := by
  refine obl0 (by rfl) ?_
  intro p r_p q r_q h Rt X hh hf hs
  obtain ⟨h1, h2, h3, h4, h5⟩ := hs
  have nn := h1.nn
  have k2 := h2.rf (x := 0)
  repeat' (first | apply And.intro | (with_reducible assumption) | (intro h9; first | (exfalso; omega) | (simp only [rI_rI, rJ_rJ, hI_rI, hJ_rI, hI_rJ, hJ_rJ, hR_rI, hR_rJ, hN_rI, hN_rJ, svH_63, svH_66, rfH_63, wvH_63, wvH_62, wvH_67, wvH_68, wvH_69, sc_63, sc_n62, sc_n67, sc_n68, sc_n69, sc_n70, reduceIte, Nat.reduceEqDiff, eq_self, up_up, up_self, up_ne, ne_eq, not_false_eq_true, Int.reduceEq, Int.reduceNeg] at h9; first | (exfalso; omega) | skip) | skip) | exact h1 | exact k2 | exact h3 (by omega) | exact h4 (by omega) (by omega) | exact (h5 (by omega) (by omega) _ _ _ _ (by assumption) (by assumption)).1 (by omega) | exact (h5 (by omega) (by omega) _ _ _ _ (by assumption) (by assumption)).2 (by omega) | exact h1 | exact h1 (by omega) | exact h2 | exact h2 (by omega) | exact h3 | exact h3 (by omega) | exact h4 | exact h4 (by omega) | exact h5 | exact h5 (by omega) | omega | exact True.intro | (simp only [rI_rI, rJ_rJ, hI_rI, hJ_rI, hI_rJ, hJ_rJ, hR_rI, hR_rJ, hN_rI, hN_rJ, svH_63, svH_66, rfH_63, wvH_63, wvH_62, wvH_67, wvH_68, wvH_69, sc_63, sc_n62, sc_n67, sc_n68, sc_n69, sc_n70, reduceIte, Nat.reduceEqDiff, eq_self, up_up, up_self, up_ne, ne_eq, not_false_eq_true, Int.reduceEq, Int.reduceNeg]; omega))
theorem m_X10_equivalent : MM 251 s_X10_equivalent := mm_of (own := 9) (by rfl) k_X10_equivalent (cl := [(199, s_X10_isNode), (198, s_X10_width), (191, s_X10_refused), (250, s_X10_differing)]) ⟨m_X10_isNode, m_X10_width, m_X10_refused, m_X10_differing, trivial⟩ o_X10_equivalent
def s_X10_counterexample : CS := (zc 9, ap [(3, 62), (0, 0), (0, 0), (0, 0)] (fun p q v h Rt X =>
WF (hI h 63) ∧ FR (hI h 63) (hI h 62) (hI h 69) ∧ (¬ (0 ≤ p ∧ p < hI h 63 0 ∧ 0 ≤ q ∧ q < hI h 63 0 ∧ 0 ≤ v ∧ v < hI h 63 281) → Rt (some (.inl 0)) (rfH h 1)) ∧ (0 ≤ p ∧ p < hI h 63 0 ∧ 0 ≤ q ∧ q < hI h 63 0 ∧ 0 ≤ v ∧ v < hI h 63 281 → nd (hI h 63) p 1 ≠ nd (hI h 63) q 1 → Rt (some (.inl 0)) (rfH h 2)) ∧
(0 ≤ p ∧ p < hI h 63 0 ∧ 0 ≤ q ∧ q < hI h 63 0 ∧ 0 ≤ v ∧ v < hI h 63 281 → nd (hI h 63) p 1 = nd (hI h 63) q 1 → ∀ F a b c, Fz (up (hI h 62) 4 0) F → FR (hI h 63) F c → Rt (some (.inl (wrd (hI h 63) (dfM (hI h 63) p q) v))) (sc (rfH h 0) F a b c))))
set_option maxRecDepth 100000 in
set_option maxHeartbeats 4000000 in
theorem o_X10_counterexample : Obl true 1 5 (sp [(199, s_X10_isNode), (200, s_X10_isVariable), (198, s_X10_width), (191, s_X10_refused), (250, s_X10_differing), (239, s_X10_wordOf)]) [] code_X10_counterexample s_X10_counterexample := by
  refine obl0 (by rfl) ?_
  intro p r_p q r_q v r_v h Rt X hh hf hs
  obtain ⟨h1, h2, h3, h4, h5⟩ := hs
  have nn := h1.nn
  have vn := h1.vn
  have tt := tot_rng h1
  have dd := df_lt h1 p q
  have k2 := h2.rf (x := 0)
  by_cases c : 0 ≤ p ∧ p < hI h 63 0 ∧ 0 ≤ q ∧ q < hI h 63 0 ∧ 0 ≤ v ∧ v < hI h 63 281
  · by_cases e : nd (hI h 63) p 1 = nd (hI h 63) q 1
    · have k4 := h5 c e
      unfold wrd at k4
      by_cases z : dfM (hI h 63) p q = -1
      · rw [if_pos z] at k4
        repeat' (first | apply And.intro | (with_reducible assumption) | (intro h9; first | (exfalso; omega) | (simp only [rI_rI, rJ_rJ, hI_rI, hJ_rI, hI_rJ, hJ_rJ, hR_rI, hR_rJ, hN_rI, hN_rJ, svH_63, svH_66, rfH_63, wvH_63, wvH_62, wvH_67, wvH_68, wvH_69, sc_63, sc_n62, sc_n67, sc_n68, sc_n69, sc_n70, reduceIte, Nat.reduceEqDiff, eq_self, up_up, up_self, up_ne, ne_eq, not_false_eq_true, Int.reduceEq, Int.reduceNeg] at h9; first | (exfalso; omega) | skip) | skip) | exact h1 | exact k2 | exact k4 _ _ _ _ (by assumption) (by assumption) | exact h1 | exact h1 (by omega) | exact h2 | exact h2 (by omega) | exact h3 | exact h3 (by omega) | exact h4 | exact h4 (by omega) | exact h5 | exact h5 (by omega) | omega | exact True.intro | (simp only [rI_rI, rJ_rJ, hI_rI, hJ_rI, hI_rJ, hJ_rJ, hR_rI, hR_rJ, hN_rI, hN_rJ, svH_63, svH_66, rfH_63, wvH_63, wvH_62, wvH_67, wvH_68, wvH_69, sc_63, sc_n62, sc_n67, sc_n68, sc_n69, sc_n70, reduceIte, Nat.reduceEqDiff, eq_self, up_up, up_self, up_ne, ne_eq, not_false_eq_true, Int.reduceEq, Int.reduceNeg]; omega))
      · rw [if_neg z] at k4
        repeat' (first | apply And.intro | (with_reducible assumption) | (intro h9; first | (exfalso; omega) | (simp only [rI_rI, rJ_rJ, hI_rI, hJ_rI, hI_rJ, hJ_rJ, hR_rI, hR_rJ, hN_rI, hN_rJ, svH_63, svH_66, rfH_63, wvH_63, wvH_62, wvH_67, wvH_68, wvH_69, sc_63, sc_n62, sc_n67, sc_n68, sc_n69, sc_n70, reduceIte, Nat.reduceEqDiff, eq_self, up_up, up_self, up_ne, ne_eq, not_false_eq_true, Int.reduceEq, Int.reduceNeg] at h9; first | (exfalso; omega) | skip) | skip) | exact h1 | exact k2 | exact rt_eq (Rt := Rt) (k4 _ _ _ _ (by assumption) (by assumption)) rfl (sc_wv' _ _ _ _ _ _ _) | exact h1 | exact h1 (by omega) | exact h2 | exact h2 (by omega) | exact h3 | exact h3 (by omega) | exact h4 | exact h4 (by omega) | exact h5 | exact h5 (by omega) | omega | exact True.intro | (simp only [rI_rI, rJ_rJ, hI_rI, hJ_rI, hI_rJ, hJ_rJ, hR_rI, hR_rJ, hN_rI, hN_rJ, svH_63, svH_66, rfH_63, wvH_63, wvH_62, wvH_67, wvH_68, wvH_69, sc_63, sc_n62, sc_n67, sc_n68, sc_n69, sc_n70, reduceIte, Nat.reduceEqDiff, eq_self, up_up, up_self, up_ne, ne_eq, not_false_eq_true, Int.reduceEq, Int.reduceNeg]; omega))
    · repeat' (first | apply And.intro | (with_reducible assumption) | (intro h9; first | (exfalso; omega) | (simp only [rI_rI, rJ_rJ, hI_rI, hJ_rI, hI_rJ, hJ_rJ, hR_rI, hR_rJ, hN_rI, hN_rJ, svH_63, svH_66, rfH_63, wvH_63, wvH_62, wvH_67, wvH_68, wvH_69, sc_63, sc_n62, sc_n67, sc_n68, sc_n69, sc_n70, reduceIte, Nat.reduceEqDiff, eq_self, up_up, up_self, up_ne, ne_eq, not_false_eq_true, Int.reduceEq, Int.reduceNeg] at h9; first | (exfalso; omega) | skip) | skip) | exact h4 c e | exact h1 | exact h1 (by omega) | exact h2 | exact h2 (by omega) | exact h3 | exact h3 (by omega) | exact h4 | exact h4 (by omega) | exact h5 | exact h5 (by omega) | omega | exact True.intro | (simp only [rI_rI, rJ_rJ, hI_rI, hJ_rI, hI_rJ, hJ_rJ, hR_rI, hR_rJ, hN_rI, hN_rJ, svH_63, svH_66, rfH_63, wvH_63, wvH_62, wvH_67, wvH_68, wvH_69, sc_63, sc_n62, sc_n67, sc_n68, sc_n69, sc_n70, reduceIte, Nat.reduceEqDiff, eq_self, up_up, up_self, up_ne, ne_eq, not_false_eq_true, Int.reduceEq, Int.reduceNeg]; omega))
  · repeat' (first | apply And.intro | (with_reducible assumption) | (intro h9; first | (exfalso; omega) | (simp only [rI_rI, rJ_rJ, hI_rI, hJ_rI, hI_rJ, hJ_rJ, hR_rI, hR_rJ, hN_rI, hN_rJ, svH_63, svH_66, rfH_63, wvH_63, wvH_62, wvH_67, wvH_68, wvH_69, sc_63, sc_n62, sc_n67, sc_n68, sc_n69, sc_n70, reduceIte, Nat.reduceEqDiff, eq_self, up_up, up_self, up_ne, ne_eq, not_false_eq_true, Int.reduceEq, Int.reduceNeg] at h9; first | (exfalso; omega) | skip) | skip) | exact h3 c | exact h1 | exact h1 (by omega) | exact h2 | exact h2 (by omega) | exact h3 | exact h3 (by omega) | exact h4 | exact h4 (by omega) | exact h5 | exact h5 (by omega) | omega | exact True.intro | (simp only [rI_rI, rJ_rJ, hI_rI, hJ_rI, hI_rJ, hJ_rJ, hR_rI, hR_rJ, hN_rI, hN_rJ, svH_63, svH_66, rfH_63, wvH_63, wvH_62, wvH_67, wvH_68, wvH_69, sc_63, sc_n62, sc_n67, sc_n68, sc_n69, sc_n70, reduceIte, Nat.reduceEqDiff, eq_self, up_up, up_self, up_ne, ne_eq, not_false_eq_true, Int.reduceEq, Int.reduceNeg]; omega))
theorem m_X10_counterexample : MM 252 s_X10_counterexample := mm_of (own := 9) (by rfl) k_X10_counterexample (cl := [(199, s_X10_isNode), (200, s_X10_isVariable), (198, s_X10_width), (191, s_X10_refused), (250, s_X10_differing), (239, s_X10_wordOf)]) ⟨m_X10_isNode, m_X10_isVariable, m_X10_width, m_X10_refused, m_X10_differing, m_X10_wordOf, trivial⟩ o_X10_counterexample

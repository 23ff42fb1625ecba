/-! ===== the reference: bits that are fixed, how many, differences, conflicts, the best ===== -/
/-- all bits that a node has in each model below k; those that it has in one of them -/
def fxA (w : Int → Int) (n : Int) : Nat → Int
  | 0 => p2 (nd w n 1) - 1
  | k + 1 => if mdl w k then bAnd (fxA w n k) (vl w (asg w k) n) else fxA w n k
def fxO (w : Int → Int) (n : Int) : Nat → Int
  | 0 => 0
  | k + 1 => if mdl w k then bOr (fxO w n k) (vl w (asg w k) n) else fxO w n k
theorem fxA_s (w : Int → Int) (n : Int) (k : Nat) : fxA w n (k + 1) = if mdl w k then bAnd (fxA w n k) (vl w (asg w k) n) else fxA w n k := rfl
theorem fxO_s (w : Int → Int) (n : Int) (k : Nat) : fxO w n (k + 1) = if mdl w k then bOr (fxO w n k) (vl w (asg w k) n) else fxO w n k := rfl
theorem fx_gap (w : Int → Int) (n : Int) {j : Nat} : ∀ k : Nat, j ≤ k → (∀ N : Int, (j : Int) ≤ N → N < k → mdl w N = false) → fxA w n k = fxA w n j ∧ fxO w n k = fxO w n j := by
  intro k
  induction k with
  | zero =>
    intro h _
    obtain rfl : j = 0 := by omega
    exact ⟨rfl, rfl⟩
  | succ k ih =>
    intro h hn
    by_cases e : j = k + 1
    · subst e; exact ⟨rfl, rfl⟩
    · have := ih (by omega) fun N a b => hn N a (by omega)
      rw [fxA_s, fxO_s, hn k (by omega) (by omega), this.1, this.2]
      exact ⟨rfl, rfl⟩
/-- the folds below m are these -/
def fxAt (w : Int → Int) (n m x y : Int) : Prop := Box (0 ≤ m ∧ x = fxA w n m.toNat ∧ y = fxO w n m.toNat)
theorem fxAt.go {w : Int → Int} {n m m' x y : Int} (h : fxAt w n m x y) (hm : m ≤ m') (hn : ∀ N, 0 ≤ N → m ≤ N → N < m' → mdl w N = false) : fxAt w n m' x y := by
  obtain ⟨h0, rfl, rfl⟩ := h.o
  obtain ⟨a, b⟩ := fx_gap w n (j := m.toNat) m'.toNat (by omega) fun N a b => hn N (by omega) (by omega) (by omega)
  exact Box.i ⟨by omega, a.symm, b.symm⟩
theorem fxAt.st {w f : Int → Int} {n N x y : Int} (h : fxAt w n N x y) (hp : mdl w N = true) (h0 : 0 ≤ n) (h1 : n < w 0) (hf : Vls w (asg w N) f) : fxAt w n (N + 1) (bAnd x (f n)) (bOr y (f n)) := by
  obtain ⟨q, rfl, rfl⟩ := h.o
  refine Box.i ⟨by omega, ?_, ?_⟩
  · rw [show (N + 1).toNat = N.toNat + 1 by omega, fxA_s, show ((N.toNat : Nat) : Int) = N by omega, hp, if_pos rfl, hf.o n h0 h1]
  · rw [show (N + 1).toNat = N.toNat + 1 by omega, fxO_s, show ((N.toNat : Nat) : Int) = N by omega, hp, if_pos rfl, hf.o n h0 h1]
def s_X10_fixed : CS := (zc 8, ap [(3, 62), (0, 0), (0, 0)] (fun n g h Rt X =>
WF (hI h 63) ∧ FR (hI h 63) (hI h 62) (hI h 69) ∧ (¬ (0 ≤ n ∧ n < hI h 63 0) → Rt (some (.inl 0)) (rfH h 1)) ∧ (0 ≤ n ∧ n < hI h 63 0 → nxt (hI h 63) 0 = -1 → ∀ F a b c, Fz (up (hI h 62) 4 0) F → FR (hI h 63) F c → Rt (some (.inl (-1))) (sc (rfH h 0) F a b c)) ∧
(0 ≤ n ∧ n < hI h 63 0 → nxt (hI h 63) 0 ≠ -1 → g ≠ 0 → ∀ F a b c, Fz (up (hI h 62) 4 0) F → FR (hI h 63) F c → Rt (some (.inl (fxA (hI h 63) n (tot (hI h 63)).toNat))) (sc (rfH h 0) F a b c)) ∧
(0 ≤ n ∧ n < hI h 63 0 → nxt (hI h 63) 0 ≠ -1 → g = 0 → ∀ F a b c, Fz (up (hI h 62) 4 0) F → FR (hI h 63) F c → Rt (some (.inl (bAnd (p2 (nd (hI h 63) n 1) - 1) (bXor (bXor (fxA (hI h 63) n (tot (hI h 63)).toNat) (fxO (hI h 63) n (tot (hI h 63)).toNat)) (-1))))) (sc (rfH h 0) F a b c))))
set_option maxRecDepth 100000 in
set_option maxHeartbeats 4000000 in
theorem o_X10_fixed : Obl true 1 6 (sp [(199, s_X10_isNode), (193, s_X10_need), (191, s_X10_refused), (198, s_X10_width), (201, s_X10_mask), (238, s_X10_model), (230, s_X10_laysAssignment)]) [] code_X10_fixed s_X10_fixed := by
  refine oblL (by rfl) [(48, [0, 1, 2, 3, 4, 5])] ?_
  intro n r_n g r_g h Rt X hh hf hs
  obtain ⟨h1, h2, h3, h4, h5, h6⟩ := hs
  have nn := h1.nn
  have tt := tot_rng h1
  have n0 := nxt_lt h1 0
  have k2 := h2.rf (x := 0)
  by_cases c : 0 ≤ n ∧ n < hI h 63 0
  · have wd := h1.wd c.1 c.2
    refine ⟨fun k pc vs q => ∃ (x y N m : Int) (F a b c : Int → Int), q = sc (rfH h 0) F a b c ∧ vs = [.inr (.inr (some 62)), .inl n, .inl g, .inl x, .inl y, .inl N] ∧ Fz (up (hI h 62) 4 0) F ∧ FR (hI h 63) F c ∧ atM (hI h 63) m N ∧ m ≤ tot (hI h 63) ∧ fxAt (hI h 63) n m x y ∧ nxt (hI h 63) 0 ≠ -1 ∧ k = meas (hI h 63) N, ?_, ?_⟩
    · have fr : ∀ F b, FR (hI h 63) F b → FR (hI h 63) F b := fun F b hf => hf
      repeat' (first | apply And.intro | (with_reducible assumption) | (intro h9; first | (exfalso; omega) | (simp only [rI_rI, rJ_rJ, hI_rI, hJ_rI, hI_rJ, hJ_rJ, hR_rI, hR_rJ, hN_rI, hN_rJ, svH_63, svH_66, rfH_63, wvH_63, wvH_62, wvH_67, wvH_68, wvH_69, sc_63, sc_n62, sc_n67, sc_n68, sc_n69, sc_n70, reduceIte, Nat.reduceEqDiff, eq_self, up_up, up_self, up_ne, ne_eq, not_false_eq_true, Int.reduceEq, Int.reduceNeg] at h9; first | (exfalso; omega) | skip) | skip) | exact h1 | exact k2 | exact fr _ _ (by assumption) | exact h4 c (by omega) _ _ _ _ (by assumption) (by assumption) | exact Exists.intro _ ⟨_, 0, _, 0, _, _, _, _, by rw [sc_sc]; rfl, rfl, (Fz.tr (by assumption) (by assumption)), by assumption, Box.i ⟨rfl, by omega, by omega⟩, by omega, Box.i ⟨by omega, rfl, rfl⟩, by omega, rfl⟩ | exact h1 | exact h1 (by omega) | exact h2 | exact h2 (by omega) | exact h3 | exact h3 (by omega) | exact h4 | exact h4 (by omega) | exact h5 | exact h5 (by omega) | exact h6 | exact h6 (by omega) | omega | exact True.intro | (simp only [rI_rI, rJ_rJ, hI_rI, hJ_rI, hI_rJ, hJ_rJ, hR_rI, hR_rJ, hN_rI, hN_rJ, svH_63, svH_66, rfH_63, wvH_63, wvH_62, wvH_67, wvH_68, wvH_69, sc_63, sc_n62, sc_n67, sc_n68, sc_n69, sc_n70, reduceIte, Nat.reduceEqDiff, eq_self, up_up, up_self, up_ne, ne_eq, not_false_eq_true, Int.reduceEq, Int.reduceNeg]; omega))
    · rintro k pc live vs q hl ⟨x, y, N, m, F, a, b, d, rfl, rfl, i1, i2, i3, i6, i4, i5, rfl⟩ hv hh1 hf1
      obtain ⟨rfl, rfl⟩ := look1 hl
      by_cases q : N = -1
      · obtain ⟨-, e1, e2⟩ := (i4.go i6 fun M z1 z2 z3 => i3.end q M z1 z2 z3).o
        have k5 := fun z => h5 c i5 z F a b d i1 i2
        have k6 := fun z => h6 c i5 z F a b d i1 i2
        rw [← e1] at k5 k6
        rw [← e2] at k6
        repeat' (first | apply And.intro | (with_reducible assumption) | (intro h9; first | (exfalso; omega) | (simp only [rI_rI, rJ_rJ, hI_rI, hJ_rI, hI_rJ, hJ_rJ, hR_rI, hR_rJ, hN_rI, hN_rJ, svH_63, svH_66, rfH_63, wvH_63, wvH_62, wvH_67, wvH_68, wvH_69, sc_63, sc_n62, sc_n67, sc_n68, sc_n69, sc_n70, reduceIte, Nat.reduceEqDiff, eq_self, up_up, up_self, up_ne, ne_eq, not_false_eq_true, Int.reduceEq, Int.reduceNeg] at h9; first | (exfalso; omega) | skip) | skip) | exact k5 (by omega) | exact k6 (by omega) | exact h1 | exact h1 (by omega) | exact h2 | exact h2 (by omega) | exact h3 | exact h3 (by omega) | exact h4 | exact h4 (by omega) | exact h5 | exact h5 (by omega) | exact h6 | exact h6 (by omega) | omega | exact True.intro | (simp only [rI_rI, rJ_rJ, hI_rI, hJ_rI, hI_rJ, hJ_rJ, hR_rI, hR_rJ, hN_rI, hN_rJ, svH_63, svH_66, rfH_63, wvH_63, wvH_62, wvH_67, wvH_68, wvH_69, sc_63, sc_n62, sc_n67, sc_n68, sc_n69, sc_n70, reduceIte, Nat.reduceEqDiff, eq_self, up_up, up_self, up_ne, ne_eq, not_false_eq_true, Int.reduceEq, Int.reduceNeg]; omega))
      · obtain ⟨q1, q2, q3, q4, q5⟩ := i3.at q
        have q6 := i4.go q2 fun M z1 z2 z3 => q5 M z1 z2 z3
        have q7 := i3.nx h1 q
        have q8 := meas_dn q1 q3
        repeat' (first | apply And.intro | (with_reducible assumption) | (intro h9; first | (exfalso; omega) | (simp only [rI_rI, rJ_rJ, hI_rI, hJ_rI, hI_rJ, hJ_rJ, hR_rI, hR_rJ, hN_rI, hN_rJ, svH_63, svH_66, rfH_63, wvH_63, wvH_62, wvH_67, wvH_68, wvH_69, sc_63, sc_n62, sc_n67, sc_n68, sc_n69, sc_n70, reduceIte, Nat.reduceEqDiff, eq_self, up_up, up_self, up_ne, ne_eq, not_false_eq_true, Int.reduceEq, Int.reduceNeg] at h9; first | (exfalso; omega) | skip) | skip) | exact h1 | exact i2 | exact Exists.intro _ ⟨q8, _, _, _, N + 1, _, _, _, _, (by rw [sc_wv, sc_sc]), rfl, (by refine i1.tr ?_; assumption), (by assumption), q7, by omega, q6.st q4 c.1 c.2 (by assumption), i5, rfl⟩ | exact h1 | exact h1 (by omega) | exact h2 | exact h2 (by omega) | exact h3 | exact h3 (by omega) | exact h4 | exact h4 (by omega) | exact h5 | exact h5 (by omega) | exact h6 | exact h6 (by omega) | omega | exact True.intro | (simp only [rI_rI, rJ_rJ, hI_rI, hJ_rI, hI_rJ, hJ_rJ, hR_rI, hR_rJ, hN_rI, hN_rJ, svH_63, svH_66, rfH_63, wvH_63, wvH_62, wvH_67, wvH_68, wvH_69, sc_63, sc_n62, sc_n67, sc_n68, sc_n69, sc_n70, reduceIte, Nat.reduceEqDiff, eq_self, up_up, up_self, up_ne, ne_eq, not_false_eq_true, Int.reduceEq, Int.reduceNeg]; omega))
  · refine ⟨fun k pc vs q => False, ?_, ?_⟩
    · repeat' (first | apply And.intro | (with_reducible assumption) | (intro h9; first | (exfalso; omega) | (simp only [rI_rI, rJ_rJ, hI_rI, hJ_rI, hI_rJ, hJ_rJ, hR_rI, hR_rJ, hN_rI, hN_rJ, svH_63, svH_66, rfH_63, wvH_63, wvH_62, wvH_67, wvH_68, wvH_69, sc_63, sc_n62, sc_n67, sc_n68, sc_n69, sc_n70, reduceIte, Nat.reduceEqDiff, eq_self, up_up, up_self, up_ne, ne_eq, not_false_eq_true, Int.reduceEq, Int.reduceNeg] at h9; first | (exfalso; omega) | skip) | skip) | exact h3 c | exact h1 | exact h1 (by omega) | exact h2 | exact h2 (by omega) | exact h3 | exact h3 (by omega) | exact h4 | exact h4 (by omega) | exact h5 | exact h5 (by omega) | exact h6 | exact h6 (by omega) | omega | exact True.intro | (simp only [rI_rI, rJ_rJ, hI_rI, hJ_rI, hI_rJ, hJ_rJ, hR_rI, hR_rJ, hN_rI, hN_rJ, svH_63, svH_66, rfH_63, wvH_63, wvH_62, wvH_67, wvH_68, wvH_69, sc_63, sc_n62, sc_n67, sc_n68, sc_n69, sc_n70, reduceIte, Nat.reduceEqDiff, eq_self, up_up, up_self, up_ne, ne_eq, not_false_eq_true, Int.reduceEq, Int.reduceNeg]; omega))
    · intro k pc live vs q hl hq; exact hq.elim
def cnAt (w : Int → Int) (m x : Int) : Prop := Box (0 ≤ m ∧ x = cntB (mdl w) m.toNat)
theorem cnAt.go {w : Int → Int} {m m' x : Int} (h : cnAt w m x) (hm : m ≤ m') (hn : ∀ N, 0 ≤ N → m ≤ N → N < m' → mdl w N = false) : cnAt w m' x := by
  obtain ⟨h0, rfl⟩ := h.o
  exact Box.i ⟨by omega, (cntB_gap (mdl w) (j := m.toNat) m'.toNat (by omega) fun N a b => hn N (by omega) (by omega) (by omega)).symm⟩
theorem cnAt.st {w : Int → Int} {N x : Int} (h : cnAt w N x) (hp : mdl w N = true) : cnAt w (N + 1) (x + 1) := by
  obtain ⟨q, rfl⟩ := h.o
  refine Box.i ⟨by omega, ?_⟩
  rw [show (N + 1).toNat = N.toNat + 1 by omega]
  rw [cntB_s, show ((N.toNat : Nat) : Int) = N by omega, hp, if_pos rfl]
theorem m_X10_fixed : MM 245 s_X10_fixed := mm_of (own := 9) (by rfl) k_X10_fixed (cl := [(199, s_X10_isNode), (193, s_X10_need), (191, s_X10_refused), (198, s_X10_width), (201, s_X10_mask), (238, s_X10_model), (230, s_X10_laysAssignment)]) ⟨m_X10_isNode, m_X10_need, m_X10_refused, m_X10_width, m_X10_mask, m_X10_model, m_X10_laysAssignment, trivial⟩ o_X10_fixed
def s_X10_models : CS := (zc 8, ap [(3, 62), (0, 0)] (fun l h Rt X =>
WF (hI h 63) ∧ FR (hI h 63) (hI h 62) (hI h 69) ∧ (¬ (1 ≤ l ∧ l ≤ 200) → Rt (some (.inl 0)) (rfH h 1)) ∧ (1 ≤ l ∧ l ≤ 200 → ∀ F a b c, Fz (up (hI h 62) 4 0) F → FR (hI h 63) F c → Rt (some (.inl (if cntB (mdl (hI h 63)) (tot (hI h 63)).toNat < l then cntB (mdl (hI h 63)) (tot (hI h 63)).toNat else l))) (sc (rfH h 0) F a b c))))
set_option maxRecDepth 100000 in
set_option maxHeartbeats 4000000 in
theorem o_X10_models : Obl true 1 4 (sp [(192, s_X10_within), (193, s_X10_need), (191, s_X10_refused), (238, s_X10_model)]) [] code_X10_models s_X10_models := by
  refine oblL (by rfl) [(29, [0, 1, 2, 3])] ?_
  intro l r_l h Rt X hh hf hs
  obtain ⟨h1, h2, h3, h4⟩ := hs
  have tt := tot_rng h1
  have n0 := nxt_lt h1 0
  have k2 := h2.rf (x := 0)
  by_cases c : 1 ≤ l ∧ l ≤ 200
  · refine ⟨fun k pc vs q => ∃ (x N m : Int) (F a b c : Int → Int), q = sc (rfH h 0) F a b c ∧ vs = [.inr (.inr (some 62)), .inl l, .inl x, .inl N] ∧ Fz (up (hI h 62) 4 0) F ∧ FR (hI h 63) F c ∧ atM (hI h 63) m N ∧ m ≤ tot (hI h 63) ∧ cnAt (hI h 63) m x ∧ 0 ≤ x ∧ x ≤ l ∧ k = meas (hI h 63) N, ?_, ?_⟩
    · repeat' (first | apply And.intro | (with_reducible assumption) | (intro h9; first | (exfalso; omega) | (simp only [rI_rI, rJ_rJ, hI_rI, hJ_rI, hI_rJ, hJ_rJ, hR_rI, hR_rJ, hN_rI, hN_rJ, svH_63, svH_66, rfH_63, wvH_63, wvH_62, wvH_67, wvH_68, wvH_69, sc_63, sc_n62, sc_n67, sc_n68, sc_n69, sc_n70, reduceIte, Nat.reduceEqDiff, eq_self, up_up, up_self, up_ne, ne_eq, not_false_eq_true, Int.reduceEq, Int.reduceNeg] at h9; first | (exfalso; omega) | skip) | skip) | exact h1 | exact k2 | exact Exists.intro _ ⟨0, _, 0, _, _, _, _, rfl, rfl, by assumption, by assumption, Box.i ⟨rfl, by omega, by omega⟩, by omega, Box.i ⟨by omega, rfl⟩, by omega, by omega, rfl⟩ | exact h1 | exact h1 (by omega) | exact h2 | exact h2 (by omega) | exact h3 | exact h3 (by omega) | exact h4 | exact h4 (by omega) | omega | exact True.intro | (simp only [rI_rI, rJ_rJ, hI_rI, hJ_rI, hI_rJ, hJ_rJ, hR_rI, hR_rJ, hN_rI, hN_rJ, svH_63, svH_66, rfH_63, wvH_63, wvH_62, wvH_67, wvH_68, wvH_69, sc_63, sc_n62, sc_n67, sc_n68, sc_n69, sc_n70, reduceIte, Nat.reduceEqDiff, eq_self, up_up, up_self, up_ne, ne_eq, not_false_eq_true, Int.reduceEq, Int.reduceNeg]; omega))
    · rintro k pc live vs q hl ⟨x, N, m, F, a, b, d, rfl, rfl, i1, i2, i3, i6, i4, i7, i8, rfl⟩ hv hh1 hf1
      obtain ⟨rfl, rfl⟩ := look1 hl
      have k4 := h4 c F a b d i1 i2
      by_cases q : N = -1
      · obtain ⟨-, e1⟩ := (i4.go i6 fun M z1 z2 z3 => i3.end q M z1 z2 z3).o
        rw [← e1] at k4
        by_cases z : x < l
        · rw [if_pos z] at k4
          repeat' (first | apply And.intro | (with_reducible assumption) | (intro h9; first | (exfalso; omega) | (simp only [rI_rI, rJ_rJ, hI_rI, hJ_rI, hI_rJ, hJ_rJ, hR_rI, hR_rJ, hN_rI, hN_rJ, svH_63, svH_66, rfH_63, wvH_63, wvH_62, wvH_67, wvH_68, wvH_69, sc_63, sc_n62, sc_n67, sc_n68, sc_n69, sc_n70, reduceIte, Nat.reduceEqDiff, eq_self, up_up, up_self, up_ne, ne_eq, not_false_eq_true, Int.reduceEq, Int.reduceNeg] at h9; first | (exfalso; omega) | skip) | skip) | exact k4 | exact h1 | exact h1 (by omega) | exact h2 | exact h2 (by omega) | exact h3 | exact h3 (by omega) | exact h4 | exact h4 (by omega) | omega | exact True.intro | (simp only [rI_rI, rJ_rJ, hI_rI, hJ_rI, hI_rJ, hJ_rJ, hR_rI, hR_rJ, hN_rI, hN_rJ, svH_63, svH_66, rfH_63, wvH_63, wvH_62, wvH_67, wvH_68, wvH_69, sc_63, sc_n62, sc_n67, sc_n68, sc_n69, sc_n70, reduceIte, Nat.reduceEqDiff, eq_self, up_up, up_self, up_ne, ne_eq, not_false_eq_true, Int.reduceEq, Int.reduceNeg]; omega))
        · rw [if_neg z, show l = x by omega] at k4
          repeat' (first | apply And.intro | (with_reducible assumption) | (intro h9; first | (exfalso; omega) | (simp only [rI_rI, rJ_rJ, hI_rI, hJ_rI, hI_rJ, hJ_rJ, hR_rI, hR_rJ, hN_rI, hN_rJ, svH_63, svH_66, rfH_63, wvH_63, wvH_62, wvH_67, wvH_68, wvH_69, sc_63, sc_n62, sc_n67, sc_n68, sc_n69, sc_n70, reduceIte, Nat.reduceEqDiff, eq_self, up_up, up_self, up_ne, ne_eq, not_false_eq_true, Int.reduceEq, Int.reduceNeg] at h9; first | (exfalso; omega) | skip) | skip) | exact k4 | exact h1 | exact h1 (by omega) | exact h2 | exact h2 (by omega) | exact h3 | exact h3 (by omega) | exact h4 | exact h4 (by omega) | omega | exact True.intro | (simp only [rI_rI, rJ_rJ, hI_rI, hJ_rI, hI_rJ, hJ_rJ, hR_rI, hR_rJ, hN_rI, hN_rJ, svH_63, svH_66, rfH_63, wvH_63, wvH_62, wvH_67, wvH_68, wvH_69, sc_63, sc_n62, sc_n67, sc_n68, sc_n69, sc_n70, reduceIte, Nat.reduceEqDiff, eq_self, up_up, up_self, up_ne, ne_eq, not_false_eq_true, Int.reduceEq, Int.reduceNeg]; omega))
      · by_cases z : x < l
        · obtain ⟨q1, q2, q3, q4, q5⟩ := i3.at q
          have q6 := i4.go q2 fun M z1 z2 z3 => q5 M z1 z2 z3
          have q7 := i3.nx h1 q
          have q8 := meas_dn q1 q3
          repeat' (first | apply And.intro | (with_reducible assumption) | (intro h9; first | (exfalso; omega) | (simp only [rI_rI, rJ_rJ, hI_rI, hJ_rI, hI_rJ, hJ_rJ, hR_rI, hR_rJ, hN_rI, hN_rJ, svH_63, svH_66, rfH_63, wvH_63, wvH_62, wvH_67, wvH_68, wvH_69, sc_63, sc_n62, sc_n67, sc_n68, sc_n69, sc_n70, reduceIte, Nat.reduceEqDiff, eq_self, up_up, up_self, up_ne, ne_eq, not_false_eq_true, Int.reduceEq, Int.reduceNeg] at h9; first | (exfalso; omega) | skip) | skip) | exact h1 | exact i2 | exact Exists.intro _ ⟨q8, _, _, N + 1, _, _, _, _, (by rw [sc_sc]), rfl, (by refine i1.tr ?_; assumption), (by assumption), q7, by omega, q6.st q4, by omega, by omega, rfl⟩ | exact h1 | exact h1 (by omega) | exact h2 | exact h2 (by omega) | exact h3 | exact h3 (by omega) | exact h4 | exact h4 (by omega) | omega | exact True.intro | (simp only [rI_rI, rJ_rJ, hI_rI, hJ_rI, hI_rJ, hJ_rJ, hR_rI, hR_rJ, hN_rI, hN_rJ, svH_63, svH_66, rfH_63, wvH_63, wvH_62, wvH_67, wvH_68, wvH_69, sc_63, sc_n62, sc_n67, sc_n68, sc_n69, sc_n70, reduceIte, Nat.reduceEqDiff, eq_self, up_up, up_self, up_ne, ne_eq, not_false_eq_true, Int.reduceEq, Int.reduceNeg]; omega))
        · obtain ⟨z0, e1⟩ := i4.o
          have := cntB_mono (mdl (hI h 63)) (j := m.toNat) (tot (hI h 63)).toNat (by omega)
          rw [if_neg (by omega), show l = x by omega] at k4
          repeat' (first | apply And.intro | (with_reducible assumption) | (intro h9; first | (exfalso; omega) | (simp only [rI_rI, rJ_rJ, hI_rI, hJ_rI, hI_rJ, hJ_rJ, hR_rI, hR_rJ, hN_rI, hN_rJ, svH_63, svH_66, rfH_63, wvH_63, wvH_62, wvH_67, wvH_68, wvH_69, sc_63, sc_n62, sc_n67, sc_n68, sc_n69, sc_n70, reduceIte, Nat.reduceEqDiff, eq_self, up_up, up_self, up_ne, ne_eq, not_false_eq_true, Int.reduceEq, Int.reduceNeg] at h9; first | (exfalso; omega) | skip) | skip) | exact k4 | exact h1 | exact h1 (by omega) | exact h2 | exact h2 (by omega) | exact h3 | exact h3 (by omega) | exact h4 | exact h4 (by omega) | omega | exact True.intro | (simp only [rI_rI, rJ_rJ, hI_rI, hJ_rI, hI_rJ, hJ_rJ, hR_rI, hR_rJ, hN_rI, hN_rJ, svH_63, svH_66, rfH_63, wvH_63, wvH_62, wvH_67, wvH_68, wvH_69, sc_63, sc_n62, sc_n67, sc_n68, sc_n69, sc_n70, reduceIte, Nat.reduceEqDiff, eq_self, up_up, up_self, up_ne, ne_eq, not_false_eq_true, Int.reduceEq, Int.reduceNeg]; omega))
  · refine ⟨fun k pc vs q => False, ?_, ?_⟩
    · repeat' (first | apply And.intro | (with_reducible assumption) | (intro h9; first | (exfalso; omega) | (simp only [rI_rI, rJ_rJ, hI_rI, hJ_rI, hI_rJ, hJ_rJ, hR_rI, hR_rJ, hN_rI, hN_rJ, svH_63, svH_66, rfH_63, wvH_63, wvH_62, wvH_67, wvH_68, wvH_69, sc_63, sc_n62, sc_n67, sc_n68, sc_n69, sc_n70, reduceIte, Nat.reduceEqDiff, eq_self, up_up, up_self, up_ne, ne_eq, not_false_eq_true, Int.reduceEq, Int.reduceNeg] at h9; first | (exfalso; omega) | skip) | skip) | exact h3 c | exact h1 | exact h1 (by omega) | exact h2 | exact h2 (by omega) | exact h3 | exact h3 (by omega) | exact h4 | exact h4 (by omega) | omega | exact True.intro | (simp only [rI_rI, rJ_rJ, hI_rI, hJ_rI, hI_rJ, hJ_rJ, hR_rI, hR_rJ, hN_rI, hN_rJ, svH_63, svH_66, rfH_63, wvH_63, wvH_62, wvH_67, wvH_68, wvH_69, sc_63, sc_n62, sc_n67, sc_n68, sc_n69, sc_n70, reduceIte, Nat.reduceEqDiff, eq_self, up_up, up_self, up_ne, ne_eq, not_false_eq_true, Int.reduceEq, Int.reduceNeg]; omega))
    · intro k pc live vs q hl hq; exact hq.elim
/-- which values a node has in the models below m -/
def Mets (w : Int → Int) (n : Int) (f : Int → Int) (m : Int) : Prop := Box (∀ k, 0 ≤ k → k < 256 → (f k = 0 ∧ ∀ N, 0 ≤ N → N < m → mdl w N = true → vl w (asg w N) n ≠ k) ∨ (f k = 1 ∧ ∃ N, 0 ≤ N ∧ N < m ∧ mdl w N = true ∧ vl w (asg w N) n = k))
theorem Mets.go {w f : Int → Int} {n m m' : Int} (h : Mets w n f m) (hm : m ≤ m') (hn : ∀ N, 0 ≤ N → m ≤ N → N < m' → mdl w N = false) : Mets w n f m' := by
  refine Box.i fun k h0 h1 => ?_
  rcases h.o k h0 h1 with ⟨a, b⟩ | ⟨a, N, b1, b2, b3, b4⟩
  · refine Or.inl ⟨a, fun N c0 c1 c2 => ?_⟩
    by_cases e : N < m
    · exact b N c0 e c2
    · rw [hn N c0 (by omega) c1] at c2
      cases c2
  · exact Or.inr ⟨a, N, b1, by omega, b3, b4⟩
theorem Mets.st {w f v : Int → Int} {n N : Int} (h : Mets w n f N) (h00 : 0 ≤ N) (hp : mdl w N = true) (h0 : 0 ≤ n) (h1 : n < w 0) (hf : Vls w (asg w N) v) : Mets w n (up f (v n) 1) (N + 1) := by
  have e := hf.o n h0 h1
  refine Box.i fun k k0 k1 => ?_
  by_cases c : k = v n
  · subst c
    rw [up_self]
    exact Or.inr ⟨rfl, N, h00, by omega, hp, e.symm⟩
  · rw [up_ne c]
    rcases h.o k k0 k1 with ⟨a, b⟩ | ⟨a, M, b1, b2, b3, b4⟩
    · refine Or.inl ⟨a, fun M c0 c1 c2 => ?_⟩
      by_cases e2 : M = N
      · subst e2; rw [← e]; exact fun q => c q.symm
      · exact b M c0 (by omega) c2
    · exact Or.inr ⟨a, M, b1, by omega, b3, b4⟩
theorem sc_70 (h : Hp) (F a b c f : Int → Int) : rI (sc h F a b c) 70 f = sc (rI h 70 f) F a b c := by
  unfold sc rI
  congr 2
  funext q
  by_cases e1 : q = 70 <;> simp [e1]
theorem sc_x70 (h : Hp) (f F a b c a' b' X F' a2 b2 c' : Int → Int) : sc (rI (wvH (sc (rI h 70 f) F a b c) a' b') 70 X) F' a2 b2 c' = sc (rI h 70 X) F' a2 b2 c' := by rw [sc_wv, sc_70, rI_rI, sc_sc]
theorem Mets.z {w f : Int → Int} {n : Int} (h : Box (∀ v, 0 ≤ v → v < 256 → f v = 0)) : Mets w n f 0 := Box.i fun k a b => Or.inl ⟨h.o k a b, fun N c d => by omega⟩
theorem m_X10_models : MM 246 s_X10_models := mm_of (own := 9) (by rfl) k_X10_models (cl := [(192, s_X10_within), (193, s_X10_need), (191, s_X10_refused), (238, s_X10_model)]) ⟨m_X10_within, m_X10_need, m_X10_refused, m_X10_model, trivial⟩ o_X10_models
def s_X10_laysMet : CS := (zc 8, ap [(3, 62), (0, 0)] (fun n h Rt X =>
(0 ≤ n ∧ n < hI h 63 0) ∧ WF (hI h 63) ∧ FR (hI h 63) (hI h 62) (hI h 69) ∧ ∀ f F a b c, Mets (hI h 63) n f (tot (hI h 63)) → Fz (hI h 62) F → FR (hI h 63) F c → Rt none (sc (rI h 70 f) F a b c)))
set_option maxRecDepth 100000 in
set_option maxHeartbeats 4000000 in
theorem o_X10_laysMet : Obl true 0 3 (sp [(238, s_X10_model), (230, s_X10_laysAssignment)]) [] code_X10_laysMet s_X10_laysMet := by
  refine oblL (by rfl) [(2, [0, 1, 2]), (28, [0, 1, 2])] ?_
  intro n r_n h Rt X hh hf hs
  obtain ⟨⟨a1, a2⟩, h1, h2, h3⟩ := hs
  have nn := h1.nn
  have wd := h1.wd a1 a2
  have w8 := p2_le8 wd.2
  have tt := tot_rng h1
  have n0 := nxt_lt h1 0
  refine ⟨fun k pc vs q => ∃ (f : Int → Int), (pc = 2 ∧ ∃ i : Int, vs = [.inr (.inr (some 62)), .inl n, .inl i] ∧ q = rI h 70 f ∧ 0 ≤ i ∧ i ≤ 256 ∧ Box (∀ v, 0 ≤ v → v < i → f v = 0) ∧ k = 100000 + (256 - i).toNat) ∨ (pc = 28 ∧ ∃ (N m : Int) (F a b c : Int → Int), q = sc (rI h 70 f) F a b c ∧ vs = [.inr (.inr (some 62)), .inl n, .inl N] ∧ Fz (hI h 62) F ∧ FR (hI h 63) F c ∧ atM (hI h 63) m N ∧ m ≤ tot (hI h 63) ∧ Mets (hI h 63) n f m ∧ k = meas (hI h 63) N), ?_, ?_⟩
  · repeat' (first | apply And.intro | (with_reducible assumption) | (intro h9; first | (exfalso; omega) | (simp only [rI_rI, rJ_rJ, hI_rI, hJ_rI, hI_rJ, hJ_rJ, hR_rI, hR_rJ, hN_rI, hN_rJ, svH_63, svH_66, rfH_63, wvH_63, wvH_62, wvH_67, wvH_68, wvH_69, sc_63, sc_n62, sc_n67, sc_n68, sc_n69, sc_n70, reduceIte, Nat.reduceEqDiff, eq_self, up_up, up_self, up_ne, ne_eq, not_false_eq_true, Int.reduceEq, Int.reduceNeg] at h9; first | (exfalso; omega) | skip) | skip) | exact Exists.intro _ ⟨hI h 70, Or.inl ⟨rfl, 0, rfl, (rI_id h 70).symm, by omega, by omega, Box.i (fun m a b => by omega), rfl⟩⟩ | exact h1 | exact h1 (by omega) | exact h2 | exact h2 (by omega) | exact h3 | exact h3 (by omega) | omega | exact True.intro | (simp only [rI_rI, rJ_rJ, hI_rI, hJ_rI, hI_rJ, hJ_rJ, hR_rI, hR_rJ, hN_rI, hN_rJ, svH_63, svH_66, rfH_63, wvH_63, wvH_62, wvH_67, wvH_68, wvH_69, sc_63, sc_n62, sc_n67, sc_n68, sc_n69, sc_n70, reduceIte, Nat.reduceEqDiff, eq_self, up_up, up_self, up_ne, ne_eq, not_false_eq_true, Int.reduceEq, Int.reduceNeg]; omega))
  · rintro k pc live vs q hl ⟨f, ⟨rfl, i, rfl, rfl, i1, i2, i3, rfl⟩ | ⟨rfl, N, m, F, a, b, c, rfl, rfl, i1, i2, i3, i6, i4, rfl⟩⟩ hv hh1 hf1
    · rcases look2 hl with ⟨_, rfl⟩ | ⟨q, _⟩
      · by_cases z : i < 256
        · have e : Box (∀ v, 0 ≤ v → v < i + 1 → up f i 0 v = 0) := by
            refine Box.i fun v b0 b1 => ?_
            by_cases e : v = i
            · subst e; rw [up_self]
            · rw [up_ne e]; exact i3.o v b0 (by omega)
          repeat' (first | apply And.intro | (with_reducible assumption) | (intro h9; first | (exfalso; omega) | (simp only [rI_rI, rJ_rJ, hI_rI, hJ_rI, hI_rJ, hJ_rJ, hR_rI, hR_rJ, hN_rI, hN_rJ, svH_63, svH_66, rfH_63, wvH_63, wvH_62, wvH_67, wvH_68, wvH_69, sc_63, sc_n62, sc_n67, sc_n68, sc_n69, sc_n70, reduceIte, Nat.reduceEqDiff, eq_self, up_up, up_self, up_ne, ne_eq, not_false_eq_true, Int.reduceEq, Int.reduceNeg] at h9; first | (exfalso; omega) | skip) | skip) | exact Exists.intro _ ⟨by omega, _, Or.inl ⟨rfl, i + 1, rfl, rI_rI _ _ _ _, by omega, by omega, e, rfl⟩⟩ | exact h1 | exact h1 (by omega) | exact h2 | exact h2 (by omega) | exact h3 | exact h3 (by omega) | omega | exact True.intro | (simp only [rI_rI, rJ_rJ, hI_rI, hJ_rI, hI_rJ, hJ_rJ, hR_rI, hR_rJ, hN_rI, hN_rJ, svH_63, svH_66, rfH_63, wvH_63, wvH_62, wvH_67, wvH_68, wvH_69, sc_63, sc_n62, sc_n67, sc_n68, sc_n69, sc_n70, reduceIte, Nat.reduceEqDiff, eq_self, up_up, up_self, up_ne, ne_eq, not_false_eq_true, Int.reduceEq, Int.reduceNeg]; omega))
        · obtain rfl : i = 256 := by omega
          have e : Mets (hI h 63) n f 0 := Mets.z i3
          have m0 : meas (hI h 63) (nxt (hI h 63) 0) < 100000 := by unfold meas; split <;> omega
          repeat' (first | apply And.intro | (with_reducible assumption) | (intro h9; first | (exfalso; omega) | (simp only [rI_rI, rJ_rJ, hI_rI, hJ_rI, hI_rJ, hJ_rJ, hR_rI, hR_rJ, hN_rI, hN_rJ, svH_63, svH_66, rfH_63, wvH_63, wvH_62, wvH_67, wvH_68, wvH_69, sc_63, sc_n62, sc_n67, sc_n68, sc_n69, sc_n70, reduceIte, Nat.reduceEqDiff, eq_self, up_up, up_self, up_ne, ne_eq, not_false_eq_true, Int.reduceEq, Int.reduceNeg] at h9; first | (exfalso; omega) | skip) | skip) | exact h1 | exact h2 | exact Exists.intro _ ⟨by omega, f, Or.inr ⟨rfl, nxt (hI h 63) 0, 0, _, _, _, _, rfl, rfl, by assumption, by assumption, Box.i ⟨rfl, by omega, by omega⟩, by omega, e, rfl⟩⟩ | exact h1 | exact h1 (by omega) | exact h2 | exact h2 (by omega) | exact h3 | exact h3 (by omega) | omega | exact True.intro | (simp only [rI_rI, rJ_rJ, hI_rI, hJ_rI, hI_rJ, hJ_rJ, hR_rI, hR_rJ, hN_rI, hN_rJ, svH_63, svH_66, rfH_63, wvH_63, wvH_62, wvH_67, wvH_68, wvH_69, sc_63, sc_n62, sc_n67, sc_n68, sc_n69, sc_n70, reduceIte, Nat.reduceEqDiff, eq_self, up_up, up_self, up_ne, ne_eq, not_false_eq_true, Int.reduceEq, Int.reduceNeg]; omega))
      · cases q
    · rcases look2 hl with ⟨q, _⟩ | ⟨_, rfl⟩
      · cases q
      · by_cases q : N = -1
        · have e1 := i4.go i6 fun M z1 z2 z3 => i3.end q M z1 z2 z3
          repeat' (first | apply And.intro | (with_reducible assumption) | (intro h9; first | (exfalso; omega) | (simp only [rI_rI, rJ_rJ, hI_rI, hJ_rI, hI_rJ, hJ_rJ, hR_rI, hR_rJ, hN_rI, hN_rJ, svH_63, svH_66, rfH_63, wvH_63, wvH_62, wvH_67, wvH_68, wvH_69, sc_63, sc_n62, sc_n67, sc_n68, sc_n69, sc_n70, reduceIte, Nat.reduceEqDiff, eq_self, up_up, up_self, up_ne, ne_eq, not_false_eq_true, Int.reduceEq, Int.reduceNeg] at h9; first | (exfalso; omega) | skip) | skip) | exact h3 f F a b c e1 i1 i2 | exact h1 | exact h1 (by omega) | exact h2 | exact h2 (by omega) | exact h3 | exact h3 (by omega) | omega | exact True.intro | (simp only [rI_rI, rJ_rJ, hI_rI, hJ_rI, hI_rJ, hJ_rJ, hR_rI, hR_rJ, hN_rI, hN_rJ, svH_63, svH_66, rfH_63, wvH_63, wvH_62, wvH_67, wvH_68, wvH_69, sc_63, sc_n62, sc_n67, sc_n68, sc_n69, sc_n70, reduceIte, Nat.reduceEqDiff, eq_self, up_up, up_self, up_ne, ne_eq, not_false_eq_true, Int.reduceEq, Int.reduceNeg]; omega))
        · obtain ⟨q1, q2, q3, q4, q5⟩ := i3.at q
          have q6 := i4.go q2 fun M z1 z2 z3 => q5 M z1 z2 z3
          have q7 := i3.nx h1 q
          have q8 := meas_dn q1 q3
          have e1 : ∀ f, Vls (hI h 63) (asg (hI h 63) N) f → 0 ≤ f n ∧ f n < 256 := fun f hf => by have := vls_rng h1 a1 a2 hf; omega
          repeat' (first | apply And.intro | (with_reducible assumption) | (intro h9; first | (exfalso; omega) | (simp only [rI_rI, rJ_rJ, hI_rI, hJ_rI, hI_rJ, hJ_rJ, hR_rI, hR_rJ, hN_rI, hN_rJ, svH_63, svH_66, rfH_63, wvH_63, wvH_62, wvH_67, wvH_68, wvH_69, sc_63, sc_n62, sc_n67, sc_n68, sc_n69, sc_n70, reduceIte, Nat.reduceEqDiff, eq_self, up_up, up_self, up_ne, ne_eq, not_false_eq_true, Int.reduceEq, Int.reduceNeg] at h9; first | (exfalso; omega) | skip) | skip) | exact h1 | exact i2 | exact (e1 _ (by assumption)).1 | exact (e1 _ (by assumption)).2 | exact Exists.intro _ ⟨q8, _, Or.inr ⟨rfl, nxt (hI h 63) (N + 1), N + 1, _, _, _, _, sc_x70 _ _ _ _ _ _ _ _ _ _ _ _ _, rfl, (by refine i1.tr ?_; assumption), (by assumption), q7, by omega, q6.st q1 q4 a1 a2 (by assumption), rfl⟩⟩ | exact h1 | exact h1 (by omega) | exact h2 | exact h2 (by omega) | exact h3 | exact h3 (by omega) | omega | exact True.intro | (simp only [rI_rI, rJ_rJ, hI_rI, hJ_rI, hI_rJ, hJ_rJ, hR_rI, hR_rJ, hN_rI, hN_rJ, svH_63, svH_66, rfH_63, wvH_63, wvH_62, wvH_67, wvH_68, wvH_69, sc_63, sc_n62, sc_n67, sc_n68, sc_n69, sc_n70, reduceIte, Nat.reduceEqDiff, eq_self, up_up, up_self, up_ne, ne_eq, not_false_eq_true, Int.reduceEq, Int.reduceNeg]; omega))
theorem m_X10_laysMet : MM 247 s_X10_laysMet := mm_of (own := 9) (by rfl) k_X10_laysMet (cl := [(238, s_X10_model), (230, s_X10_laysAssignment)]) ⟨m_X10_model, m_X10_laysAssignment, trivial⟩ o_X10_laysMet

/-! ===== the class: how a text is read: words, steps ===== -/
def opc (k : Int) : Int := if k < 2 then 0 else if k ≤ 18 then 2 else if k = 24 then 3 else 1
def dgc (k : Int) : Int := if k = 21 then 2 else if k = 22 ∨ k = 23 then 1 else 0
def s_X2_operandCount : CS := (zc 1, ap [(0, 0)] (fun k h Rt X =>
Rt (some (.inl (opc k))) h))
set_option maxRecDepth 100000 in
set_option maxHeartbeats 4000000 in
theorem o_X2_operandCount : Obl true 1 1 (sp []) [] code_X2_operandCount s_X2_operandCount := by
  refine obl0 (by rfl) ?_
  intro k r_k h Rt X hh hf hs
  unfold opc at hs
  by_cases a : k < 2
  · rw [if_pos a] at hs
    repeat' (first | apply And.intro | (with_reducible assumption) | (intro h9; first | (exfalso; omega) | (simp only [rI_rI, rJ_rJ, hI_rI, hJ_rI, hI_rJ, hJ_rJ, hI_rR, hR_rI, hR_rJ, hN_rI, hN_rJ, svH_63, svH_66, rfH_63, wvH_63, wvH_62, wvH_67, wvH_68, wvH_69, sc_63, sc_n62, sc_n67, sc_n68, sc_n69, sc_n70, reduceIte, Nat.reduceEqDiff, eq_self, up_up, up_self, up_ne, ne_eq, not_false_eq_true, Int.reduceEq, Int.reduceNeg] at h9; first | (exfalso; omega) | skip) | skip) | exact hs | omega | exact True.intro | (simp only [rI_rI, rJ_rJ, hI_rI, hJ_rI, hI_rJ, hJ_rJ, hI_rR, hR_rI, hR_rJ, hN_rI, hN_rJ, svH_63, svH_66, rfH_63, wvH_63, wvH_62, wvH_67, wvH_68, wvH_69, sc_63, sc_n62, sc_n67, sc_n68, sc_n69, sc_n70, reduceIte, Nat.reduceEqDiff, eq_self, up_up, up_self, up_ne, ne_eq, not_false_eq_true, Int.reduceEq, Int.reduceNeg]; omega))
  · rw [if_neg a] at hs
    by_cases b : k ≤ 18
    · rw [if_pos b] at hs
      repeat' (first | apply And.intro | (with_reducible assumption) | (intro h9; first | (exfalso; omega) | (simp only [rI_rI, rJ_rJ, hI_rI, hJ_rI, hI_rJ, hJ_rJ, hI_rR, hR_rI, hR_rJ, hN_rI, hN_rJ, svH_63, svH_66, rfH_63, wvH_63, wvH_62, wvH_67, wvH_68, wvH_69, sc_63, sc_n62, sc_n67, sc_n68, sc_n69, sc_n70, reduceIte, Nat.reduceEqDiff, eq_self, up_up, up_self, up_ne, ne_eq, not_false_eq_true, Int.reduceEq, Int.reduceNeg] at h9; first | (exfalso; omega) | skip) | skip) | exact hs | omega | exact True.intro | (simp only [rI_rI, rJ_rJ, hI_rI, hJ_rI, hI_rJ, hJ_rJ, hI_rR, hR_rI, hR_rJ, hN_rI, hN_rJ, svH_63, svH_66, rfH_63, wvH_63, wvH_62, wvH_67, wvH_68, wvH_69, sc_63, sc_n62, sc_n67, sc_n68, sc_n69, sc_n70, reduceIte, Nat.reduceEqDiff, eq_self, up_up, up_self, up_ne, ne_eq, not_false_eq_true, Int.reduceEq, Int.reduceNeg]; omega))
    · rw [if_neg b] at hs
      by_cases c : k = 24
      · rw [if_pos c] at hs
        repeat' (first | apply And.intro | (with_reducible assumption) | (intro h9; first | (exfalso; omega) | (simp only [rI_rI, rJ_rJ, hI_rI, hJ_rI, hI_rJ, hJ_rJ, hI_rR, hR_rI, hR_rJ, hN_rI, hN_rJ, svH_63, svH_66, rfH_63, wvH_63, wvH_62, wvH_67, wvH_68, wvH_69, sc_63, sc_n62, sc_n67, sc_n68, sc_n69, sc_n70, reduceIte, Nat.reduceEqDiff, eq_self, up_up, up_self, up_ne, ne_eq, not_false_eq_true, Int.reduceEq, Int.reduceNeg] at h9; first | (exfalso; omega) | skip) | skip) | exact hs | omega | exact True.intro | (simp only [rI_rI, rJ_rJ, hI_rI, hJ_rI, hI_rJ, hJ_rJ, hI_rR, hR_rI, hR_rJ, hN_rI, hN_rJ, svH_63, svH_66, rfH_63, wvH_63, wvH_62, wvH_67, wvH_68, wvH_69, sc_63, sc_n62, sc_n67, sc_n68, sc_n69, sc_n70, reduceIte, Nat.reduceEqDiff, eq_self, up_up, up_self, up_ne, ne_eq, not_false_eq_true, Int.reduceEq, Int.reduceNeg]; omega))
      · rw [if_neg c] at hs
        repeat' (first | apply And.intro | (with_reducible assumption) | (intro h9; first | (exfalso; omega) | (simp only [rI_rI, rJ_rJ, hI_rI, hJ_rI, hI_rJ, hJ_rJ, hI_rR, hR_rI, hR_rJ, hN_rI, hN_rJ, svH_63, svH_66, rfH_63, wvH_63, wvH_62, wvH_67, wvH_68, wvH_69, sc_63, sc_n62, sc_n67, sc_n68, sc_n69, sc_n70, reduceIte, Nat.reduceEqDiff, eq_self, up_up, up_self, up_ne, ne_eq, not_false_eq_true, Int.reduceEq, Int.reduceNeg] at h9; first | (exfalso; omega) | skip) | skip) | exact hs | omega | exact True.intro | (simp only [rI_rI, rJ_rJ, hI_rI, hJ_rI, hI_rJ, hJ_rJ, hI_rR, hR_rI, hR_rJ, hN_rI, hN_rJ, svH_63, svH_66, rfH_63, wvH_63, wvH_62, wvH_67, wvH_68, wvH_69, sc_63, sc_n62, sc_n67, sc_n68, sc_n69, sc_n70, reduceIte, Nat.reduceEqDiff, eq_self, up_up, up_self, up_ne, ne_eq, not_false_eq_true, Int.reduceEq, Int.reduceNeg]; omega))
theorem m_X2_operandCount : MM 38 s_X2_operandCount := mm_of (own := 10) (by rfl) k_X2_operandCount (cl := []) trivial o_X2_operandCount
def s_X2_digitCount : CS := (zc 1, ap [(0, 0)] (fun k h Rt X =>
Rt (some (.inl (dgc k))) h))
set_option maxRecDepth 100000 in
set_option maxHeartbeats 4000000 in
theorem o_X2_digitCount : Obl true 1 1 (sp []) [] code_X2_digitCount s_X2_digitCount := by
  refine obl0 (by rfl) ?_
  intro k r_k h Rt X hh hf hs
  unfold dgc at hs
  by_cases a : k = 21
  · rw [if_pos a] at hs
    repeat' (first | apply And.intro | (with_reducible assumption) | (intro h9; first | (exfalso; omega) | (simp only [rI_rI, rJ_rJ, hI_rI, hJ_rI, hI_rJ, hJ_rJ, hI_rR, hR_rI, hR_rJ, hN_rI, hN_rJ, svH_63, svH_66, rfH_63, wvH_63, wvH_62, wvH_67, wvH_68, wvH_69, sc_63, sc_n62, sc_n67, sc_n68, sc_n69, sc_n70, reduceIte, Nat.reduceEqDiff, eq_self, up_up, up_self, up_ne, ne_eq, not_false_eq_true, Int.reduceEq, Int.reduceNeg] at h9; first | (exfalso; omega) | skip) | skip) | exact hs | omega | exact True.intro | (simp only [rI_rI, rJ_rJ, hI_rI, hJ_rI, hI_rJ, hJ_rJ, hI_rR, hR_rI, hR_rJ, hN_rI, hN_rJ, svH_63, svH_66, rfH_63, wvH_63, wvH_62, wvH_67, wvH_68, wvH_69, sc_63, sc_n62, sc_n67, sc_n68, sc_n69, sc_n70, reduceIte, Nat.reduceEqDiff, eq_self, up_up, up_self, up_ne, ne_eq, not_false_eq_true, Int.reduceEq, Int.reduceNeg]; omega))
  · rw [if_neg a] at hs
    by_cases b : k = 22 ∨ k = 23
    · rw [if_pos b] at hs
      repeat' (first | apply And.intro | (with_reducible assumption) | (intro h9; first | (exfalso; omega) | (simp only [rI_rI, rJ_rJ, hI_rI, hJ_rI, hI_rJ, hJ_rJ, hI_rR, hR_rI, hR_rJ, hN_rI, hN_rJ, svH_63, svH_66, rfH_63, wvH_63, wvH_62, wvH_67, wvH_68, wvH_69, sc_63, sc_n62, sc_n67, sc_n68, sc_n69, sc_n70, reduceIte, Nat.reduceEqDiff, eq_self, up_up, up_self, up_ne, ne_eq, not_false_eq_true, Int.reduceEq, Int.reduceNeg] at h9; first | (exfalso; omega) | skip) | skip) | exact hs | omega | exact True.intro | (simp only [rI_rI, rJ_rJ, hI_rI, hJ_rI, hI_rJ, hJ_rJ, hI_rR, hR_rI, hR_rJ, hN_rI, hN_rJ, svH_63, svH_66, rfH_63, wvH_63, wvH_62, wvH_67, wvH_68, wvH_69, sc_63, sc_n62, sc_n67, sc_n68, sc_n69, sc_n70, reduceIte, Nat.reduceEqDiff, eq_self, up_up, up_self, up_ne, ne_eq, not_false_eq_true, Int.reduceEq, Int.reduceNeg]; omega))
    · rw [if_neg b] at hs
      have b1 : ¬ k = 22 := fun q => b (Or.inl q)
      have b2 : ¬ k = 23 := fun q => b (Or.inr q)
      repeat' (first | apply And.intro | (with_reducible assumption) | (intro h9; first | (exfalso; omega) | (simp only [rI_rI, rJ_rJ, hI_rI, hJ_rI, hI_rJ, hJ_rJ, hI_rR, hR_rI, hR_rJ, hN_rI, hN_rJ, svH_63, svH_66, rfH_63, wvH_63, wvH_62, wvH_67, wvH_68, wvH_69, sc_63, sc_n62, sc_n67, sc_n68, sc_n69, sc_n70, reduceIte, Nat.reduceEqDiff, eq_self, up_up, up_self, up_ne, ne_eq, not_false_eq_true, Int.reduceEq, Int.reduceNeg] at h9; first | (exfalso; omega) | skip) | skip) | exact hs | omega | exact True.intro | (simp only [rI_rI, rJ_rJ, hI_rI, hJ_rI, hI_rJ, hJ_rJ, hI_rR, hR_rI, hR_rJ, hN_rI, hN_rJ, svH_63, svH_66, rfH_63, wvH_63, wvH_62, wvH_67, wvH_68, wvH_69, sc_63, sc_n62, sc_n67, sc_n68, sc_n69, sc_n70, reduceIte, Nat.reduceEqDiff, eq_self, up_up, up_self, up_ne, ne_eq, not_false_eq_true, Int.reduceEq, Int.reduceNeg]; omega))
theorem m_X2_digitCount : MM 39 s_X2_digitCount := mm_of (own := 10) (by rfl) k_X2_digitCount (cl := []) trivial o_X2_digitCount
/-- the words of the kinds 2 to 24, five places each -/
def wdsN : List Nat := [97, 100, 100, 32, 32, 115, 117, 98, 32, 32, 109, 117, 108, 32, 32, 97, 110, 100, 32, 32, 111, 114, 32, 32, 32, 120, 111, 114, 32, 32, 115, 104, 108, 32, 32, 115, 104, 114, 32, 32, 115, 97, 114, 32, 32, 100, 105, 118, 32, 32, 114, 101, 109, 32, 32, 101, 113, 32, 32, 32, 108, 116, 32, 32, 32, 108, 101, 32, 32, 32, 115, 108, 116, 32, 32, 115, 108, 101, 32, 32, 99, 97, 116, 32, 32, 110, 111, 116, 32, 32, 110, 101, 103, 32, 32, 115, 108, 105, 99, 101, 122, 101, 120, 116, 32, 115, 101, 120, 116, 32, 105, 116, 101, 32, 32]
def wl (k i : Int) : Int := if 0 ≤ (k - 2) * 5 + i ∧ (k - 2) * 5 + i < 115 then ((wdsN.getD ((k - 2) * 5 + i).toNat 0 : Nat) : Int) else 32
/-- the character that a word must have at a place -/
def chW (r : Rw) (a n i : Int) : Int := if i < n then tA r (a + i) else 32
abbrev isW (r : Rw) (a n k : Int) : Prop := n ≤ 5 ∧ wl k 0 = chW r a n 0 ∧ wl k 1 = chW r a n 1 ∧ wl k 2 = chW r a n 2 ∧ wl k 3 = chW r a n 3 ∧ wl k 4 = chW r a n 4
def kdP (r : Rw) (a n : Int) (j : Int) : Bool := decide (isW r a n (j + 2))
def kdF (r : Rw) (a n : Int) : Int := if fst (kdP r a n) 23 = -1 then -1 else fst (kdP r a n) 23 + 2
def ctD (r : Rw) (n : Int) : Rw := adS (dgS r) 0 n (dgV r)
def ctC (r : Rw) (n : Int) : Rw := if tA r (pP r) = 58 then ctD (skS (avS r)) n else bdS r
def ctB (r : Rw) (q : Int × Int) : Rw := if isD (tA r q.1) then bdS (sF r 1 q.1) else ctC (skS (sF r 1 q.1)) q.2
def ctS (r : Rw) : Rw := ctB r (cnS r 3 (pP r) 0)
def opE (r : Rw) (a : Int) : Int := whl (fun k => decide (isL r k)) (r 49 1) a
def opD (r : Rw) (k : Int) : Rw := sF (ur (ur (ur (ur r 55 (up (r 55) (pO r) k)) 56 (up (r 56) (pO r) (opc k))) 57 (up (r 57) (pO r) (dgc k))) 58 (up (r 58) (pO r) 0)) 11 (pO r + 1)
def opC (r : Rw) (a : Int) : Rw := if kdF r a (pP r - a) = -1 then sF r 2 a else opD r (kdF r a (pP r - a))
def opB (r : Rw) : Rw := opC (sF r 1 (opE r (pP r))) (pP r)
def opS (r : Rw) : Rw := opB (skS (avS r))
def lfS (r : Rw) : Rw := if tA r (pP r) = 118 ∧ isD (tA r (pP r + 1)) then adS (dgS (avS r)) 1 (dgV (avS r)) (-1) else if isD (tA r (pP r)) then ctS r else bdS r
def wdS (r : Rw) : Rw := ur (ur (dgS r) 58 (up (dgS r 58) (pO r - 1) (10 * r 58 (pO r - 1) + dgV r))) 57 (up (dgS r 57) (pO r - 1) (dgS r 57 (pO r - 1) - 1))
def clS (r : Rw) : Rw := if tA r (pP r) = 41 then adS (sF (avS r) 11 (pO r - 1)) (r 55 (pO r - 1)) (r 58 (pO r - 1)) (-1) else bdS r
/-- one thing is taken -/
def tnS (r : Rw) : Rw := if tA r (pP r) = 32 then avS r else if whS r then bdS r else if tA r (pP r) = 40 ∧ wtS r then opS r else if wtS r then lfS r else if 0 < r 57 (pO r - 1) then wdS r else clS r
theorem adS_49 (r : Rw) (k n x : Int) : adS r k n x 49 = r 49 := by unfold adS; split <;> rfl
theorem adS_50 (r : Rw) (k n x : Int) : adS r k n x 50 = r 50 := by unfold adS; split <;> rfl
theorem dgS_ne (r : Rw) {a : Nat} (h : a ≠ 51) : dgS r a = r a := by
  unfold dgS bdS avS sF
  split
  · split
    · rw [ur_ne h, ur_ne h]
    · rw [ur_ne h]
  · rw [ur_ne h]
theorem dgS_O (r : Rw) : dgS r 51 11 = r 51 11 := by
  unfold dgS bdS avS sF
  split
  · split <;> rfl
  · rfl
theorem dgS_S (r : Rw) : dgS r 51 6 = r 51 6 := by
  unfold dgS bdS avS sF
  split
  · split <;> rfl
  · rfl
theorem skS_P (r : Rw) : skS r 51 1 = whl (fun k => decide (tA r k = 32)) (r 49 1) (pP r) := rfl
theorem skS_rng {r : Rw} (h0 : 0 ≤ pP r) (h1 : pP r ≤ r 49 1) : pP r ≤ skS r 51 1 ∧ skS r 51 1 ≤ r 49 1 := by
  have := whl_rng (fun k => decide (tA r k = 32)) (r 49 1) (pP r)
  rw [skS_P]
  exact ⟨this.1, this.2 h1⟩
/-- the reader's place is in the text -/
def PL (r : Rw) : Prop := Box (0 ≤ r 49 1 ∧ r 49 1 ≤ 120 ∧ 0 ≤ r 51 1 ∧ r 51 1 ≤ r 49 1)
theorem ur_id (r : Rw) (a : Nat) : ur r a (r a) = r := by
  funext b
  unfold ur
  by_cases e : b = a
  · rw [if_pos e, e]
  · rw [if_neg e]
theorem sF_P (r : Rw) : sF r 1 (pP r) = r := by unfold sF; rw [up_id, ur_id]
theorem sF_sF (r : Rw) (k x y : Int) : sF (sF r k x) k y = sF r k y := by
  unfold sF
  rw [ur_self, up_up, ur_ur]
theorem sF_nx (r : Rw) (p : Int) : sF (sF r 1 p) 1 (sF r 1 p 51 1 + 1) = sF r 1 (p + 1) := by
  rw [sF_sF]
  show sF r 1 (up (r 51) 1 p 1 + 1) = _
  rw [up_self]
theorem skS_id {r : Rw} (y : ¬ (r 51 1 < r 49 1 ∧ tA r (r 51 1) = 32)) : skS r = r := by
  have e := whl_f (P := fun k => decide (tA r k = 32)) (L := r 49 1) (p := pP r) (by
    by_cases z : pP r < r 49 1
    · exact Or.inr (decide_eq_false fun q => y ⟨z, q⟩)
    · exact Or.inl z)
  unfold skS
  rw [e, sF_P]
theorem tA_in {r : Rw} {k : Int} (h : tA r k ≠ -1) : 0 ≤ k ∧ k < r 49 1 := by
  unfold tA at h
  split at h
  · assumption
  · exact absurd rfl h
theorem PL.s {r : Rw} (h : PL r) {p : Int} (h0 : 0 ≤ p) (h1 : p ≤ r 49 1) : PL (sF r 1 p) := Box.i ⟨h.o.1, h.o.2.1, h0, h1⟩
theorem PL.av {r : Rw} (h : PL r) (e : tA r (pP r) ≠ -1) : PL (avS r) := h.s (by have := tA_in e; have := h.o.2.2.1; omega) (by have := tA_in e; omega)
theorem PL.sk {r : Rw} (h : PL r) : PL (skS r) := h.s (by have e := skS_rng h.o.2.2.1 h.o.2.2.2; rw [skS_P] at e; exact Int.le_trans h.o.2.2.1 e.1) (skS_rng h.o.2.2.1 h.o.2.2.2).2
theorem tAn {r : Rw} {k x : Int} (h : tA r k = x) (e : x ≠ -1) : tA r k ≠ -1 := by rw [h]; exact e
theorem tAd' {r : Rw} {k : Int} (h : isD (tA r k)) : tA r k ≠ -1 := by omega
def s_X4_skipSpaces : CS := (zc 2, ap [(3, 51)] (fun  h Rt X =>
PL (hI h) ∧ Rt none (wI h (skS (hI h)))))
set_option maxRecDepth 100000 in
set_option maxHeartbeats 4000000 in
theorem o_X4_skipSpaces : Obl true 0 1 (sp [(124, s_X7_length), (125, s_X7_at)]) [] code_X4_skipSpaces s_X4_skipSpaces := by
  refine oblL (by rfl) [(0, [0])] ?_
  intro  h Rt X hh hf hs
  obtain ⟨h1, h2⟩ := hs
  obtain ⟨l0, l1, l2, l3⟩ := h1.o
  refine ⟨fun m pc vs g => ∃ (p : Int), g = wI h (sF (hI h) 1 p) ∧ vs = [.inr (.inr (some 51))] ∧ 0 ≤ p ∧ p ≤ hI h 49 1 ∧ whl (fun k => decide (tA (hI h) k = 32)) (hI h 49 1) p = skS (hI h) 51 1 ∧ m = (hI h 49 1 - p).toNat, ?_, ?_⟩
  · by_cases y : hI h 51 1 < hI h 49 1 ∧ tA (hI h) (hI h 51 1) = 32
    · have e := whl_t (P := fun k => decide (tA (hI h) k = 32)) y.1 (decide_eq_true y.2)
      have y2 := y.2
      have y1 := y.1
      repeat' (first | apply And.intro | (with_reducible assumption) | (intro h9; first | (exfalso; omega) | (simp only [rI_rI, rJ_rJ, hI_rI, hJ_rI, hI_rJ, hJ_rJ, hI_rR, hR_rI, hR_rJ, hN_rI, hN_rJ, svH_63, svH_66, rfH_63, wvH_63, wvH_62, wvH_67, wvH_68, wvH_69, sc_63, sc_n62, sc_n67, sc_n68, sc_n69, sc_n70, reduceIte, Nat.reduceEqDiff, eq_self, up_up, up_self, up_ne, ne_eq, not_false_eq_true, Int.reduceEq, Int.reduceNeg, hI_wI] at h9; first | (exfalso; omega) | skip) | skip) | exact Exists.intro _ ⟨hI h 51 1 + 1, rfl, rfl, by omega, by omega, e.symm, rfl⟩ | exact h1 | exact h1 (by omega) | exact h2 | exact h2 (by omega) | omega | exact True.intro | (simp only [rI_rI, rJ_rJ, hI_rI, hJ_rI, hI_rJ, hJ_rJ, hI_rR, hR_rI, hR_rJ, hN_rI, hN_rJ, svH_63, svH_66, rfH_63, wvH_63, wvH_62, wvH_67, wvH_68, wvH_69, sc_63, sc_n62, sc_n67, sc_n68, sc_n69, sc_n70, reduceIte, Nat.reduceEqDiff, eq_self, up_up, up_self, up_ne, ne_eq, not_false_eq_true, Int.reduceEq, Int.reduceNeg, hI_wI]; omega))
    · have k := h2
      rw [skS_id y] at k
      have k : Rt none h := k
      repeat' (first | apply And.intro | (with_reducible assumption) | (intro h9; first | (exfalso; omega) | (simp only [rI_rI, rJ_rJ, hI_rI, hJ_rI, hI_rJ, hJ_rJ, hI_rR, hR_rI, hR_rJ, hN_rI, hN_rJ, svH_63, svH_66, rfH_63, wvH_63, wvH_62, wvH_67, wvH_68, wvH_69, sc_63, sc_n62, sc_n67, sc_n68, sc_n69, sc_n70, reduceIte, Nat.reduceEqDiff, eq_self, up_up, up_self, up_ne, ne_eq, not_false_eq_true, Int.reduceEq, Int.reduceNeg, hI_wI] at h9; first | (exfalso; omega) | skip) | skip) | exact absurd ⟨by omega, by assumption⟩ y | exact k | exact h1 | exact h1 (by omega) | exact h2 | exact h2 (by omega) | omega | exact True.intro | (simp only [rI_rI, rJ_rJ, hI_rI, hJ_rI, hI_rJ, hJ_rJ, hI_rR, hR_rI, hR_rJ, hN_rI, hN_rJ, svH_63, svH_66, rfH_63, wvH_63, wvH_62, wvH_67, wvH_68, wvH_69, sc_63, sc_n62, sc_n67, sc_n68, sc_n69, sc_n70, reduceIte, Nat.reduceEqDiff, eq_self, up_up, up_self, up_ne, ne_eq, not_false_eq_true, Int.reduceEq, Int.reduceNeg, hI_wI]; omega))
  · rintro m pc vs' vs g hl ⟨p, rfl, rfl, i1, i2, i3, rfl⟩ hv hh1 hf1
    obtain ⟨rfl, rfl⟩ := look1 hl
    have a1 : sF (hI h) 1 p 49 1 = hI h 49 1 := rfl
    have a2 : sF (hI h) 1 p 51 1 = p := up_self (hI h 51) 1 p
    have a3 : tA (sF (hI h) 1 p) (sF (hI h) 1 p 51 1) = tA (hI h) p := by rw [a2]; rfl
    by_cases y : p < hI h 49 1 ∧ tA (hI h) p = 32
    · have e := whl_t (P := fun k => decide (tA (hI h) k = 32)) y.1 (decide_eq_true y.2)
      have y2 := y.2
      have y1 := y.1
      repeat' (first | apply And.intro | (with_reducible assumption) | (intro h9; first | (exfalso; omega) | (simp only [rI_rI, rJ_rJ, hI_rI, hJ_rI, hI_rJ, hJ_rJ, hI_rR, hR_rI, hR_rJ, hN_rI, hN_rJ, svH_63, svH_66, rfH_63, wvH_63, wvH_62, wvH_67, wvH_68, wvH_69, sc_63, sc_n62, sc_n67, sc_n68, sc_n69, sc_n70, reduceIte, Nat.reduceEqDiff, eq_self, up_up, up_self, up_ne, ne_eq, not_false_eq_true, Int.reduceEq, Int.reduceNeg, hI_wI] at h9; first | (exfalso; omega) | skip) | skip) | exact Exists.intro _ ⟨by omega, p + 1, (congrArg (wI h) (sF_nx (hI h) p)), rfl, by omega, by omega, e.symm.trans i3, rfl⟩ | exact absurd (a3.trans y2) (by assumption) | exact h1 | exact h1 (by omega) | exact h2 | exact h2 (by omega) | omega | exact True.intro | (simp only [rI_rI, rJ_rJ, hI_rI, hJ_rI, hI_rJ, hJ_rJ, hI_rR, hR_rI, hR_rJ, hN_rI, hN_rJ, svH_63, svH_66, rfH_63, wvH_63, wvH_62, wvH_67, wvH_68, wvH_69, sc_63, sc_n62, sc_n67, sc_n68, sc_n69, sc_n70, reduceIte, Nat.reduceEqDiff, eq_self, up_up, up_self, up_ne, ne_eq, not_false_eq_true, Int.reduceEq, Int.reduceNeg, hI_wI]; omega))
    · have e := whl_f (P := fun k => decide (tA (hI h) k = 32)) (L := hI h 49 1) (p := p) (by
        by_cases z : p < hI h 49 1
        · exact Or.inr (decide_eq_false fun q => y ⟨z, q⟩)
        · exact Or.inl z)
      have e2 : p = skS (hI h) 51 1 := e.symm.trans i3
      have k : Rt none (wI h (sF (hI h) 1 p)) := by rw [e2]; exact h2
      repeat' (first | apply And.intro | (with_reducible assumption) | (intro h9; first | (exfalso; omega) | (simp only [rI_rI, rJ_rJ, hI_rI, hJ_rI, hI_rJ, hJ_rJ, hI_rR, hR_rI, hR_rJ, hN_rI, hN_rJ, svH_63, svH_66, rfH_63, wvH_63, wvH_62, wvH_67, wvH_68, wvH_69, sc_63, sc_n62, sc_n67, sc_n68, sc_n69, sc_n70, reduceIte, Nat.reduceEqDiff, eq_self, up_up, up_self, up_ne, ne_eq, not_false_eq_true, Int.reduceEq, Int.reduceNeg, hI_wI] at h9; first | (exfalso; omega) | skip) | skip) | exact absurd ⟨by omega, a3.symm.trans (by assumption)⟩ y | exact k | exact h1 | exact h1 (by omega) | exact h2 | exact h2 (by omega) | omega | exact True.intro | (simp only [rI_rI, rJ_rJ, hI_rI, hJ_rI, hI_rJ, hJ_rJ, hI_rR, hR_rI, hR_rJ, hN_rI, hN_rJ, svH_63, svH_66, rfH_63, wvH_63, wvH_62, wvH_67, wvH_68, wvH_69, sc_63, sc_n62, sc_n67, sc_n68, sc_n69, sc_n70, reduceIte, Nat.reduceEqDiff, eq_self, up_up, up_self, up_ne, ne_eq, not_false_eq_true, Int.reduceEq, Int.reduceNeg, hI_wI]; omega))
theorem m_X4_skipSpaces : MM 90 s_X4_skipSpaces := mm_of (own := 3) (by rfl) k_X4_skipSpaces (cl := [(124, s_X7_length), (125, s_X7_at)]) ⟨m_X7_length, m_X7_at, trivial⟩ o_X4_skipSpaces

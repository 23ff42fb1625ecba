/-! ===== the class: shifts in lanes ===== -/
theorem ib_mul {A s j : Int} (h0 : 0 ≤ s) (h1 : 0 ≤ j) : A * p2 s / p2 j % 2 = if s ≤ j then A / p2 (j - s) % 2 else 0 := by
  have hs := p2_pos s
  have hj := p2_pos j
  by_cases e : s ≤ j
  · rw [if_pos e, show p2 j = p2 s * p2 (j - s) by rw [← p2_add h0 (by omega)]; congr 1; omega, ← Int.ediv_ediv_of_nonneg (by omega), Int.mul_ediv_cancel _ (by omega)]
  · rw [if_neg e, show p2 s = 2 * p2 (s - j - 1) * p2 j by rw [← p2_succ (by omega), ← p2_add (by omega) h1]; congr 1; omega, ← Int.mul_assoc, Int.mul_ediv_cancel _ (by omega), Int.mul_left_comm, Int.mul_emod_right]
/-- a lane's plane shifted left where -/
def slB (P : Int → Int64) (to s : Int) (w : Int64) (j : Int) (l : Nat) : Bool := if lb w l then (if s ≤ j then lb (P (to + j - s)) l else false) else lb (P (to + j)) l
theorem sl_fin {P Q : Int → Int64} {to s k : Int} {w : Int64} (h0 : 0 ≤ k) (hs : 0 ≤ s) (h : Bt Q to k (slB P to s w)) : Ln Q to k (fun l => if lb w l then lw P l to k.toNat * p2 s % p2 k else lw P l to k.toNat) := Box.i fun l hl => by
  show _ = if lb w l then lw P l to k.toNat * p2 s % p2 k else lw P l to k.toNat
  by_cases e : lb w l = true
  · rw [if_pos e]
    refine lw_val h0 fun j a b => ?_
    rw [h.o j a b l hl, ib_mul hs a]
    unfold slB
    rw [if_pos e]
    by_cases g : s ≤ j
    · rw [if_pos g, if_pos g, lw_biti P l to (show 0 ≤ j - s by omega) (by omega)]
      congr 3
      omega
    · rw [if_neg g, if_neg g]; rfl
  · rw [if_neg e]
    refine lw_cg k.toNat fun j a b => ?_
    rw [h.o j a (by omega) l hl]
    unfold slB
    rw [if_neg e]
def s_X3_shiftLeft : CS := (zc 1, ap [(3, 43), (0, 0), (0, 0), (0, 0), (1, 0)] (fun to k s w h Rt X =>
(0 ≤ k ∧ k ≤ 8 ∧ 0 ≤ to ∧ to ≤ 320 ∧ 0 < s ∧ s ≤ 128) ∧ ∀ Q, Wr (hJ h 44) Q to k → Ln Q to k (fun l => if lb w l then lw (hJ h 44) l to k.toNat * p2 s % p2 k else lw (hJ h 44) l to k.toNat) → Rt none (rJ h 44 Q)))
set_option maxRecDepth 100000 in
set_option maxHeartbeats 4000000 in
theorem o_X3_shiftLeft : Obl true 0 9 (sp []) [] code_X3_shiftLeft s_X3_shiftLeft := by
  refine oblL (by rfl) [(5, [0, 1, 3, 4, 6])] ?_
  intro to r_to k r_k s r_s w h Rt X hh hf hs
  obtain ⟨⟨a1, a2, a3, a4, a5, a6⟩, h2⟩ := hs
  refine ⟨fun m pc vs g => ∃ (i : Int) (Q : Int → Int64), g = rJ h 44 Q ∧ vs = [.inr (.inr (some 43)), .inl to, .inl s, .inr (.inl w), .inl i] ∧ -1 ≤ i ∧ i < k ∧ Box (∀ x, ¬ (to + i < x ∧ x < to + k) → Q x = hJ h 44 x) ∧ Box (∀ j, i < j → j < k → ∀ l, l < 64 → lb (Q (to + j)) l = slB (hJ h 44) to s w j l) ∧ m = (i + 1).toNat, ?_, ?_⟩
  · repeat' (first | apply And.intro | (with_reducible assumption) | (intro h9; first | (exfalso; omega) | (simp only [rI_rI, rJ_rJ, hI_rI, hJ_rI, hI_rJ, hJ_rJ, hI_rR, hR_rI, hR_rJ, hN_rI, hN_rJ, svH_63, svH_66, rfH_63, wvH_63, wvH_62, wvH_67, wvH_68, wvH_69, sc_63, sc_n62, sc_n67, sc_n68, sc_n69, sc_n70, reduceIte, Nat.reduceEqDiff, eq_self, up_up, up_self, up_ne, ne_eq, not_false_eq_true, Int.reduceEq, Int.reduceNeg] at h9; first | (exfalso; omega) | skip) | skip) | exact Exists.intro _ ⟨k - 1, hJ h 44, (rJ_id h 44).symm, rfl, by omega, by omega, Box.i (fun _ _ => rfl), Box.i (fun j a b => by omega), rfl⟩ | exact h2 | exact h2 (by omega) | omega | exact True.intro | (simp only [rI_rI, rJ_rJ, hI_rI, hJ_rI, hI_rJ, hJ_rJ, hI_rR, hR_rI, hR_rJ, hN_rI, hN_rJ, svH_63, svH_66, rfH_63, wvH_63, wvH_62, wvH_67, wvH_68, wvH_69, sc_63, sc_n62, sc_n67, sc_n68, sc_n69, sc_n70, reduceIte, Nat.reduceEqDiff, eq_self, up_up, up_self, up_ne, ne_eq, not_false_eq_true, Int.reduceEq, Int.reduceNeg]; omega))
  · rintro m pc live vs g hl ⟨i, Q, rfl, rfl, i1, i2, i3, i4, rfl⟩ hv hh1 hf1
    obtain ⟨rfl, rfl⟩ := look1 hl
    by_cases z : 0 ≤ i
    · have w3 : ∀ x, Box (∀ y, ¬ (to + (i + -1) < y ∧ y < to + k) → up Q (to + i) x y = hJ h 44 y) := fun x => Box.i fun y hy => by rw [up_ne (by omega)]; exact i3.o y (by omega)
      have w4 : ∀ x, (∀ l, l < 64 → lb x l = slB (hJ h 44) to s w i l) → Box (∀ j, i + -1 < j → j < k → ∀ l, l < 64 → lb (up Q (to + i) x (to + j)) l = slB (hJ h 44) to s w j l) := fun x hx => Box.i fun j a b l hl => by
        by_cases e : j = i
        · subst e; rw [up_self]; exact hx l hl
        · rw [up_ne (by omega)]; exact i4.o j (by omega) b l hl
      have e1 : hJ (rJ h 44 Q) 44 (to + i) = hJ h 44 (to + i) := i3.o _ (by omega)
      have e2 : hJ (rJ h 44 Q) 44 (to + i - s) = hJ h 44 (to + i - s) := i3.o _ (by omega)
      by_cases y : s ≤ i
      · have x : ∀ l, l < 64 → lb (hJ (rJ h 44 Q) 44 (to + i - s) &&& w ||| hJ (rJ h 44 Q) 44 (to + i) &&& (w ^^^ Int64.ofNat 18446744073709551615)) l = slB (hJ h 44) to s w i l := fun l hl => by
          rw [lb_or, lb_and, lb_and, lb_not hl, e1, e2]
          unfold slB
          rw [if_pos y]
          cases lb w l <;> simp
        repeat' (first | apply And.intro | (with_reducible assumption) | (intro h9; first | (exfalso; omega) | (simp only [rI_rI, rJ_rJ, hI_rI, hJ_rI, hI_rJ, hJ_rJ, hI_rR, hR_rI, hR_rJ, hN_rI, hN_rJ, svH_63, svH_66, rfH_63, wvH_63, wvH_62, wvH_67, wvH_68, wvH_69, sc_63, sc_n62, sc_n67, sc_n68, sc_n69, sc_n70, reduceIte, Nat.reduceEqDiff, eq_self, up_up, up_self, up_ne, ne_eq, not_false_eq_true, Int.reduceEq, Int.reduceNeg] at h9; first | (exfalso; omega) | skip) | skip) | exact Exists.intro _ ⟨by omega, i + -1, _, rJ_44 _ _ _ _, rfl, by omega, by omega, w3 _, w4 _ x, rfl⟩ | exact h2 | exact h2 (by omega) | omega | exact True.intro | (simp only [rI_rI, rJ_rJ, hI_rI, hJ_rI, hI_rJ, hJ_rJ, hI_rR, hR_rI, hR_rJ, hN_rI, hN_rJ, svH_63, svH_66, rfH_63, wvH_63, wvH_62, wvH_67, wvH_68, wvH_69, sc_63, sc_n62, sc_n67, sc_n68, sc_n69, sc_n70, reduceIte, Nat.reduceEqDiff, eq_self, up_up, up_self, up_ne, ne_eq, not_false_eq_true, Int.reduceEq, Int.reduceNeg]; omega))
      · have x : ∀ l, l < 64 → lb (0 &&& w ||| hJ (rJ h 44 Q) 44 (to + i) &&& (w ^^^ Int64.ofNat 18446744073709551615)) l = slB (hJ h 44) to s w i l := fun l hl => by
          rw [lb_or, lb_and, lb_and, lb_not hl, e1, lb_0]
          unfold slB
          rw [if_neg y]
          cases lb w l <;> simp
        repeat' (first | apply And.intro | (with_reducible assumption) | (intro h9; first | (exfalso; omega) | (simp only [rI_rI, rJ_rJ, hI_rI, hJ_rI, hI_rJ, hJ_rJ, hI_rR, hR_rI, hR_rJ, hN_rI, hN_rJ, svH_63, svH_66, rfH_63, wvH_63, wvH_62, wvH_67, wvH_68, wvH_69, sc_63, sc_n62, sc_n67, sc_n68, sc_n69, sc_n70, reduceIte, Nat.reduceEqDiff, eq_self, up_up, up_self, up_ne, ne_eq, not_false_eq_true, Int.reduceEq, Int.reduceNeg] at h9; first | (exfalso; omega) | skip) | skip) | exact Exists.intro _ ⟨by omega, i + -1, _, rJ_44 _ _ _ _, rfl, by omega, by omega, w3 _, w4 _ x, rfl⟩ | exact h2 | exact h2 (by omega) | omega | exact True.intro | (simp only [rI_rI, rJ_rJ, hI_rI, hJ_rI, hI_rJ, hJ_rJ, hI_rR, hR_rI, hR_rJ, hN_rI, hN_rJ, svH_63, svH_66, rfH_63, wvH_63, wvH_62, wvH_67, wvH_68, wvH_69, sc_63, sc_n62, sc_n67, sc_n68, sc_n69, sc_n70, reduceIte, Nat.reduceEqDiff, eq_self, up_up, up_self, up_ne, ne_eq, not_false_eq_true, Int.reduceEq, Int.reduceNeg]; omega))
    · obtain rfl : i = -1 := by omega
      have w5 : Wr (hJ h 44) Q to k := Box.i fun y hy => i3.o y (by omega)
      have w6 : Bt Q to k (slB (hJ h 44) to s w) := Box.i fun j a b l hl => i4.o j (by omega) b l hl
      have k2 := h2 Q w5 (sl_fin a1 (by omega) w6)
      repeat' (first | apply And.intro | (with_reducible assumption) | (intro h9; first | (exfalso; omega) | (simp only [rI_rI, rJ_rJ, hI_rI, hJ_rI, hI_rJ, hJ_rJ, hI_rR, hR_rI, hR_rJ, hN_rI, hN_rJ, svH_63, svH_66, rfH_63, wvH_63, wvH_62, wvH_67, wvH_68, wvH_69, sc_63, sc_n62, sc_n67, sc_n68, sc_n69, sc_n70, reduceIte, Nat.reduceEqDiff, eq_self, up_up, up_self, up_ne, ne_eq, not_false_eq_true, Int.reduceEq, Int.reduceNeg] at h9; first | (exfalso; omega) | skip) | skip) | exact k2 | exact h2 | exact h2 (by omega) | omega | exact True.intro | (simp only [rI_rI, rJ_rJ, hI_rI, hJ_rI, hI_rJ, hJ_rJ, hI_rR, hR_rI, hR_rJ, hN_rI, hN_rJ, svH_63, svH_66, rfH_63, wvH_63, wvH_62, wvH_67, wvH_68, wvH_69, sc_63, sc_n62, sc_n67, sc_n68, sc_n69, sc_n70, reduceIte, Nat.reduceEqDiff, eq_self, up_up, up_self, up_ne, ne_eq, not_false_eq_true, Int.reduceEq, Int.reduceNeg]; omega))
theorem m_X3_shiftLeft : MM 63 s_X3_shiftLeft := mm_of (own := 2) (by rfl) k_X3_shiftLeft (cl := []) trivial o_X3_shiftLeft
def srB (P : Int → Int64) (to s k : Int) (w f : Int64) (j : Int) (l : Nat) : Bool := if lb w l then (if j + s < k then lb (P (to + j + s)) l else lb f l) else lb (P (to + j)) l
/-- a word with copies of a bit ahead of it -/
def exW (A f k : Int) : Int := A - f * p2 k
theorem exW_bit {A f k m : Int} (hA0 : 0 ≤ A) (hA1 : A < p2 k) (hf : f = 0 ∨ f = 1) (hm : 0 ≤ m) (hk : 0 ≤ k) : exW A f k / p2 m % 2 = if m < k then A / p2 m % 2 else f := by
  have hp := p2_pos m
  have hpk := p2_pos k
  unfold exW
  by_cases e : m < k
  · rw [if_pos e]
    have e1 : p2 k = 2 * p2 (k - m - 1) * p2 m := by rw [← p2_succ (by omega), ← p2_add (by omega) hm]; congr 1; omega
    rw [show A - f * p2 k = A + (-(f * p2 (k - m - 1)) * 2) * p2 m by rw [e1, Int.neg_mul, Int.neg_mul]; simp only [Int.mul_assoc, Int.mul_comm, Int.mul_left_comm]; omega, Int.add_mul_ediv_right _ _ (by omega), Int.mul_comm _ 2, Int.add_mul_emod_self_left]
  · rw [if_neg e]
    have hle : p2 k ≤ p2 m := p2_le (by omega)
    rcases hf with rfl | rfl
    · rw [Int.zero_mul, Int.sub_zero, Int.ediv_eq_zero_of_lt hA0 (by omega)]; rfl
    · rw [Int.one_mul]
      have : (A - p2 k) / p2 m = -1 := by
        rw [Int.ediv_eq_iff_of_pos hp]
        omega
      rw [this]; rfl
theorem sr_fin {P Q : Int → Int64} {to s k : Int} {w f : Int64} (h0 : 0 ≤ k) (hs : 0 ≤ s) (h : Bt Q to k (srB P to s k w f)) : Ln Q to k (fun l => if lb w l then exW (lw P l to k.toNat) (b2 (lb f l)) k / p2 s % p2 k else lw P l to k.toNat) := Box.i fun l hl => by
  show _ = if lb w l then exW (lw P l to k.toNat) (b2 (lb f l)) k / p2 s % p2 k else lw P l to k.toNat
  have r := lw_rngi P l to h0
  by_cases e : lb w l = true
  · rw [if_pos e]
    refine lw_val h0 fun j a b => ?_
    have hq := p2_pos s
    rw [h.o j a b l hl, Int.ediv_ediv_of_nonneg (by omega), ← p2_add hs a, exW_bit r.1 r.2 (b2_01 _) (by omega) h0]
    unfold srB
    rw [if_pos e]
    by_cases g : j + s < k
    · rw [if_pos g, if_pos (by omega), lw_biti P l to (show 0 ≤ s + j by omega) (by omega)]
      congr 3
      omega
    · rw [if_neg g, if_neg (by omega)]
  · rw [if_neg e]
    refine lw_cg k.toNat fun j a b => ?_
    rw [h.o j a (by omega) l hl]
    unfold srB
    rw [if_neg e]
def s_X3_shiftRight : CS := (zc 1, ap [(3, 43), (0, 0), (0, 0), (0, 0), (1, 0), (1, 0)] (fun to k s w f h Rt X =>
(0 ≤ k ∧ k ≤ 8 ∧ 0 ≤ to ∧ to ≤ 320 ∧ 0 < s ∧ s ≤ 128) ∧ ∀ Q, Wr (hJ h 44) Q to k → Ln Q to k (fun l => if lb w l then exW (lw (hJ h 44) l to k.toNat) (b2 (lb f l)) k / p2 s % p2 k else lw (hJ h 44) l to k.toNat) → Rt none (rJ h 44 Q)))
set_option maxRecDepth 100000 in
set_option maxHeartbeats 4000000 in
theorem o_X3_shiftRight : Obl true 0 11 (sp []) [] code_X3_shiftRight s_X3_shiftRight := by
  refine oblL (by rfl) [(3, [0, 1, 2, 3, 4, 6, 8])] ?_
  intro to r_to k r_k s r_s w f h Rt X hh hf hs
  obtain ⟨⟨a1, a2, a3, a4, a5, a6⟩, h2⟩ := hs
  refine ⟨fun m pc vs g => ∃ (i : Int) (Q : Int → Int64), g = rJ h 44 Q ∧ vs = [.inr (.inr (some 43)), .inl to, .inl k, .inl s, .inr (.inl w), .inr (.inl f), .inl i] ∧ 0 ≤ i ∧ i ≤ k ∧ Wr (hJ h 44) Q to i ∧ Bt Q to i (srB (hJ h 44) to s k w f) ∧ m = (k - i).toNat, ?_, ?_⟩
  · repeat' (first | apply And.intro | (with_reducible assumption) | (intro h9; first | (exfalso; omega) | (simp only [rI_rI, rJ_rJ, hI_rI, hJ_rI, hI_rJ, hJ_rJ, hI_rR, hR_rI, hR_rJ, hN_rI, hN_rJ, svH_63, svH_66, rfH_63, wvH_63, wvH_62, wvH_67, wvH_68, wvH_69, sc_63, sc_n62, sc_n67, sc_n68, sc_n69, sc_n70, reduceIte, Nat.reduceEqDiff, eq_self, up_up, up_self, up_ne, ne_eq, not_false_eq_true, Int.reduceEq, Int.reduceNeg] at h9; first | (exfalso; omega) | skip) | skip) | exact Exists.intro _ ⟨0, hJ h 44, (rJ_id h 44).symm, rfl, by omega, by omega, Wr.z _ _, Bt.z _ _ _, rfl⟩ | exact h2 | exact h2 (by omega) | omega | exact True.intro | (simp only [rI_rI, rJ_rJ, hI_rI, hJ_rI, hI_rJ, hJ_rJ, hI_rR, hR_rI, hR_rJ, hN_rI, hN_rJ, svH_63, svH_66, rfH_63, wvH_63, wvH_62, wvH_67, wvH_68, wvH_69, sc_63, sc_n62, sc_n67, sc_n68, sc_n69, sc_n70, reduceIte, Nat.reduceEqDiff, eq_self, up_up, up_self, up_ne, ne_eq, not_false_eq_true, Int.reduceEq, Int.reduceNeg]; omega))
  · rintro m pc live vs g hl ⟨i, Q, rfl, rfl, i1, i2, i3, i4, rfl⟩ hv hh1 hf1
    obtain ⟨rfl, rfl⟩ := look1 hl
    by_cases z : i < k
    · have e1 : hJ (rJ h 44 Q) 44 (to + i) = hJ h 44 (to + i) := i3.o _ (by omega)
      by_cases y : i + s < k
      · have e2 : hJ (rJ h 44 Q) 44 (to + i + s) = hJ h 44 (to + i + s) := i3.o _ (by omega)
        have x : ∀ l, l < 64 → lb (hJ (rJ h 44 Q) 44 (to + i + s) &&& w ||| hJ (rJ h 44 Q) 44 (to + i) &&& (w ^^^ Int64.ofNat 18446744073709551615)) l = srB (hJ h 44) to s k w f i l := fun l hl => by
          rw [lb_or, lb_and, lb_and, lb_not hl, e1, e2]
          unfold srB
          rw [if_pos y]
          cases lb w l <;> simp
        repeat' (first | apply And.intro | (with_reducible assumption) | (intro h9; first | (exfalso; omega) | (simp only [rI_rI, rJ_rJ, hI_rI, hJ_rI, hI_rJ, hJ_rJ, hI_rR, hR_rI, hR_rJ, hN_rI, hN_rJ, svH_63, svH_66, rfH_63, wvH_63, wvH_62, wvH_67, wvH_68, wvH_69, sc_63, sc_n62, sc_n67, sc_n68, sc_n69, sc_n70, reduceIte, Nat.reduceEqDiff, eq_self, up_up, up_self, up_ne, ne_eq, not_false_eq_true, Int.reduceEq, Int.reduceNeg] at h9; first | (exfalso; omega) | skip) | skip) | exact Exists.intro _ ⟨by omega, i + 1, _, rJ_44 _ _ _ _, rfl, by omega, by omega, i3.st _ i1, i4.st x, rfl⟩ | exact h2 | exact h2 (by omega) | omega | exact True.intro | (simp only [rI_rI, rJ_rJ, hI_rI, hJ_rI, hI_rJ, hJ_rJ, hI_rR, hR_rI, hR_rJ, hN_rI, hN_rJ, svH_63, svH_66, rfH_63, wvH_63, wvH_62, wvH_67, wvH_68, wvH_69, sc_63, sc_n62, sc_n67, sc_n68, sc_n69, sc_n70, reduceIte, Nat.reduceEqDiff, eq_self, up_up, up_self, up_ne, ne_eq, not_false_eq_true, Int.reduceEq, Int.reduceNeg]; omega))
      · have x : ∀ l, l < 64 → lb (f &&& w ||| hJ (rJ h 44 Q) 44 (to + i) &&& (w ^^^ Int64.ofNat 18446744073709551615)) l = srB (hJ h 44) to s k w f i l := fun l hl => by
          rw [lb_or, lb_and, lb_and, lb_not hl, e1]
          unfold srB
          rw [if_neg y]
          cases lb w l <;> simp
        repeat' (first | apply And.intro | (with_reducible assumption) | (intro h9; first | (exfalso; omega) | (simp only [rI_rI, rJ_rJ, hI_rI, hJ_rI, hI_rJ, hJ_rJ, hI_rR, hR_rI, hR_rJ, hN_rI, hN_rJ, svH_63, svH_66, rfH_63, wvH_63, wvH_62, wvH_67, wvH_68, wvH_69, sc_63, sc_n62, sc_n67, sc_n68, sc_n69, sc_n70, reduceIte, Nat.reduceEqDiff, eq_self, up_up, up_self, up_ne, ne_eq, not_false_eq_true, Int.reduceEq, Int.reduceNeg] at h9; first | (exfalso; omega) | skip) | skip) | exact Exists.intro _ ⟨by omega, i + 1, _, rJ_44 _ _ _ _, rfl, by omega, by omega, i3.st _ i1, i4.st x, rfl⟩ | exact h2 | exact h2 (by omega) | omega | exact True.intro | (simp only [rI_rI, rJ_rJ, hI_rI, hJ_rI, hI_rJ, hJ_rJ, hI_rR, hR_rI, hR_rJ, hN_rI, hN_rJ, svH_63, svH_66, rfH_63, wvH_63, wvH_62, wvH_67, wvH_68, wvH_69, sc_63, sc_n62, sc_n67, sc_n68, sc_n69, sc_n70, reduceIte, Nat.reduceEqDiff, eq_self, up_up, up_self, up_ne, ne_eq, not_false_eq_true, Int.reduceEq, Int.reduceNeg]; omega))
    · obtain rfl : i = k := by omega
      have k2 := h2 Q i3 (sr_fin a1 (by omega) i4)
      repeat' (first | apply And.intro | (with_reducible assumption) | (intro h9; first | (exfalso; omega) | (simp only [rI_rI, rJ_rJ, hI_rI, hJ_rI, hI_rJ, hJ_rJ, hI_rR, hR_rI, hR_rJ, hN_rI, hN_rJ, svH_63, svH_66, rfH_63, wvH_63, wvH_62, wvH_67, wvH_68, wvH_69, sc_63, sc_n62, sc_n67, sc_n68, sc_n69, sc_n70, reduceIte, Nat.reduceEqDiff, eq_self, up_up, up_self, up_ne, ne_eq, not_false_eq_true, Int.reduceEq, Int.reduceNeg] at h9; first | (exfalso; omega) | skip) | skip) | exact k2 | exact h2 | exact h2 (by omega) | omega | exact True.intro | (simp only [rI_rI, rJ_rJ, hI_rI, hJ_rI, hI_rJ, hJ_rJ, hI_rR, hR_rI, hR_rJ, hN_rI, hN_rJ, svH_63, svH_66, rfH_63, wvH_63, wvH_62, wvH_67, wvH_68, wvH_69, sc_63, sc_n62, sc_n67, sc_n68, sc_n69, sc_n70, reduceIte, Nat.reduceEqDiff, eq_self, up_up, up_self, up_ne, ne_eq, not_false_eq_true, Int.reduceEq, Int.reduceNeg]; omega))
theorem m_X3_shiftRight : MM 64 s_X3_shiftRight := mm_of (own := 2) (by rfl) k_X3_shiftRight (cl := []) trivial o_X3_shiftRight
/-- what stands in the lanes after some bits of the second operand -/
def shI (n A f B k : Int) : Int := if n = 8 then A * p2 B % p2 k else exW A f k / p2 B + f * p2 k
theorem shI_0 {n A f k : Int} (h0 : 0 ≤ A) (h1 : A < p2 k) : shI n A f 0 k = A := by
  unfold shI exW
  rw [p2_0]
  split
  · rw [Int.mul_one, Int.emod_eq_of_lt h0 h1]
  · rw [Int.ediv_one]; omega
theorem exd_rng {A f B k : Int} (hA0 : 0 ≤ A) (hA1 : A < p2 k) (hf : f = 0 ∨ f = 1) : 0 ≤ exW A f k / p2 B + f * p2 k ∧ exW A f k / p2 B + f * p2 k < p2 k := by
  have hp := p2_pos B
  have hk := p2_pos k
  unfold exW
  rcases hf with rfl | rfl
  · rw [Int.zero_mul, Int.sub_zero, Int.add_zero]
    exact div_rng hA0 hA1 (by omega)
  · rw [Int.one_mul]
    have h1 : (A - p2 k) / p2 B < 0 := Int.ediv_neg_of_neg_of_pos (by omega) hp
    have h2 : -p2 k ≤ (A - p2 k) / p2 B := by
      rw [Int.le_ediv_iff_mul_le hp]
      have : p2 k * 1 ≤ p2 k * p2 B := Int.mul_le_mul_of_nonneg_left (by omega) (by omega)
      rw [Int.neg_mul]
      omega
    omega
theorem shI_st {n A f B k i x : Int} (hA0 : 0 ≤ A) (hA1 : A < p2 k) (hf : f = 0 ∨ f = 1) (hB : 0 ≤ B) (hi : 0 ≤ i) (hx : x = 0 ∨ x = 1) :
    (if n = 8 then (if x = 1 then shI n A f B k * p2 (p2 i) % p2 k else shI n A f B k) else (if x = 1 then exW (shI n A f B k) f k / p2 (p2 i) % p2 k else shI n A f B k)) = shI n A f (B + x * p2 i) k := by
  have hpi := p2_pos i
  rcases hx with rfl | rfl
  · rw [Int.zero_mul, Int.add_zero]
    simp
  · rw [Int.one_mul, if_pos rfl, if_pos rfl]
    have e := p2_add hB (show 0 ≤ p2 i by omega)
    unfold shI
    by_cases e8 : n = 8
    · rw [if_pos e8, if_pos e8, if_pos e8, e, Int.mul_emod (A * p2 B % p2 k), Int.emod_emod, ← Int.mul_emod, Int.mul_assoc]
    · rw [if_neg e8, if_neg e8, if_neg e8]
      have hq := p2_pos B
      have r := exd_rng (B := B + p2 i) hA0 hA1 hf
      have e2 : exW (exW A f k / p2 B + f * p2 k) f k = exW A f k / p2 B := by
        show exW A f k / p2 B + f * p2 k - f * p2 k = _
        omega
      rw [e2, Int.ediv_ediv_of_nonneg (by omega), ← e]
      have e3 : exW A f k / p2 (B + p2 i) % p2 k = (exW A f k / p2 (B + p2 i) + f * p2 k) % p2 k := by rw [Int.add_mul_emod_self_right]
      rw [e3, Int.emod_eq_of_lt r.1 r.2]
theorem shI_fin {n A B f k : Int} (hn : n = 8 ∨ n = 9 ∨ n = 10) (hk : 1 ≤ k) (hA0 : 0 ≤ A) (hA1 : A < p2 k) (hB : 0 ≤ B) (hf : f = if n = 10 ∧ p2 (k - 1) ≤ A then 1 else 0) : shI n A f B k = shfW n A B k := by
  have hpB := p2_pos B
  have hpk := p2_pos k
  unfold shI shfW
  rcases hn with rfl | rfl | rfl
  · rw [if_pos rfl, if_neg (by decide), if_pos rfl]
    by_cases g : k ≤ B
    · rw [if_pos g, show p2 B = p2 k * p2 (B - k) by rw [← p2_add (by omega) (by omega)]; congr 1; omega, Int.mul_left_comm, Int.mul_emod_right]
    · rw [if_neg g]
  · rw [if_neg (show ¬ (9 : Int) = 8 by decide), if_neg (show ¬ (9 : Int) = 10 by decide)]
    have f0 : f = 0 := by rw [hf, if_neg (by omega)]
    unfold exW
    rw [f0, Int.zero_mul, Int.sub_zero, Int.add_zero]
    by_cases g : k ≤ B
    · rw [if_pos g, Int.ediv_eq_zero_of_lt hA0 (Int.lt_of_lt_of_le hA1 (p2_le g))]
    · rw [if_neg g, if_neg (by decide)]
  · rw [if_neg (by decide), if_pos rfl]
    have ef : exW A f k = sgn A k := by
      unfold exW sgn
      rw [hf]
      by_cases g : p2 (k - 1) ≤ A
      · rw [if_pos ⟨rfl, g⟩, if_pos g, Int.one_mul]
      · rw [if_neg (fun q => g q.2), if_neg g, Int.zero_mul, Int.sub_zero]
    have f01 : f = 0 ∨ f = 1 := by
      rw [hf]
      split
      · exact Or.inr rfl
      · exact Or.inl rfl
    have r := exd_rng (B := B) hA0 hA1 f01
    have e3 : exW A f k / p2 B + f * p2 k = exW A f k / p2 B % p2 k := by
      rw [show exW A f k / p2 B % p2 k = (exW A f k / p2 B + f * p2 k) % p2 k by rw [Int.add_mul_emod_self_right], Int.emod_eq_of_lt r.1 r.2]
    rw [e3, ef]
    by_cases g : B < k
    · rw [if_pos g]
    · rw [if_neg g]
      congr 1
      have hle : p2 k ≤ p2 B := p2_le (by omega)
      unfold sgn
      by_cases y : p2 (k - 1) ≤ A
      · rw [if_pos y]
        have a1 : (A - p2 k) / p2 B = -1 := by rw [Int.ediv_eq_iff_of_pos hpB]; omega
        have a2 : (A - p2 k) / p2 k = -1 := by rw [Int.ediv_eq_iff_of_pos hpk]; omega
        rw [a1, a2]
      · rw [if_neg y, Int.ediv_eq_zero_of_lt hA0 (by omega), Int.ediv_eq_zero_of_lt hA0 hA1]

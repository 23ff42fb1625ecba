/-! ===== the class: products, bits, comparisons in lanes ===== -/
theorem look3' {a b c : Nat} {l k m : List Nat} {pc : Nat} {x : List Nat} (h : look [(a, l), (b, k), (c, m)] pc = some x) : (pc = a ∧ x = l) ∨ (pc = b ∧ x = k) ∨ (pc = c ∧ x = m) := look3 h
theorem mul1 {P Q : Int → Int64} {a b to i : Int} (h0 : 0 ≤ i) (hw : Wr P Q to i) (h : Box (∀ l, l < 64 → lw Q l to i.toNat = b2 (lb (P b) l) * lw P l a i.toNat)) : Box (∀ l, l < 64 → lw (up Q (to + i) (P (a + i) &&& P b)) l to (i + 1).toNat = b2 (lb (P b) l) * lw P l a (i + 1).toNat) := Box.i fun l hl => by
  rw [lw_upi h0, h.o l hl, lw_i P l a h0, Int.mul_add, lb_and]
  congr 1
  cases lb (P b) l <;> cases lb (P (a + i)) l <;> simp [b2]
theorem mul1f {P Q : Int → Int64} {a b to k : Int} (h1 : 1 ≤ k) (h : Box (∀ l, l < 64 → lw Q l to k.toNat = b2 (lb (P b) l) * lw P l a k.toNat)) : Ln Q to k (fun l => lw P l a k.toNat * lw P l b (1 : Int).toNat % p2 k) := Box.i fun l hl => by
  have e1 : lw P l b (1 : Int).toNat = b2 (lb (P b) l) := by
    show (0 : Int) + b2 (lb (P (b + ((0 : Nat) : Int))) l) * p2 ((0 : Nat) : Int) = _
    rw [show ((0 : Nat) : Int) = 0 from rfl, Int.add_zero, p2_0, Int.mul_one, Int.zero_add]
  have r := lw_rngi P l a (show 0 ≤ k by omega)
  show _ = lw P l a k.toNat * lw P l b (1 : Int).toNat % p2 k
  rw [h.o l hl, e1]
  rcases b2_01 (lb (P b) l) with q | q <;> rw [q]
  · rw [Int.zero_mul, Int.mul_zero]; rfl
  · rw [Int.one_mul, Int.mul_one, Int.emod_eq_of_lt r.1 r.2]
def s_X3_multiply : CS := (zc 1, ap [(3, 43), (0, 0), (0, 0), (0, 0), (0, 0)] (fun to a b k h Rt X =>
Pl to a b k ∧ 1 ≤ k ∧ ∀ Q, Wr (hJ h 44) Q to k → Ln Q to k (fun l => lw (hJ h 44) l a k.toNat * lw (hJ h 44) l b k.toNat % p2 k) → Rt none (rJ h 44 Q)))
set_option maxRecDepth 100000 in
set_option maxHeartbeats 4000000 in
theorem o_X3_multiply : Obl true 0 15 (sp []) [] code_X3_multiply s_X3_multiply := by
  refine oblL (by rfl) [(3, [0, 1, 2, 3, 4, 5]), (44, [0, 1, 2, 3, 4, 5]), (69, [0, 1, 2, 3, 4, 5, 6, 8, 10])] ?_
  intro to r_to a r_a b r_b k r_k h Rt X hh hf hs
  obtain ⟨⟨a1, a2, a3, a4, a5, a6, a7, a8⟩, k1, h2⟩ := hs
  refine ⟨fun m pc vs g => ∃ (i : Int) (Q : Int → Int64), g = rJ h 44 Q ∧ 0 ≤ i ∧ i ≤ k ∧ ((pc = 3 ∧ vs = [.inr (.inr (some 43)), .inl to, .inl a, .inl b, .inl k, .inl i] ∧ Wr (hJ h 44) Q to i ∧ Box (∀ l, l < 64 → lw Q l to i.toNat = b2 (lb (hJ h 44 b) l) * lw (hJ h 44) l a i.toNat) ∧ m = 1000000 + (k - i).toNat) ∨
    (pc = 44 ∧ vs = [.inr (.inr (some 43)), .inl to, .inl a, .inl b, .inl k, .inl i] ∧ 1 ≤ i ∧ Wr (hJ h 44) Q to k ∧ Ln Q to k (fun l => lw (hJ h 44) l a k.toNat * lw (hJ h 44) l b i.toNat % p2 k) ∧ m = 1000 * (k - i).toNat) ∨
    (pc = 69 ∧ i < k ∧ ∃ (j : Int) (c : Int64) (Q0 : Int → Int64), vs = [.inr (.inr (some 43)), .inl to, .inl a, .inl b, .inl k, .inl i, .inr (.inl (hJ h 44 (b + i))), .inr (.inl c), .inl j] ∧ 1 ≤ i ∧ i ≤ j ∧ j ≤ k ∧ Wr (hJ h 44) Q0 to k ∧ Wr Q0 Q (to + i) (j - i) ∧ Ln Q0 to k (fun l => lw (hJ h 44) l a k.toNat * lw (hJ h 44) l b i.toNat % p2 k) ∧ MulI (hJ h 44) Q0 Q a to i j (hJ h 44 (b + i)) c ∧ m = 1000 * (k - i).toNat - 500 + (k - j).toNat)), ?_, ?_⟩
  · repeat' (first | apply And.intro | (with_reducible assumption) | (intro h9; first | (exfalso; omega) | (simp only [rI_rI, rJ_rJ, hI_rI, hJ_rI, hI_rJ, hJ_rJ, hI_rR, hR_rI, hR_rJ, hN_rI, hN_rJ, svH_63, svH_66, rfH_63, wvH_63, wvH_62, wvH_67, wvH_68, wvH_69, sc_63, sc_n62, sc_n67, sc_n68, sc_n69, sc_n70, reduceIte, Nat.reduceEqDiff, eq_self, up_up, up_self, up_ne, ne_eq, not_false_eq_true, Int.reduceEq, Int.reduceNeg] at h9; first | (exfalso; omega) | skip) | skip) | exact Exists.intro _ ⟨0, hJ h 44, (rJ_id h 44).symm, by omega, by omega, Or.inl ⟨rfl, rfl, Wr.z _ _, Box.i (fun l hl => (Int.mul_zero _).symm), rfl⟩⟩ | exact h2 | exact h2 (by omega) | omega | exact True.intro | (simp only [rI_rI, rJ_rJ, hI_rI, hJ_rI, hI_rJ, hJ_rJ, hI_rR, hR_rI, hR_rJ, hN_rI, hN_rJ, svH_63, svH_66, rfH_63, wvH_63, wvH_62, wvH_67, wvH_68, wvH_69, sc_63, sc_n62, sc_n67, sc_n68, sc_n69, sc_n70, reduceIte, Nat.reduceEqDiff, eq_self, up_up, up_self, up_ne, ne_eq, not_false_eq_true, Int.reduceEq, Int.reduceNeg]; omega))
  · rintro m pc live vs g hl ⟨i, Q, rfl, i1, i2, ⟨rfl, rfl, i3, i4, rfl⟩ | ⟨rfl, rfl, i0, i3, i4, rfl⟩ | ⟨rfl, i8, j, c, Q0, rfl, i0, j1, j2, i3, i5, i6, i7, rfl⟩⟩ hv hh1 hf1
    · rcases look3 hl with ⟨_, rfl⟩ | ⟨q, _⟩ | ⟨q, _⟩
      · by_cases z : i < k
        · have e1 : hJ (rJ h 44 Q) 44 (a + i) = hJ h 44 (a + i) := i3.o _ (by omega)
          have e2 : hJ (rJ h 44 Q) 44 b = hJ h 44 b := i3.o _ (by omega)
          have i5 := mul1 i1 i3 i4
          rw [← e1, ← e2] at i5
          repeat' (first | apply And.intro | (with_reducible assumption) | (intro h9; first | (exfalso; omega) | (simp only [rI_rI, rJ_rJ, hI_rI, hJ_rI, hI_rJ, hJ_rJ, hI_rR, hR_rI, hR_rJ, hN_rI, hN_rJ, svH_63, svH_66, rfH_63, wvH_63, wvH_62, wvH_67, wvH_68, wvH_69, sc_63, sc_n62, sc_n67, sc_n68, sc_n69, sc_n70, reduceIte, Nat.reduceEqDiff, eq_self, up_up, up_self, up_ne, ne_eq, not_false_eq_true, Int.reduceEq, Int.reduceNeg] at h9; first | (exfalso; omega) | skip) | skip) | exact Exists.intro _ ⟨by omega, i + 1, _, rJ_44 _ _ _ _, by omega, by omega, Or.inl ⟨rfl, rfl, i3.st _ i1, (by rw [e1, e2] at i5 ⊢; exact i5), rfl⟩⟩ | exact h2 | exact h2 (by omega) | omega | exact True.intro | (simp only [rI_rI, rJ_rJ, hI_rI, hJ_rI, hI_rJ, hJ_rJ, hI_rR, hR_rI, hR_rJ, hN_rI, hN_rJ, svH_63, svH_66, rfH_63, wvH_63, wvH_62, wvH_67, wvH_68, wvH_69, sc_63, sc_n62, sc_n67, sc_n68, sc_n69, sc_n70, reduceIte, Nat.reduceEqDiff, eq_self, up_up, up_self, up_ne, ne_eq, not_false_eq_true, Int.reduceEq, Int.reduceNeg]; omega))
        · obtain rfl : i = k := by omega
          have i5 := mul1f k1 i4
          repeat' (first | apply And.intro | (with_reducible assumption) | (intro h9; first | (exfalso; omega) | (simp only [rI_rI, rJ_rJ, hI_rI, hJ_rI, hI_rJ, hJ_rJ, hI_rR, hR_rI, hR_rJ, hN_rI, hN_rJ, svH_63, svH_66, rfH_63, wvH_63, wvH_62, wvH_67, wvH_68, wvH_69, sc_63, sc_n62, sc_n67, sc_n68, sc_n69, sc_n70, reduceIte, Nat.reduceEqDiff, eq_self, up_up, up_self, up_ne, ne_eq, not_false_eq_true, Int.reduceEq, Int.reduceNeg] at h9; first | (exfalso; omega) | skip) | skip) | exact Exists.intro _ ⟨by omega, 1, Q, rfl, by omega, by omega, Or.inr (Or.inl ⟨rfl, rfl, by omega, i3, i5, rfl⟩)⟩ | exact h2 | exact h2 (by omega) | omega | exact True.intro | (simp only [rI_rI, rJ_rJ, hI_rI, hJ_rI, hI_rJ, hJ_rJ, hI_rR, hR_rI, hR_rJ, hN_rI, hN_rJ, svH_63, svH_66, rfH_63, wvH_63, wvH_62, wvH_67, wvH_68, wvH_69, sc_63, sc_n62, sc_n67, sc_n68, sc_n69, sc_n70, reduceIte, Nat.reduceEqDiff, eq_self, up_up, up_self, up_ne, ne_eq, not_false_eq_true, Int.reduceEq, Int.reduceNeg]; omega))
      · cases q
      · cases q
    · rcases look3 hl with ⟨q, _⟩ | ⟨_, rfl⟩ | ⟨q, _⟩
      · cases q
      · by_cases z : i < k
        · have e2 : hJ (rJ h 44 Q) 44 (b + i) = hJ h 44 (b + i) := i3.o _ (by omega)
          repeat' (first | apply And.intro | (with_reducible assumption) | (intro h9; first | (exfalso; omega) | (simp only [rI_rI, rJ_rJ, hI_rI, hJ_rI, hI_rJ, hJ_rJ, hI_rR, hR_rI, hR_rJ, hN_rI, hN_rJ, svH_63, svH_66, rfH_63, wvH_63, wvH_62, wvH_67, wvH_68, wvH_69, sc_63, sc_n62, sc_n67, sc_n68, sc_n69, sc_n70, reduceIte, Nat.reduceEqDiff, eq_self, up_up, up_self, up_ne, ne_eq, not_false_eq_true, Int.reduceEq, Int.reduceNeg] at h9; first | (exfalso; omega) | skip) | skip) | exact Exists.intro _ ⟨by omega, i, Q, rfl, by omega, by omega, Or.inr (Or.inr ⟨rfl, z, i, 0, Q, (by rw [← e2] <;> rfl), i0, by omega, by omega, i3, by rw [Int.sub_self]; exact Wr.z _ _, i4, MulI.z _ _ _ _ _ _, rfl⟩)⟩ | exact h2 | exact h2 (by omega) | omega | exact True.intro | (simp only [rI_rI, rJ_rJ, hI_rI, hJ_rI, hI_rJ, hJ_rJ, hI_rR, hR_rI, hR_rJ, hN_rI, hN_rJ, svH_63, svH_66, rfH_63, wvH_63, wvH_62, wvH_67, wvH_68, wvH_69, sc_63, sc_n62, sc_n67, sc_n68, sc_n69, sc_n70, reduceIte, Nat.reduceEqDiff, eq_self, up_up, up_self, up_ne, ne_eq, not_false_eq_true, Int.reduceEq, Int.reduceNeg]; omega))
        · obtain rfl : i = k := by omega
          have k2 := h2 Q i3 i4
          repeat' (first | apply And.intro | (with_reducible assumption) | (intro h9; first | (exfalso; omega) | (simp only [rI_rI, rJ_rJ, hI_rI, hJ_rI, hI_rJ, hJ_rJ, hI_rR, hR_rI, hR_rJ, hN_rI, hN_rJ, svH_63, svH_66, rfH_63, wvH_63, wvH_62, wvH_67, wvH_68, wvH_69, sc_63, sc_n62, sc_n67, sc_n68, sc_n69, sc_n70, reduceIte, Nat.reduceEqDiff, eq_self, up_up, up_self, up_ne, ne_eq, not_false_eq_true, Int.reduceEq, Int.reduceNeg] at h9; first | (exfalso; omega) | skip) | skip) | exact k2 | exact h2 | exact h2 (by omega) | omega | exact True.intro | (simp only [rI_rI, rJ_rJ, hI_rI, hJ_rI, hI_rJ, hJ_rJ, hI_rR, hR_rI, hR_rJ, hN_rI, hN_rJ, svH_63, svH_66, rfH_63, wvH_63, wvH_62, wvH_67, wvH_68, wvH_69, sc_63, sc_n62, sc_n67, sc_n68, sc_n69, sc_n70, reduceIte, Nat.reduceEqDiff, eq_self, up_up, up_self, up_ne, ne_eq, not_false_eq_true, Int.reduceEq, Int.reduceNeg]; omega))
      · cases q
    · rcases look3 hl with ⟨q, _⟩ | ⟨q, _⟩ | ⟨_, rfl⟩
      · cases q
      · cases q
      · by_cases z : j < k
        · have e1 : hJ (rJ h 44 Q) 44 (to + j) = Q0 (to + j) := i5.o _ (by omega)
          have e2 : hJ (rJ h 44 Q) 44 (a + j - i) = hJ h 44 (a + (j - i)) := by
            rw [show a + j - i = a + (j - i) by omega]
            show Q (a + (j - i)) = _
            rw [i5.o _ (by omega), i3.o _ (by omega)]
          have i9 := i7.st (by omega) j1
          have w5 : ∀ x, Wr Q0 (up Q (to + j) x) (to + i) (j + 1 - i) := fun x => Box.i fun y hy => by rw [up_ne (by omega)]; exact i5.o y (by omega)
          repeat' (first | apply And.intro | (with_reducible assumption) | (intro h9; first | (exfalso; omega) | (simp only [rI_rI, rJ_rJ, hI_rI, hJ_rI, hI_rJ, hJ_rJ, hI_rR, hR_rI, hR_rJ, hN_rI, hN_rJ, svH_63, svH_66, rfH_63, wvH_63, wvH_62, wvH_67, wvH_68, wvH_69, sc_63, sc_n62, sc_n67, sc_n68, sc_n69, sc_n70, reduceIte, Nat.reduceEqDiff, eq_self, up_up, up_self, up_ne, ne_eq, not_false_eq_true, Int.reduceEq, Int.reduceNeg] at h9; first | (exfalso; omega) | skip) | skip) | exact Exists.intro _ ⟨by omega, i, _, rJ_44 _ _ _ _, by omega, by omega, Or.inr (Or.inr ⟨rfl, i8, j + 1, _, Q0, rfl, i0, by omega, by omega, i3, w5 _, i6, (by rw [e1, e2]; exact i9), rfl⟩)⟩ | exact h2 | exact h2 (by omega) | omega | exact True.intro | (simp only [rI_rI, rJ_rJ, hI_rI, hJ_rI, hI_rJ, hJ_rJ, hI_rR, hR_rI, hR_rJ, hN_rI, hN_rJ, svH_63, svH_66, rfH_63, wvH_63, wvH_62, wvH_67, wvH_68, wvH_69, sc_63, sc_n62, sc_n67, sc_n68, sc_n69, sc_n70, reduceIte, Nat.reduceEqDiff, eq_self, up_up, up_self, up_ne, ne_eq, not_false_eq_true, Int.reduceEq, Int.reduceNeg]; omega))
        · obtain rfl : j = k := by omega
          have i9 := i7.fin (by omega) i8 i6
          have w5 : Wr (hJ h 44) Q to j := Box.i fun y hy => by rw [i5.o y (by omega)]; exact i3.o y hy
          repeat' (first | apply And.intro | (with_reducible assumption) | (intro h9; first | (exfalso; omega) | (simp only [rI_rI, rJ_rJ, hI_rI, hJ_rI, hI_rJ, hJ_rJ, hI_rR, hR_rI, hR_rJ, hN_rI, hN_rJ, svH_63, svH_66, rfH_63, wvH_63, wvH_62, wvH_67, wvH_68, wvH_69, sc_63, sc_n62, sc_n67, sc_n68, sc_n69, sc_n70, reduceIte, Nat.reduceEqDiff, eq_self, up_up, up_self, up_ne, ne_eq, not_false_eq_true, Int.reduceEq, Int.reduceNeg] at h9; first | (exfalso; omega) | skip) | skip) | exact Exists.intro _ ⟨by omega, i + 1, Q, rfl, by omega, by omega, Or.inr (Or.inl ⟨rfl, rfl, by omega, w5, i9, rfl⟩)⟩ | exact h2 | exact h2 (by omega) | omega | exact True.intro | (simp only [rI_rI, rJ_rJ, hI_rI, hJ_rI, hI_rJ, hJ_rJ, hI_rR, hR_rI, hR_rJ, hN_rI, hN_rJ, svH_63, svH_66, rfH_63, wvH_63, wvH_62, wvH_67, wvH_68, wvH_69, sc_63, sc_n62, sc_n67, sc_n68, sc_n69, sc_n70, reduceIte, Nat.reduceEqDiff, eq_self, up_up, up_self, up_ne, ne_eq, not_false_eq_true, Int.reduceEq, Int.reduceNeg]; omega))
/-- kinds 5 to 7 -/
def bitK (k x y : Int) : Int := if k = 5 then bAnd x y else if k = 6 then bOr x y else bXor x y
def bitB (k : Int) (x y : Bool) : Bool := if k = 5 then x && y else if k = 6 then x || y else x ^^ y
theorem bitK_fin {P Q : Int → Int64} {n a b to k : Int} (h0 : 0 ≤ k) (h8 : k ≤ 8) (h : Box (∀ j, 0 ≤ j → j < k → ∀ l, l < 64 → lb (Q (to + j)) l = bitB n (lb (P (a + j)) l) (lb (P (b + j)) l))) : Ln Q to k (fun l => bitK n (lw P l a k.toNat) (lw P l b k.toNat)) := Box.i fun l hl => by
  have ra := lw_rngi P l a h0
  have rb := lw_rngi P l b h0
  have p8 := p2_le8 h8
  show _ = bitK n (lw P l a k.toNat) (lw P l b k.toNat)
  unfold bitK
  by_cases e5 : n = 5
  · rw [if_pos e5]
    have q := and_rng ra.1 ra.2 rb.1 rb.2 h8
    refine lw_of h0 q.1 q.2 fun j a b => ?_
    rw [h.o j a b l hl, ib_and ra.1 (by omega) rb.1 (by omega), ib_lw _ _ _ a b, ib_lw _ _ _ a b]
    unfold bitB
    rw [if_pos e5]
  rw [if_neg e5]
  by_cases e6 : n = 6
  · rw [if_pos e6]
    have q := or_rng ra.1 ra.2 rb.1 rb.2 h8
    refine lw_of h0 q.1 q.2 fun j a b => ?_
    rw [h.o j a b l hl, ib_or ra.1 (by omega) rb.1 (by omega), ib_lw _ _ _ a b, ib_lw _ _ _ a b]
    unfold bitB
    rw [if_neg e5, if_pos e6]
  rw [if_neg e6]
  have q := xor_rng ra.1 ra.2 rb.1 rb.2 h8
  refine lw_of h0 q.1 q.2 fun j a b => ?_
  rw [h.o j a b l hl, ib_xor ra.1 (by omega) rb.1 (by omega), ib_lw _ _ _ a b, ib_lw _ _ _ a b]
  unfold bitB
  rw [if_neg e5, if_neg e6]
/-- planes made one by one -/
def Bt (Q : Int → Int64) (to i : Int) (F : Int → Nat → Bool) : Prop := Box (∀ j, 0 ≤ j → j < i → ∀ l, l < 64 → lb (Q (to + j)) l = F j l)
theorem Bt.z (Q : Int → Int64) (to : Int) (F : Int → Nat → Bool) : Bt Q to 0 F := Box.i fun j a b => by omega
theorem Bt.st {Q : Int → Int64} {to i : Int} {F : Int → Nat → Bool} (h : Bt Q to i F) {x : Int64} (hx : ∀ l, l < 64 → lb x l = F i l) : Bt (up Q (to + i) x) to (i + 1) F := Box.i fun j a b l hl => by
  by_cases e : j = i
  · subst e; rw [up_self]; exact hx l hl
  · rw [up_ne (by omega)]; exact h.o j a (by omega) l hl
theorem m_X3_multiply : MM 60 s_X3_multiply := mm_of (own := 2) (by rfl) k_X3_multiply (cl := []) trivial o_X3_multiply
def s_X3_combine : CS := (zc 1, ap [(3, 43), (0, 0), (0, 0), (0, 0), (0, 0), (0, 0)] (fun n to a b k h Rt X =>
Pl to a b k ∧ ∀ Q, Wr (hJ h 44) Q to k → Ln Q to k (fun l => bitK n (lw (hJ h 44) l a k.toNat) (lw (hJ h 44) l b k.toNat)) → Rt none (rJ h 44 Q)))
set_option maxRecDepth 100000 in
set_option maxHeartbeats 4000000 in
theorem o_X3_combine : Obl true 0 11 (sp []) [] code_X3_combine s_X3_combine := by
  refine oblL (by rfl) [(3, [0, 1, 2, 3, 4, 5, 6])] ?_
  intro n r_n to r_to a r_a b r_b k r_k h Rt X hh hf hs
  obtain ⟨⟨a1, a2, a3, a4, a5, a6, a7, a8⟩, h2⟩ := hs
  refine ⟨fun m pc vs g => ∃ (i : Int) (Q : Int → Int64), g = rJ h 44 Q ∧ vs = [.inr (.inr (some 43)), .inl n, .inl to, .inl a, .inl b, .inl k, .inl i] ∧ 0 ≤ i ∧ i ≤ k ∧ Wr (hJ h 44) Q to i ∧ Bt Q to i (fun j l => bitB n (lb (hJ h 44 (a + j)) l) (lb (hJ h 44 (b + j)) l)) ∧ m = (k - i).toNat, ?_, ?_⟩
  · repeat' (first | apply And.intro | (with_reducible assumption) | (intro h9; first | (exfalso; omega) | (simp only [rI_rI, rJ_rJ, hI_rI, hJ_rI, hI_rJ, hJ_rJ, hI_rR, hR_rI, hR_rJ, hN_rI, hN_rJ, svH_63, svH_66, rfH_63, wvH_63, wvH_62, wvH_67, wvH_68, wvH_69, sc_63, sc_n62, sc_n67, sc_n68, sc_n69, sc_n70, reduceIte, Nat.reduceEqDiff, eq_self, up_up, up_self, up_ne, ne_eq, not_false_eq_true, Int.reduceEq, Int.reduceNeg] at h9; first | (exfalso; omega) | skip) | skip) | exact Exists.intro _ ⟨0, hJ h 44, (rJ_id h 44).symm, rfl, by omega, by omega, Wr.z _ _, Bt.z _ _ _, rfl⟩ | exact h2 | exact h2 (by omega) | omega | exact True.intro | (simp only [rI_rI, rJ_rJ, hI_rI, hJ_rI, hI_rJ, hJ_rJ, hI_rR, hR_rI, hR_rJ, hN_rI, hN_rJ, svH_63, svH_66, rfH_63, wvH_63, wvH_62, wvH_67, wvH_68, wvH_69, sc_63, sc_n62, sc_n67, sc_n68, sc_n69, sc_n70, reduceIte, Nat.reduceEqDiff, eq_self, up_up, up_self, up_ne, ne_eq, not_false_eq_true, Int.reduceEq, Int.reduceNeg]; omega))
  · rintro m pc live vs g hl ⟨i, Q, rfl, rfl, i1, i2, i3, i4, rfl⟩ hv hh1 hf1
    obtain ⟨rfl, rfl⟩ := look1 hl
    by_cases z : i < k
    · have e1 : hJ (rJ h 44 Q) 44 (a + i) = hJ h 44 (a + i) := i3.o _ (by omega)
      have e2 : hJ (rJ h 44 Q) 44 (b + i) = hJ h 44 (b + i) := i3.o _ (by omega)
      by_cases e5 : n = 5
      · have x : ∀ l, l < 64 → lb (hJ (rJ h 44 Q) 44 (a + i) &&& hJ (rJ h 44 Q) 44 (b + i)) l = bitB n (lb (hJ h 44 (a + i)) l) (lb (hJ h 44 (b + i)) l) := fun l hl => by rw [lb_and, e1, e2]; unfold bitB; rw [if_pos e5]
        repeat' (first | apply And.intro | (with_reducible assumption) | (intro h9; first | (exfalso; omega) | (simp only [rI_rI, rJ_rJ, hI_rI, hJ_rI, hI_rJ, hJ_rJ, hI_rR, hR_rI, hR_rJ, hN_rI, hN_rJ, svH_63, svH_66, rfH_63, wvH_63, wvH_62, wvH_67, wvH_68, wvH_69, sc_63, sc_n62, sc_n67, sc_n68, sc_n69, sc_n70, reduceIte, Nat.reduceEqDiff, eq_self, up_up, up_self, up_ne, ne_eq, not_false_eq_true, Int.reduceEq, Int.reduceNeg] at h9; first | (exfalso; omega) | skip) | skip) | exact Exists.intro _ ⟨by omega, i + 1, _, rJ_44 _ _ _ _, rfl, by omega, by omega, i3.st _ i1, i4.st x, rfl⟩ | exact h2 | exact h2 (by omega) | omega | exact True.intro | (simp only [rI_rI, rJ_rJ, hI_rI, hJ_rI, hI_rJ, hJ_rJ, hI_rR, hR_rI, hR_rJ, hN_rI, hN_rJ, svH_63, svH_66, rfH_63, wvH_63, wvH_62, wvH_67, wvH_68, wvH_69, sc_63, sc_n62, sc_n67, sc_n68, sc_n69, sc_n70, reduceIte, Nat.reduceEqDiff, eq_self, up_up, up_self, up_ne, ne_eq, not_false_eq_true, Int.reduceEq, Int.reduceNeg]; omega))
      · by_cases e6 : n = 6
        · have x : ∀ l, l < 64 → lb (hJ (rJ h 44 Q) 44 (a + i) ||| hJ (rJ h 44 Q) 44 (b + i)) l = bitB n (lb (hJ h 44 (a + i)) l) (lb (hJ h 44 (b + i)) l) := fun l hl => by rw [lb_or, e1, e2]; unfold bitB; rw [if_neg e5, if_pos e6]
          repeat' (first | apply And.intro | (with_reducible assumption) | (intro h9; first | (exfalso; omega) | (simp only [rI_rI, rJ_rJ, hI_rI, hJ_rI, hI_rJ, hJ_rJ, hI_rR, hR_rI, hR_rJ, hN_rI, hN_rJ, svH_63, svH_66, rfH_63, wvH_63, wvH_62, wvH_67, wvH_68, wvH_69, sc_63, sc_n62, sc_n67, sc_n68, sc_n69, sc_n70, reduceIte, Nat.reduceEqDiff, eq_self, up_up, up_self, up_ne, ne_eq, not_false_eq_true, Int.reduceEq, Int.reduceNeg] at h9; first | (exfalso; omega) | skip) | skip) | exact Exists.intro _ ⟨by omega, i + 1, _, rJ_44 _ _ _ _, rfl, by omega, by omega, i3.st _ i1, i4.st x, rfl⟩ | exact h2 | exact h2 (by omega) | omega | exact True.intro | (simp only [rI_rI, rJ_rJ, hI_rI, hJ_rI, hI_rJ, hJ_rJ, hI_rR, hR_rI, hR_rJ, hN_rI, hN_rJ, svH_63, svH_66, rfH_63, wvH_63, wvH_62, wvH_67, wvH_68, wvH_69, sc_63, sc_n62, sc_n67, sc_n68, sc_n69, sc_n70, reduceIte, Nat.reduceEqDiff, eq_self, up_up, up_self, up_ne, ne_eq, not_false_eq_true, Int.reduceEq, Int.reduceNeg]; omega))
        · have x : ∀ l, l < 64 → lb (hJ (rJ h 44 Q) 44 (a + i) ^^^ hJ (rJ h 44 Q) 44 (b + i)) l = bitB n (lb (hJ h 44 (a + i)) l) (lb (hJ h 44 (b + i)) l) := fun l hl => by rw [lb_xor, e1, e2]; unfold bitB; rw [if_neg e5, if_neg e6]
          repeat' (first | apply And.intro | (with_reducible assumption) | (intro h9; first | (exfalso; omega) | (simp only [rI_rI, rJ_rJ, hI_rI, hJ_rI, hI_rJ, hJ_rJ, hI_rR, hR_rI, hR_rJ, hN_rI, hN_rJ, svH_63, svH_66, rfH_63, wvH_63, wvH_62, wvH_67, wvH_68, wvH_69, sc_63, sc_n62, sc_n67, sc_n68, sc_n69, sc_n70, reduceIte, Nat.reduceEqDiff, eq_self, up_up, up_self, up_ne, ne_eq, not_false_eq_true, Int.reduceEq, Int.reduceNeg] at h9; first | (exfalso; omega) | skip) | skip) | exact Exists.intro _ ⟨by omega, i + 1, _, rJ_44 _ _ _ _, rfl, by omega, by omega, i3.st _ i1, i4.st x, rfl⟩ | exact h2 | exact h2 (by omega) | omega | exact True.intro | (simp only [rI_rI, rJ_rJ, hI_rI, hJ_rI, hI_rJ, hJ_rJ, hI_rR, hR_rI, hR_rJ, hN_rI, hN_rJ, svH_63, svH_66, rfH_63, wvH_63, wvH_62, wvH_67, wvH_68, wvH_69, sc_63, sc_n62, sc_n67, sc_n68, sc_n69, sc_n70, reduceIte, Nat.reduceEqDiff, eq_self, up_up, up_self, up_ne, ne_eq, not_false_eq_true, Int.reduceEq, Int.reduceNeg]; omega))
    · obtain rfl : i = k := by omega
      have k2 := h2 Q i3 (bitK_fin a1 a2 i4)
      repeat' (first | apply And.intro | (with_reducible assumption) | (intro h9; first | (exfalso; omega) | (simp only [rI_rI, rJ_rJ, hI_rI, hJ_rI, hI_rJ, hJ_rJ, hI_rR, hR_rI, hR_rJ, hN_rI, hN_rJ, svH_63, svH_66, rfH_63, wvH_63, wvH_62, wvH_67, wvH_68, wvH_69, sc_63, sc_n62, sc_n67, sc_n68, sc_n69, sc_n70, reduceIte, Nat.reduceEqDiff, eq_self, up_up, up_self, up_ne, ne_eq, not_false_eq_true, Int.reduceEq, Int.reduceNeg] at h9; first | (exfalso; omega) | skip) | skip) | exact k2 | exact h2 | exact h2 (by omega) | omega | exact True.intro | (simp only [rI_rI, rJ_rJ, hI_rI, hJ_rI, hI_rJ, hJ_rJ, hI_rR, hR_rI, hR_rJ, hN_rI, hN_rJ, svH_63, svH_66, rfH_63, wvH_63, wvH_62, wvH_67, wvH_68, wvH_69, sc_63, sc_n62, sc_n67, sc_n68, sc_n69, sc_n70, reduceIte, Nat.reduceEqDiff, eq_self, up_up, up_self, up_ne, ne_eq, not_false_eq_true, Int.reduceEq, Int.reduceNeg]; omega))
theorem m_X3_combine : MM 61 s_X3_combine := mm_of (own := 2) (by rfl) k_X3_combine (cl := []) trivial o_X3_combine

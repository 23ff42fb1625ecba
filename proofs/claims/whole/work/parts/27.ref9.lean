/-! ===== what a node's value is ===== -/
def Box (P : Prop) : Prop := ∃ _ : Unit, P
theorem Box.i {P : Prop} (h : P) : Box P := ⟨(), h⟩
theorem Box.o {P : Prop} (h : Box P) : P := by obtain ⟨_, h⟩ := h; exact h
/-- the value of a node of a kind and width: by the widths and values of its operands, its number, its lowest bit -/
def opV (k wd wa wb a b c x lo : Int) (env : Int → Int) : Int :=
  if k = 0 then x else if k = 1 then env x else if k = 2 then (a + b) % p2 wd else if k = 3 then (a - b) % p2 wd else if k = 4 then a * b % p2 wd
  else if k = 5 then bAnd a b else if k = 6 then bOr a b else if k = 7 then bXor a b else if k ≤ 10 then shfW k a b wd
  else if k = 11 then (if b = 0 then p2 wd - 1 else a / b) else if k = 12 then (if b = 0 then a else a % b) else if k ≤ 17 then cmpW k a b wa
  else if k = 18 then a * p2 wb + b else if k = 19 then (-a - 1) % p2 wd else if k = 20 then -a % p2 wd else if k = 21 then a / p2 lo % p2 wd
  else if k = 22 then a else if k = 23 then sgn a wa % p2 wd else if a = 1 then b else c
def nV (w env f : Int → Int) (n : Int) : Int := opV (nd w n 0) (nd w n 1) (nd w (nd w n 2) 1) (nd w (nd w n 3) 1) (f (nd w n 2)) (f (nd w n 3)) (f (nd w n 4)) (nd w n 5) (nd w n 6) env
/-- a node is as it may be -/
def WFn (w : Int → Int) (n : Int) : Prop := Box ((0 ≤ nd w n 0 ∧ nd w n 0 ≤ 24 ∧ 1 ≤ nd w n 1 ∧ nd w n 1 ≤ 8) ∧ (-1 ≤ nd w n 2 ∧ nd w n 2 < n ∧ -1 ≤ nd w n 3 ∧ nd w n 3 < n ∧ -1 ≤ nd w n 4 ∧ nd w n 4 < n) ∧
  (nd w n 0 ≤ 1 → nd w n 2 = -1 ∧ nd w n 3 = -1 ∧ nd w n 4 = -1 ∧ nd w n 6 = -1) ∧ (nd w n 0 = 0 → 0 ≤ nd w n 5 ∧ nd w n 5 < p2 (nd w n 1)) ∧ (nd w n 0 = 1 → 0 ≤ nd w n 5 ∧ nd w n 5 < w 281 ∧ w (282 + nd w n 5) = n) ∧
  (2 ≤ nd w n 0 → 0 ≤ nd w n 2) ∧ ((2 ≤ nd w n 0 ∧ nd w n 0 ≤ 18) ∨ nd w n 0 = 24 → 0 ≤ nd w n 3) ∧ (nd w n 0 = 24 → 0 ≤ nd w n 4) ∧ (2 ≤ nd w n 0 → nd w n 0 ≠ 21 → nd w n 5 = -1 ∧ nd w n 6 = -1) ∧ (nd w n 0 ≠ 24 → nd w n 4 = -1) ∧ (19 ≤ nd w n 0 → nd w n 0 ≤ 23 → nd w n 3 = -1) ∧
  (2 ≤ nd w n 0 → nd w n 0 ≤ 12 → nd w (nd w n 2) 1 = nd w n 1 ∧ nd w (nd w n 3) 1 = nd w n 1) ∧ (13 ≤ nd w n 0 → nd w n 0 ≤ 17 → nd w n 1 = 1 ∧ nd w (nd w n 2) 1 = nd w (nd w n 3) 1) ∧ (nd w n 0 = 18 → nd w n 1 = nd w (nd w n 2) 1 + nd w (nd w n 3) 1) ∧
  (nd w n 0 = 19 ∨ nd w n 0 = 20 → nd w (nd w n 2) 1 = nd w n 1) ∧ (nd w n 0 = 21 → 0 ≤ nd w n 6 ∧ nd w n 6 ≤ nd w n 5 ∧ nd w n 5 < nd w (nd w n 2) 1 ∧ nd w n 1 = nd w n 5 - nd w n 6 + 1) ∧ (nd w n 0 = 22 ∨ nd w n 0 = 23 → nd w (nd w n 2) 1 < nd w n 1) ∧
  (nd w n 0 = 24 → nd w (nd w n 2) 1 = 1 ∧ nd w (nd w n 3) 1 = nd w n 1 ∧ nd w (nd w n 4) 1 = nd w n 1))
/-- the words of the nodes below n are words of their widths -/
def Lw (w f : Int → Int) (n : Int) : Prop := Box (∀ m, 0 ≤ m → m < n → 1 ≤ nd w m 1 ∧ nd w m 1 ≤ 8 ∧ 0 ≤ f m ∧ f m < p2 (nd w m 1))
theorem mul_le_255 {a b : Int} (ha : 0 ≤ a) (ha2 : a ≤ 255) (hb : 0 ≤ b) (hb2 : b ≤ 255) : 0 ≤ a * b ∧ a * b ≤ 65025 :=
  ⟨Int.mul_nonneg ha hb, Int.mul_le_mul ha2 hb2 hb (by omega)⟩
theorem cat_eq {a b wa wb : Int} (ha : 0 ≤ a) (ha2 : a < p2 wa) (hb : 0 ≤ b) (hb2 : b < p2 wb) (h1 : 1 ≤ wa) (h2 : 1 ≤ wb) (h8 : wa + wb ≤ 8) : bOr (sShl a wb) b = a * p2 wb + b := by
  have e1 : p2 wa * p2 wb = p2 (wa + wb) := (p2_add (by omega) (by omega)).symm
  have e2 := p2_le8 h8
  have hp := p2_pos wb
  have e3 : (a + 1) * p2 wb ≤ p2 wa * p2 wb := Int.mul_le_mul_of_nonneg_right (by omega) (by omega)
  have e4 : (a + 1) * p2 wb = a * p2 wb + p2 wb := by rw [Int.add_mul, Int.one_mul]
  have e5 : 0 ≤ a * p2 wb := Int.mul_nonneg ha (by omega)
  rw [sShl_eq (by omega) (by omega) ha (by omega), bOr_pos e5 (by omega) hb (by omega)]
  have e6 : (a * p2 wb).toNat = 2 ^ wb.toNat * a.toNat := by
    have : ((2 ^ wb.toNat * a.toNat : Nat) : Int) = a * p2 wb := by rw [Int.natCast_mul, Int.toNat_of_nonneg ha, p2_nat, Int.mul_comm]
    omega
  have e7 : b.toNat < 2 ^ wb.toNat := by
    have := p2_nat wb
    omega
  rw [e6, ← Nat.two_pow_add_eq_or_of_lt e7]
  have : ((2 ^ wb.toNat * a.toNat : Nat) : Int) = a * p2 wb := by rw [Int.natCast_mul, Int.toNat_of_nonneg ha, p2_nat, Int.mul_comm]
  omega
def s_X10_valueOf : CS := (zc 3, ap [(3, 62), (0, 0)] (fun n h Rt X =>
(0 ≤ n ∧ n < 40 ∧ 0 ≤ hI h 63 281 ∧ hI h 63 281 ≤ 4) ∧ WFn (hI h 63) n ∧ Lw (hI h 63) (hI h 68) n ∧ Rt (some (.inl (nV (hI h 63) (hI h 67) (hI h 68) n))) h))
set_option maxRecDepth 100000 in
set_option maxHeartbeats 4000000 in
theorem o_X10_valueOf : Obl true 1 7 (sp [(197, s_X10_kind), (198, s_X10_width), (196, s_X10_of), (192, s_X10_within), (225, s_X10_shifted), (226, s_X10_compares), (201, s_X10_mask), (224, s_X10_signed)]) [] code_X10_valueOf s_X10_valueOf := by
  refine obl0 (by rfl) ?_
  intro n r_n h Rt X hh hf hs
  obtain ⟨⟨a1, a2, a5⟩, a3, a4, h2⟩ := hs
  unfold nV at h2
  obtain ⟨⟨k1, k2, k3, k4⟩, ⟨o1, o2, o3, o4, o5, o6⟩, p1, p2c, p3, p4, p5, p6, p7, p8, p9, p10, p11, p12, p13, p14, p15, p16⟩ := a3.o
  have va := a4.o (nd (hI h 63) n 2)
  have vb := a4.o (nd (hI h 63) n 3)
  have vc := a4.o (nd (hI h 63) n 4)
  clear a3 a4
  have hm := p2_pos (nd (hI h 63) n 1)
  have hm8 := p2_le8 k4
  have kk : nd (hI h 63) n 0 = 0 ∨ nd (hI h 63) n 0 = 1 ∨ nd (hI h 63) n 0 = 2 ∨ nd (hI h 63) n 0 = 3 ∨ nd (hI h 63) n 0 = 4 ∨ nd (hI h 63) n 0 = 5 ∨ nd (hI h 63) n 0 = 6 ∨ nd (hI h 63) n 0 = 7 ∨ nd (hI h 63) n 0 = 8 ∨ nd (hI h 63) n 0 = 9 ∨ nd (hI h 63) n 0 = 10 ∨ nd (hI h 63) n 0 = 11 ∨ nd (hI h 63) n 0 = 12 ∨ nd (hI h 63) n 0 = 13 ∨ nd (hI h 63) n 0 = 14 ∨ nd (hI h 63) n 0 = 15 ∨ nd (hI h 63) n 0 = 16 ∨ nd (hI h 63) n 0 = 17 ∨ nd (hI h 63) n 0 = 18 ∨ nd (hI h 63) n 0 = 19 ∨ nd (hI h 63) n 0 = 20 ∨ nd (hI h 63) n 0 = 21 ∨ nd (hI h 63) n 0 = 22 ∨ nd (hI h 63) n 0 = 23 ∨ nd (hI h 63) n 0 = 24 := by omega
  rcases kk with kk | kk | kk | kk | kk | kk | kk | kk | kk | kk | kk | kk | kk | kk | kk | kk | kk | kk | kk | kk | kk | kk | kk | kk | kk
  · rw [kk] at h2 p1 p2c p3 p4 p5 p6 p7 p8 p9 p10 p11 p12 p13 p14 p15 p16
    have q1 := p1 (by omega)
    clear p1 p2c p3 p4 p5 p6 p7 p8 p9 p10 p11 p12 p13 p14 p15 p16 va vb vc
    have e : opV 0 (nd (hI h 63) n 1) (nd (hI h 63) (nd (hI h 63) n 2) 1) (nd (hI h 63) (nd (hI h 63) n 3) 1) (hI h 68 (nd (hI h 63) n 2)) (hI h 68 (nd (hI h 63) n 3)) (hI h 68 (nd (hI h 63) n 4)) (nd (hI h 63) n 5) (nd (hI h 63) n 6) (hI h 67) = nd (hI h 63) n 5 := rfl
    rw [e] at h2
    repeat' (first | apply And.intro | (with_reducible assumption) | (intro _; try (exfalso; omega)) | exact h2 | exact h2 (by omega) | omega | exact True.intro | (simp only [rI_rI, rJ_rJ, hI_rI, hJ_rI, hI_rJ, hJ_rJ, hR_rI, hR_rJ, hN_rI, hN_rJ, reduceIte, Nat.reduceEqDiff, eq_self, up_up, up_self, up_ne, ne_eq, not_false_eq_true, Int.reduceEq, Int.reduceNeg]; omega))
  · rw [kk] at h2 p1 p2c p3 p4 p5 p6 p7 p8 p9 p10 p11 p12 p13 p14 p15 p16
    have q1 := p1 (by omega)
    have q2 := p3 rfl
    have q9 : (0 : Int) ≤ hI h 63 281 ∧ hI h 63 281 ≤ 4 := a5
    clear p1 p2c p3 p4 p5 p6 p7 p8 p9 p10 p11 p12 p13 p14 p15 p16 va vb vc
    have e : opV 1 (nd (hI h 63) n 1) (nd (hI h 63) (nd (hI h 63) n 2) 1) (nd (hI h 63) (nd (hI h 63) n 3) 1) (hI h 68 (nd (hI h 63) n 2)) (hI h 68 (nd (hI h 63) n 3)) (hI h 68 (nd (hI h 63) n 4)) (nd (hI h 63) n 5) (nd (hI h 63) n 6) (hI h 67) = hI h 67 (nd (hI h 63) n 5) := rfl
    rw [e] at h2
    repeat' (first | apply And.intro | (with_reducible assumption) | (intro _; try (exfalso; omega)) | exact h2 | exact h2 (by omega) | omega | exact True.intro | (simp only [rI_rI, rJ_rJ, hI_rI, hJ_rI, hI_rJ, hJ_rJ, hR_rI, hR_rJ, hN_rI, hN_rJ, reduceIte, Nat.reduceEqDiff, eq_self, up_up, up_self, up_ne, ne_eq, not_false_eq_true, Int.reduceEq, Int.reduceNeg]; omega))
  · rw [kk] at h2 p1 p2c p3 p4 p5 p6 p7 p8 p9 p10 p11 p12 p13 p14 p15 p16
    have q1 := p4 (by omega)
    obtain ⟨va1, va2, va3, va4⟩ := va q1 o2
    have va5 := p2_le8 va2
    have q2 := p5 (by omega)
    obtain ⟨vb1, vb2, vb3, vb4⟩ := vb q2 o4
    have vb5 := p2_le8 vb2
    have q3 := p10 (by omega) (by omega)
    rw [q3.1] at va4
    rw [q3.2] at vb4
    clear p1 p2c p3 p4 p5 p6 p7 p8 p9 p10 p11 p12 p13 p14 p15 p16 va vb vc
    have e : opV 2 (nd (hI h 63) n 1) (nd (hI h 63) (nd (hI h 63) n 2) 1) (nd (hI h 63) (nd (hI h 63) n 3) 1) (hI h 68 (nd (hI h 63) n 2)) (hI h 68 (nd (hI h 63) n 3)) (hI h 68 (nd (hI h 63) n 4)) (nd (hI h 63) n 5) (nd (hI h 63) n 6) (hI h 67) = bAnd (hI h 68 (nd (hI h 63) n 2) + hI h 68 (nd (hI h 63) n 3)) (p2 (nd (hI h 63) n 1) - 1) := (bAnd_mask (by omega) (by omega)).symm
    rw [e] at h2
    repeat' (first | apply And.intro | (with_reducible assumption) | (intro _; try (exfalso; omega)) | exact h2 | exact h2 (by omega) | omega | exact True.intro | (simp only [rI_rI, rJ_rJ, hI_rI, hJ_rI, hI_rJ, hJ_rJ, hR_rI, hR_rJ, hN_rI, hN_rJ, reduceIte, Nat.reduceEqDiff, eq_self, up_up, up_self, up_ne, ne_eq, not_false_eq_true, Int.reduceEq, Int.reduceNeg]; omega))
  · rw [kk] at h2 p1 p2c p3 p4 p5 p6 p7 p8 p9 p10 p11 p12 p13 p14 p15 p16
    have q1 := p4 (by omega)
    obtain ⟨va1, va2, va3, va4⟩ := va q1 o2
    have va5 := p2_le8 va2
    have q2 := p5 (by omega)
    obtain ⟨vb1, vb2, vb3, vb4⟩ := vb q2 o4
    have vb5 := p2_le8 vb2
    have q3 := p10 (by omega) (by omega)
    rw [q3.1] at va4
    rw [q3.2] at vb4
    clear p1 p2c p3 p4 p5 p6 p7 p8 p9 p10 p11 p12 p13 p14 p15 p16 va vb vc
    have e : opV 3 (nd (hI h 63) n 1) (nd (hI h 63) (nd (hI h 63) n 2) 1) (nd (hI h 63) (nd (hI h 63) n 3) 1) (hI h 68 (nd (hI h 63) n 2)) (hI h 68 (nd (hI h 63) n 3)) (hI h 68 (nd (hI h 63) n 4)) (nd (hI h 63) n 5) (nd (hI h 63) n 6) (hI h 67) = bAnd (hI h 68 (nd (hI h 63) n 2) - hI h 68 (nd (hI h 63) n 3)) (p2 (nd (hI h 63) n 1) - 1) := (bAnd_mask (by omega) (by omega)).symm
    rw [e] at h2
    repeat' (first | apply And.intro | (with_reducible assumption) | (intro _; try (exfalso; omega)) | exact h2 | exact h2 (by omega) | omega | exact True.intro | (simp only [rI_rI, rJ_rJ, hI_rI, hJ_rI, hI_rJ, hJ_rJ, hR_rI, hR_rJ, hN_rI, hN_rJ, reduceIte, Nat.reduceEqDiff, eq_self, up_up, up_self, up_ne, ne_eq, not_false_eq_true, Int.reduceEq, Int.reduceNeg]; omega))
  · rw [kk] at h2 p1 p2c p3 p4 p5 p6 p7 p8 p9 p10 p11 p12 p13 p14 p15 p16
    have q1 := p4 (by omega)
    obtain ⟨va1, va2, va3, va4⟩ := va q1 o2
    have va5 := p2_le8 va2
    have q2 := p5 (by omega)
    obtain ⟨vb1, vb2, vb3, vb4⟩ := vb q2 o4
    have vb5 := p2_le8 vb2
    have q3 := p10 (by omega) (by omega)
    rw [q3.1] at va4
    rw [q3.2] at vb4
    have q5 := mul_le_255 va3 (by omega) vb3 (by omega)
    clear p1 p2c p3 p4 p5 p6 p7 p8 p9 p10 p11 p12 p13 p14 p15 p16 va vb vc
    have e : opV 4 (nd (hI h 63) n 1) (nd (hI h 63) (nd (hI h 63) n 2) 1) (nd (hI h 63) (nd (hI h 63) n 3) 1) (hI h 68 (nd (hI h 63) n 2)) (hI h 68 (nd (hI h 63) n 3)) (hI h 68 (nd (hI h 63) n 4)) (nd (hI h 63) n 5) (nd (hI h 63) n 6) (hI h 67) = bAnd (hI h 68 (nd (hI h 63) n 2) * hI h 68 (nd (hI h 63) n 3)) (p2 (nd (hI h 63) n 1) - 1) := (bAnd_mask (by omega) (by omega)).symm
    rw [e] at h2
    repeat' (first | apply And.intro | (with_reducible assumption) | (intro _; try (exfalso; omega)) | exact h2 | exact h2 (by omega) | omega | exact True.intro | (simp only [rI_rI, rJ_rJ, hI_rI, hJ_rI, hI_rJ, hJ_rJ, hR_rI, hR_rJ, hN_rI, hN_rJ, reduceIte, Nat.reduceEqDiff, eq_self, up_up, up_self, up_ne, ne_eq, not_false_eq_true, Int.reduceEq, Int.reduceNeg]; omega))
  · rw [kk] at h2 p1 p2c p3 p4 p5 p6 p7 p8 p9 p10 p11 p12 p13 p14 p15 p16
    have q1 := p4 (by omega)
    obtain ⟨va1, va2, va3, va4⟩ := va q1 o2
    have va5 := p2_le8 va2
    have q2 := p5 (by omega)
    obtain ⟨vb1, vb2, vb3, vb4⟩ := vb q2 o4
    have vb5 := p2_le8 vb2
    have q3 := p10 (by omega) (by omega)
    rw [q3.1] at va4
    rw [q3.2] at vb4
    clear p1 p2c p3 p4 p5 p6 p7 p8 p9 p10 p11 p12 p13 p14 p15 p16 va vb vc
    have e : opV 5 (nd (hI h 63) n 1) (nd (hI h 63) (nd (hI h 63) n 2) 1) (nd (hI h 63) (nd (hI h 63) n 3) 1) (hI h 68 (nd (hI h 63) n 2)) (hI h 68 (nd (hI h 63) n 3)) (hI h 68 (nd (hI h 63) n 4)) (nd (hI h 63) n 5) (nd (hI h 63) n 6) (hI h 67) = bAnd (hI h 68 (nd (hI h 63) n 2)) (hI h 68 (nd (hI h 63) n 3)) := rfl
    rw [e] at h2
    repeat' (first | apply And.intro | (with_reducible assumption) | (intro _; try (exfalso; omega)) | exact h2 | exact h2 (by omega) | omega | exact True.intro | (simp only [rI_rI, rJ_rJ, hI_rI, hJ_rI, hI_rJ, hJ_rJ, hR_rI, hR_rJ, hN_rI, hN_rJ, reduceIte, Nat.reduceEqDiff, eq_self, up_up, up_self, up_ne, ne_eq, not_false_eq_true, Int.reduceEq, Int.reduceNeg]; omega))
  · rw [kk] at h2 p1 p2c p3 p4 p5 p6 p7 p8 p9 p10 p11 p12 p13 p14 p15 p16
    have q1 := p4 (by omega)
    obtain ⟨va1, va2, va3, va4⟩ := va q1 o2
    have va5 := p2_le8 va2
    have q2 := p5 (by omega)
    obtain ⟨vb1, vb2, vb3, vb4⟩ := vb q2 o4
    have vb5 := p2_le8 vb2
    have q3 := p10 (by omega) (by omega)
    rw [q3.1] at va4
    rw [q3.2] at vb4
    clear p1 p2c p3 p4 p5 p6 p7 p8 p9 p10 p11 p12 p13 p14 p15 p16 va vb vc
    have e : opV 6 (nd (hI h 63) n 1) (nd (hI h 63) (nd (hI h 63) n 2) 1) (nd (hI h 63) (nd (hI h 63) n 3) 1) (hI h 68 (nd (hI h 63) n 2)) (hI h 68 (nd (hI h 63) n 3)) (hI h 68 (nd (hI h 63) n 4)) (nd (hI h 63) n 5) (nd (hI h 63) n 6) (hI h 67) = bOr (hI h 68 (nd (hI h 63) n 2)) (hI h 68 (nd (hI h 63) n 3)) := rfl
    rw [e] at h2
    repeat' (first | apply And.intro | (with_reducible assumption) | (intro _; try (exfalso; omega)) | exact h2 | exact h2 (by omega) | omega | exact True.intro | (simp only [rI_rI, rJ_rJ, hI_rI, hJ_rI, hI_rJ, hJ_rJ, hR_rI, hR_rJ, hN_rI, hN_rJ, reduceIte, Nat.reduceEqDiff, eq_self, up_up, up_self, up_ne, ne_eq, not_false_eq_true, Int.reduceEq, Int.reduceNeg]; omega))
  · rw [kk] at h2 p1 p2c p3 p4 p5 p6 p7 p8 p9 p10 p11 p12 p13 p14 p15 p16
    have q1 := p4 (by omega)
    obtain ⟨va1, va2, va3, va4⟩ := va q1 o2
    have va5 := p2_le8 va2
    have q2 := p5 (by omega)
    obtain ⟨vb1, vb2, vb3, vb4⟩ := vb q2 o4
    have vb5 := p2_le8 vb2
    have q3 := p10 (by omega) (by omega)
    rw [q3.1] at va4
    rw [q3.2] at vb4
    clear p1 p2c p3 p4 p5 p6 p7 p8 p9 p10 p11 p12 p13 p14 p15 p16 va vb vc
    have e : opV 7 (nd (hI h 63) n 1) (nd (hI h 63) (nd (hI h 63) n 2) 1) (nd (hI h 63) (nd (hI h 63) n 3) 1) (hI h 68 (nd (hI h 63) n 2)) (hI h 68 (nd (hI h 63) n 3)) (hI h 68 (nd (hI h 63) n 4)) (nd (hI h 63) n 5) (nd (hI h 63) n 6) (hI h 67) = bXor (hI h 68 (nd (hI h 63) n 2)) (hI h 68 (nd (hI h 63) n 3)) := rfl
    rw [e] at h2
    repeat' (first | apply And.intro | (with_reducible assumption) | (intro _; try (exfalso; omega)) | exact h2 | exact h2 (by omega) | omega | exact True.intro | (simp only [rI_rI, rJ_rJ, hI_rI, hJ_rI, hI_rJ, hJ_rJ, hR_rI, hR_rJ, hN_rI, hN_rJ, reduceIte, Nat.reduceEqDiff, eq_self, up_up, up_self, up_ne, ne_eq, not_false_eq_true, Int.reduceEq, Int.reduceNeg]; omega))
  · rw [kk] at h2 p1 p2c p3 p4 p5 p6 p7 p8 p9 p10 p11 p12 p13 p14 p15 p16
    have q1 := p4 (by omega)
    obtain ⟨va1, va2, va3, va4⟩ := va q1 o2
    have va5 := p2_le8 va2
    have q2 := p5 (by omega)
    obtain ⟨vb1, vb2, vb3, vb4⟩ := vb q2 o4
    have vb5 := p2_le8 vb2
    have q3 := p10 (by omega) (by omega)
    rw [q3.1] at va4
    rw [q3.2] at vb4
    clear p1 p2c p3 p4 p5 p6 p7 p8 p9 p10 p11 p12 p13 p14 p15 p16 va vb vc
    rw [← kk] at h2
    have h3 : Rt (some (.inl (shfW (nd (hI h 63) n 0) (hI h 68 (nd (hI h 63) n 2)) (hI h 68 (nd (hI h 63) n 3)) (nd (hI h 63) n 1)))) h := by rw [kk] at h2 ⊢; exact h2
    repeat' (first | apply And.intro | (with_reducible assumption) | (intro _; try (exfalso; omega)) | exact h3 | exact h2 | exact h2 (by omega) | omega | exact True.intro | (simp only [rI_rI, rJ_rJ, hI_rI, hJ_rI, hI_rJ, hJ_rJ, hR_rI, hR_rJ, hN_rI, hN_rJ, reduceIte, Nat.reduceEqDiff, eq_self, up_up, up_self, up_ne, ne_eq, not_false_eq_true, Int.reduceEq, Int.reduceNeg]; omega))
  · rw [kk] at h2 p1 p2c p3 p4 p5 p6 p7 p8 p9 p10 p11 p12 p13 p14 p15 p16
    have q1 := p4 (by omega)
    obtain ⟨va1, va2, va3, va4⟩ := va q1 o2
    have va5 := p2_le8 va2
    have q2 := p5 (by omega)
    obtain ⟨vb1, vb2, vb3, vb4⟩ := vb q2 o4
    have vb5 := p2_le8 vb2
    have q3 := p10 (by omega) (by omega)
    rw [q3.1] at va4
    rw [q3.2] at vb4
    clear p1 p2c p3 p4 p5 p6 p7 p8 p9 p10 p11 p12 p13 p14 p15 p16 va vb vc
    rw [← kk] at h2
    have h3 : Rt (some (.inl (shfW (nd (hI h 63) n 0) (hI h 68 (nd (hI h 63) n 2)) (hI h 68 (nd (hI h 63) n 3)) (nd (hI h 63) n 1)))) h := by rw [kk] at h2 ⊢; exact h2
    repeat' (first | apply And.intro | (with_reducible assumption) | (intro _; try (exfalso; omega)) | exact h3 | exact h2 | exact h2 (by omega) | omega | exact True.intro | (simp only [rI_rI, rJ_rJ, hI_rI, hJ_rI, hI_rJ, hJ_rJ, hR_rI, hR_rJ, hN_rI, hN_rJ, reduceIte, Nat.reduceEqDiff, eq_self, up_up, up_self, up_ne, ne_eq, not_false_eq_true, Int.reduceEq, Int.reduceNeg]; omega))
  · rw [kk] at h2 p1 p2c p3 p4 p5 p6 p7 p8 p9 p10 p11 p12 p13 p14 p15 p16
    have q1 := p4 (by omega)
    obtain ⟨va1, va2, va3, va4⟩ := va q1 o2
    have va5 := p2_le8 va2
    have q2 := p5 (by omega)
    obtain ⟨vb1, vb2, vb3, vb4⟩ := vb q2 o4
    have vb5 := p2_le8 vb2
    have q3 := p10 (by omega) (by omega)
    rw [q3.1] at va4
    rw [q3.2] at vb4
    clear p1 p2c p3 p4 p5 p6 p7 p8 p9 p10 p11 p12 p13 p14 p15 p16 va vb vc
    rw [← kk] at h2
    have h3 : Rt (some (.inl (shfW (nd (hI h 63) n 0) (hI h 68 (nd (hI h 63) n 2)) (hI h 68 (nd (hI h 63) n 3)) (nd (hI h 63) n 1)))) h := by rw [kk] at h2 ⊢; exact h2
    repeat' (first | apply And.intro | (with_reducible assumption) | (intro _; try (exfalso; omega)) | exact h3 | exact h2 | exact h2 (by omega) | omega | exact True.intro | (simp only [rI_rI, rJ_rJ, hI_rI, hJ_rI, hI_rJ, hJ_rJ, hR_rI, hR_rJ, hN_rI, hN_rJ, reduceIte, Nat.reduceEqDiff, eq_self, up_up, up_self, up_ne, ne_eq, not_false_eq_true, Int.reduceEq, Int.reduceNeg]; omega))
  · rw [kk] at h2 p1 p2c p3 p4 p5 p6 p7 p8 p9 p10 p11 p12 p13 p14 p15 p16
    have q1 := p4 (by omega)
    obtain ⟨va1, va2, va3, va4⟩ := va q1 o2
    have va5 := p2_le8 va2
    have q2 := p5 (by omega)
    obtain ⟨vb1, vb2, vb3, vb4⟩ := vb q2 o4
    have vb5 := p2_le8 vb2
    have q3 := p10 (by omega) (by omega)
    rw [q3.1] at va4
    rw [q3.2] at vb4
    clear p1 p2c p3 p4 p5 p6 p7 p8 p9 p10 p11 p12 p13 p14 p15 p16 va vb vc
    have h3 : hI h 68 (nd (hI h 63) n 3) = 0 → Rt (some (.inl ((p2 (nd (hI h 63) n 1) - 1)))) h := fun z => by have e : opV 11 (nd (hI h 63) n 1) (nd (hI h 63) (nd (hI h 63) n 2) 1) (nd (hI h 63) (nd (hI h 63) n 3) 1) (hI h 68 (nd (hI h 63) n 2)) (hI h 68 (nd (hI h 63) n 3)) (hI h 68 (nd (hI h 63) n 4)) (nd (hI h 63) n 5) (nd (hI h 63) n 6) (hI h 67) = ((p2 (nd (hI h 63) n 1) - 1)) := (by show (if _ = _ then _ else _) = _; exact if_pos z); exact (show Rt (some (.inl _)) h from e ▸ h2)
    have h4 : hI h 68 (nd (hI h 63) n 3) ≠ 0 → Rt (some (.inl (hI h 68 (nd (hI h 63) n 2) / hI h 68 (nd (hI h 63) n 3)))) h := fun z => by have e : opV 11 (nd (hI h 63) n 1) (nd (hI h 63) (nd (hI h 63) n 2) 1) (nd (hI h 63) (nd (hI h 63) n 3) 1) (hI h 68 (nd (hI h 63) n 2)) (hI h 68 (nd (hI h 63) n 3)) (hI h 68 (nd (hI h 63) n 4)) (nd (hI h 63) n 5) (nd (hI h 63) n 6) (hI h 67) = (hI h 68 (nd (hI h 63) n 2) / hI h 68 (nd (hI h 63) n 3)) := (by show (if _ = _ then _ else _) = _; exact if_neg z); exact (show Rt (some (.inl _)) h from e ▸ h2)
    repeat' (first | apply And.intro | (with_reducible assumption) | (intro _; try (exfalso; omega)) | exact h3 (by omega) | exact h4 (by omega) | exact h2 | exact h2 (by omega) | omega | exact True.intro | (simp only [rI_rI, rJ_rJ, hI_rI, hJ_rI, hI_rJ, hJ_rJ, hR_rI, hR_rJ, hN_rI, hN_rJ, reduceIte, Nat.reduceEqDiff, eq_self, up_up, up_self, up_ne, ne_eq, not_false_eq_true, Int.reduceEq, Int.reduceNeg]; omega))
  · rw [kk] at h2 p1 p2c p3 p4 p5 p6 p7 p8 p9 p10 p11 p12 p13 p14 p15 p16
    have q1 := p4 (by omega)
    obtain ⟨va1, va2, va3, va4⟩ := va q1 o2
    have va5 := p2_le8 va2
    have q2 := p5 (by omega)
    obtain ⟨vb1, vb2, vb3, vb4⟩ := vb q2 o4
    have vb5 := p2_le8 vb2
    have q3 := p10 (by omega) (by omega)
    rw [q3.1] at va4
    rw [q3.2] at vb4
    clear p1 p2c p3 p4 p5 p6 p7 p8 p9 p10 p11 p12 p13 p14 p15 p16 va vb vc
    have h3 : hI h 68 (nd (hI h 63) n 3) = 0 → Rt (some (.inl (hI h 68 (nd (hI h 63) n 2)))) h := fun z => by have e : opV 12 (nd (hI h 63) n 1) (nd (hI h 63) (nd (hI h 63) n 2) 1) (nd (hI h 63) (nd (hI h 63) n 3) 1) (hI h 68 (nd (hI h 63) n 2)) (hI h 68 (nd (hI h 63) n 3)) (hI h 68 (nd (hI h 63) n 4)) (nd (hI h 63) n 5) (nd (hI h 63) n 6) (hI h 67) = (hI h 68 (nd (hI h 63) n 2)) := (by show (if _ = _ then _ else _) = _; exact if_pos z); exact (show Rt (some (.inl _)) h from e ▸ h2)
    have h4 : hI h 68 (nd (hI h 63) n 3) ≠ 0 → Rt (some (.inl (hI h 68 (nd (hI h 63) n 2) % hI h 68 (nd (hI h 63) n 3)))) h := fun z => by have e : opV 12 (nd (hI h 63) n 1) (nd (hI h 63) (nd (hI h 63) n 2) 1) (nd (hI h 63) (nd (hI h 63) n 3) 1) (hI h 68 (nd (hI h 63) n 2)) (hI h 68 (nd (hI h 63) n 3)) (hI h 68 (nd (hI h 63) n 4)) (nd (hI h 63) n 5) (nd (hI h 63) n 6) (hI h 67) = (hI h 68 (nd (hI h 63) n 2) % hI h 68 (nd (hI h 63) n 3)) := (by show (if _ = _ then _ else _) = _; exact if_neg z); exact (show Rt (some (.inl _)) h from e ▸ h2)
    repeat' (first | apply And.intro | (with_reducible assumption) | (intro _; try (exfalso; omega)) | exact h3 (by omega) | exact h4 (by omega) | exact h2 | exact h2 (by omega) | omega | exact True.intro | (simp only [rI_rI, rJ_rJ, hI_rI, hJ_rI, hI_rJ, hJ_rJ, hR_rI, hR_rJ, hN_rI, hN_rJ, reduceIte, Nat.reduceEqDiff, eq_self, up_up, up_self, up_ne, ne_eq, not_false_eq_true, Int.reduceEq, Int.reduceNeg]; omega))
  · rw [kk] at h2 p1 p2c p3 p4 p5 p6 p7 p8 p9 p10 p11 p12 p13 p14 p15 p16
    have q1 := p4 (by omega)
    obtain ⟨va1, va2, va3, va4⟩ := va q1 o2
    have va5 := p2_le8 va2
    have q2 := p5 (by omega)
    obtain ⟨vb1, vb2, vb3, vb4⟩ := vb q2 o4
    have vb5 := p2_le8 vb2
    have q3 := p11 (by omega) (by omega)
    rw [← q3.2] at vb4
    clear p1 p2c p3 p4 p5 p6 p7 p8 p9 p10 p11 p12 p13 p14 p15 p16 va vb vc
    have h3 : Rt (some (.inl (cmpW (nd (hI h 63) n 0) (hI h 68 (nd (hI h 63) n 2)) (hI h 68 (nd (hI h 63) n 3)) (nd (hI h 63) (nd (hI h 63) n 2) 1)))) h := by rw [kk]; exact h2
    repeat' (first | apply And.intro | (with_reducible assumption) | (intro _; try (exfalso; omega)) | (refine rt_eq h3 ?_ rfl; congr 2) | exact h2 | exact h2 (by omega) | omega | exact True.intro | (simp only [rI_rI, rJ_rJ, hI_rI, hJ_rI, hI_rJ, hJ_rJ, hR_rI, hR_rJ, hN_rI, hN_rJ, reduceIte, Nat.reduceEqDiff, eq_self, up_up, up_self, up_ne, ne_eq, not_false_eq_true, Int.reduceEq, Int.reduceNeg]; omega))
  · rw [kk] at h2 p1 p2c p3 p4 p5 p6 p7 p8 p9 p10 p11 p12 p13 p14 p15 p16
    have q1 := p4 (by omega)
    obtain ⟨va1, va2, va3, va4⟩ := va q1 o2
    have va5 := p2_le8 va2
    have q2 := p5 (by omega)
    obtain ⟨vb1, vb2, vb3, vb4⟩ := vb q2 o4
    have vb5 := p2_le8 vb2
    have q3 := p11 (by omega) (by omega)
    rw [← q3.2] at vb4
    clear p1 p2c p3 p4 p5 p6 p7 p8 p9 p10 p11 p12 p13 p14 p15 p16 va vb vc
    have h3 : Rt (some (.inl (cmpW (nd (hI h 63) n 0) (hI h 68 (nd (hI h 63) n 2)) (hI h 68 (nd (hI h 63) n 3)) (nd (hI h 63) (nd (hI h 63) n 2) 1)))) h := by rw [kk]; exact h2
    repeat' (first | apply And.intro | (with_reducible assumption) | (intro _; try (exfalso; omega)) | (refine rt_eq h3 ?_ rfl; congr 2) | exact h2 | exact h2 (by omega) | omega | exact True.intro | (simp only [rI_rI, rJ_rJ, hI_rI, hJ_rI, hI_rJ, hJ_rJ, hR_rI, hR_rJ, hN_rI, hN_rJ, reduceIte, Nat.reduceEqDiff, eq_self, up_up, up_self, up_ne, ne_eq, not_false_eq_true, Int.reduceEq, Int.reduceNeg]; omega))
  · rw [kk] at h2 p1 p2c p3 p4 p5 p6 p7 p8 p9 p10 p11 p12 p13 p14 p15 p16
    have q1 := p4 (by omega)
    obtain ⟨va1, va2, va3, va4⟩ := va q1 o2
    have va5 := p2_le8 va2
    have q2 := p5 (by omega)
    obtain ⟨vb1, vb2, vb3, vb4⟩ := vb q2 o4
    have vb5 := p2_le8 vb2
    have q3 := p11 (by omega) (by omega)
    rw [← q3.2] at vb4
    clear p1 p2c p3 p4 p5 p6 p7 p8 p9 p10 p11 p12 p13 p14 p15 p16 va vb vc
    have h3 : Rt (some (.inl (cmpW (nd (hI h 63) n 0) (hI h 68 (nd (hI h 63) n 2)) (hI h 68 (nd (hI h 63) n 3)) (nd (hI h 63) (nd (hI h 63) n 2) 1)))) h := by rw [kk]; exact h2
    repeat' (first | apply And.intro | (with_reducible assumption) | (intro _; try (exfalso; omega)) | (refine rt_eq h3 ?_ rfl; congr 2) | exact h2 | exact h2 (by omega) | omega | exact True.intro | (simp only [rI_rI, rJ_rJ, hI_rI, hJ_rI, hI_rJ, hJ_rJ, hR_rI, hR_rJ, hN_rI, hN_rJ, reduceIte, Nat.reduceEqDiff, eq_self, up_up, up_self, up_ne, ne_eq, not_false_eq_true, Int.reduceEq, Int.reduceNeg]; omega))
  · rw [kk] at h2 p1 p2c p3 p4 p5 p6 p7 p8 p9 p10 p11 p12 p13 p14 p15 p16
    have q1 := p4 (by omega)
    obtain ⟨va1, va2, va3, va4⟩ := va q1 o2
    have va5 := p2_le8 va2
    have q2 := p5 (by omega)
    obtain ⟨vb1, vb2, vb3, vb4⟩ := vb q2 o4
    have vb5 := p2_le8 vb2
    have q3 := p11 (by omega) (by omega)
    rw [← q3.2] at vb4
    clear p1 p2c p3 p4 p5 p6 p7 p8 p9 p10 p11 p12 p13 p14 p15 p16 va vb vc
    have h3 : Rt (some (.inl (cmpW (nd (hI h 63) n 0) (hI h 68 (nd (hI h 63) n 2)) (hI h 68 (nd (hI h 63) n 3)) (nd (hI h 63) (nd (hI h 63) n 2) 1)))) h := by rw [kk]; exact h2
    repeat' (first | apply And.intro | (with_reducible assumption) | (intro _; try (exfalso; omega)) | (refine rt_eq h3 ?_ rfl; congr 2) | exact h2 | exact h2 (by omega) | omega | exact True.intro | (simp only [rI_rI, rJ_rJ, hI_rI, hJ_rI, hI_rJ, hJ_rJ, hR_rI, hR_rJ, hN_rI, hN_rJ, reduceIte, Nat.reduceEqDiff, eq_self, up_up, up_self, up_ne, ne_eq, not_false_eq_true, Int.reduceEq, Int.reduceNeg]; omega))
  · rw [kk] at h2 p1 p2c p3 p4 p5 p6 p7 p8 p9 p10 p11 p12 p13 p14 p15 p16
    have q1 := p4 (by omega)
    obtain ⟨va1, va2, va3, va4⟩ := va q1 o2
    have va5 := p2_le8 va2
    have q2 := p5 (by omega)
    obtain ⟨vb1, vb2, vb3, vb4⟩ := vb q2 o4
    have vb5 := p2_le8 vb2
    have q3 := p11 (by omega) (by omega)
    rw [← q3.2] at vb4
    clear p1 p2c p3 p4 p5 p6 p7 p8 p9 p10 p11 p12 p13 p14 p15 p16 va vb vc
    have h3 : Rt (some (.inl (cmpW (nd (hI h 63) n 0) (hI h 68 (nd (hI h 63) n 2)) (hI h 68 (nd (hI h 63) n 3)) (nd (hI h 63) (nd (hI h 63) n 2) 1)))) h := by rw [kk]; exact h2
    repeat' (first | apply And.intro | (with_reducible assumption) | (intro _; try (exfalso; omega)) | (refine rt_eq h3 ?_ rfl; congr 2) | exact h2 | exact h2 (by omega) | omega | exact True.intro | (simp only [rI_rI, rJ_rJ, hI_rI, hJ_rI, hI_rJ, hJ_rJ, hR_rI, hR_rJ, hN_rI, hN_rJ, reduceIte, Nat.reduceEqDiff, eq_self, up_up, up_self, up_ne, ne_eq, not_false_eq_true, Int.reduceEq, Int.reduceNeg]; omega))
  · rw [kk] at h2 p1 p2c p3 p4 p5 p6 p7 p8 p9 p10 p11 p12 p13 p14 p15 p16
    have q1 := p4 (by omega)
    obtain ⟨va1, va2, va3, va4⟩ := va q1 o2
    have va5 := p2_le8 va2
    have q2 := p5 (by omega)
    obtain ⟨vb1, vb2, vb3, vb4⟩ := vb q2 o4
    have vb5 := p2_le8 vb2
    have q3 := p12 rfl
    clear p1 p2c p3 p4 p5 p6 p7 p8 p9 p10 p11 p12 p13 p14 p15 p16 va vb vc
    have e : opV 18 (nd (hI h 63) n 1) (nd (hI h 63) (nd (hI h 63) n 2) 1) (nd (hI h 63) (nd (hI h 63) n 3) 1) (hI h 68 (nd (hI h 63) n 2)) (hI h 68 (nd (hI h 63) n 3)) (hI h 68 (nd (hI h 63) n 4)) (nd (hI h 63) n 5) (nd (hI h 63) n 6) (hI h 67) = bOr (sShl (hI h 68 (nd (hI h 63) n 2)) (nd (hI h 63) (nd (hI h 63) n 3) 1)) (hI h 68 (nd (hI h 63) n 3)) := (cat_eq va3 va4 vb3 vb4 va1 vb1 (by omega)).symm
    rw [e] at h2
    repeat' (first | apply And.intro | (with_reducible assumption) | (intro _; try (exfalso; omega)) | exact h2 | exact h2 (by omega) | omega | exact True.intro | (simp only [rI_rI, rJ_rJ, hI_rI, hJ_rI, hI_rJ, hJ_rJ, hR_rI, hR_rJ, hN_rI, hN_rJ, reduceIte, Nat.reduceEqDiff, eq_self, up_up, up_self, up_ne, ne_eq, not_false_eq_true, Int.reduceEq, Int.reduceNeg]; omega))
  · rw [kk] at h2 p1 p2c p3 p4 p5 p6 p7 p8 p9 p10 p11 p12 p13 p14 p15 p16
    have q1 := p4 (by omega)
    obtain ⟨va1, va2, va3, va4⟩ := va q1 o2
    have va5 := p2_le8 va2
    have q3 := p13 (by omega)
    have q4 := p9 (by omega) (by omega)
    clear p1 p2c p3 p4 p5 p6 p7 p8 p9 p10 p11 p12 p13 p14 p15 p16 va vb vc
    have e : opV 19 (nd (hI h 63) n 1) (nd (hI h 63) (nd (hI h 63) n 2) 1) (nd (hI h 63) (nd (hI h 63) n 3) 1) (hI h 68 (nd (hI h 63) n 2)) (hI h 68 (nd (hI h 63) n 3)) (hI h 68 (nd (hI h 63) n 4)) (nd (hI h 63) n 5) (nd (hI h 63) n 6) (hI h 67) = bAnd (bXor (hI h 68 (nd (hI h 63) n 2)) (-1)) (p2 (nd (hI h 63) n 1) - 1) := by rw [bAnd_mask (by omega) (by omega), bXor_m1 ⟨by omega, by omega⟩]; rfl
    rw [e] at h2
    repeat' (first | apply And.intro | (with_reducible assumption) | (intro _; try (exfalso; omega)) | exact h2 | exact h2 (by omega) | omega | exact True.intro | (simp only [rI_rI, rJ_rJ, hI_rI, hJ_rI, hI_rJ, hJ_rJ, hR_rI, hR_rJ, hN_rI, hN_rJ, reduceIte, Nat.reduceEqDiff, eq_self, up_up, up_self, up_ne, ne_eq, not_false_eq_true, Int.reduceEq, Int.reduceNeg]; omega))
  · rw [kk] at h2 p1 p2c p3 p4 p5 p6 p7 p8 p9 p10 p11 p12 p13 p14 p15 p16
    have q1 := p4 (by omega)
    obtain ⟨va1, va2, va3, va4⟩ := va q1 o2
    have va5 := p2_le8 va2
    have q3 := p13 (by omega)
    have q4 := p9 (by omega) (by omega)
    clear p1 p2c p3 p4 p5 p6 p7 p8 p9 p10 p11 p12 p13 p14 p15 p16 va vb vc
    have e : opV 20 (nd (hI h 63) n 1) (nd (hI h 63) (nd (hI h 63) n 2) 1) (nd (hI h 63) (nd (hI h 63) n 3) 1) (hI h 68 (nd (hI h 63) n 2)) (hI h 68 (nd (hI h 63) n 3)) (hI h 68 (nd (hI h 63) n 4)) (nd (hI h 63) n 5) (nd (hI h 63) n 6) (hI h 67) = bAnd (-(hI h 68 (nd (hI h 63) n 2))) (p2 (nd (hI h 63) n 1) - 1) := (bAnd_mask (by omega) (by omega)).symm
    rw [e] at h2
    repeat' (first | apply And.intro | (with_reducible assumption) | (intro _; try (exfalso; omega)) | exact h2 | exact h2 (by omega) | omega | exact True.intro | (simp only [rI_rI, rJ_rJ, hI_rI, hJ_rI, hI_rJ, hJ_rJ, hR_rI, hR_rJ, hN_rI, hN_rJ, reduceIte, Nat.reduceEqDiff, eq_self, up_up, up_self, up_ne, ne_eq, not_false_eq_true, Int.reduceEq, Int.reduceNeg]; omega))
  · rw [kk] at h2 p1 p2c p3 p4 p5 p6 p7 p8 p9 p10 p11 p12 p13 p14 p15 p16
    have q1 := p4 (by omega)
    obtain ⟨va1, va2, va3, va4⟩ := va q1 o2
    have va5 := p2_le8 va2
    have q3 := p14 rfl
    have q4 := p9 (by omega) (by omega)
    clear p1 p2c p3 p4 p5 p6 p7 p8 p9 p10 p11 p12 p13 p14 p15 p16 va vb vc
    have e : opV 21 (nd (hI h 63) n 1) (nd (hI h 63) (nd (hI h 63) n 2) 1) (nd (hI h 63) (nd (hI h 63) n 3) 1) (hI h 68 (nd (hI h 63) n 2)) (hI h 68 (nd (hI h 63) n 3)) (hI h 68 (nd (hI h 63) n 4)) (nd (hI h 63) n 5) (nd (hI h 63) n 6) (hI h 67) = bAnd (sShr (hI h 68 (nd (hI h 63) n 2)) (nd (hI h 63) n 6)) (p2 (nd (hI h 63) n 1) - 1) := by rw [bAnd_mask (by omega) (by omega), sShr_eq ⟨by omega, by omega⟩ (by omega) (by omega)]; rfl
    rw [e] at h2
    repeat' (first | apply And.intro | (with_reducible assumption) | (intro _; try (exfalso; omega)) | exact h2 | exact h2 (by omega) | omega | exact True.intro | (simp only [rI_rI, rJ_rJ, hI_rI, hJ_rI, hI_rJ, hJ_rJ, hR_rI, hR_rJ, hN_rI, hN_rJ, reduceIte, Nat.reduceEqDiff, eq_self, up_up, up_self, up_ne, ne_eq, not_false_eq_true, Int.reduceEq, Int.reduceNeg]; omega))
  · rw [kk] at h2 p1 p2c p3 p4 p5 p6 p7 p8 p9 p10 p11 p12 p13 p14 p15 p16
    have q1 := p4 (by omega)
    obtain ⟨va1, va2, va3, va4⟩ := va q1 o2
    have va5 := p2_le8 va2
    have q3 := p15 (by omega)
    have q4 := p9 (by omega) (by omega)
    clear p1 p2c p3 p4 p5 p6 p7 p8 p9 p10 p11 p12 p13 p14 p15 p16 va vb vc
    have e : opV 22 (nd (hI h 63) n 1) (nd (hI h 63) (nd (hI h 63) n 2) 1) (nd (hI h 63) (nd (hI h 63) n 3) 1) (hI h 68 (nd (hI h 63) n 2)) (hI h 68 (nd (hI h 63) n 3)) (hI h 68 (nd (hI h 63) n 4)) (nd (hI h 63) n 5) (nd (hI h 63) n 6) (hI h 67) = hI h 68 (nd (hI h 63) n 2) := rfl
    rw [e] at h2
    repeat' (first | apply And.intro | (with_reducible assumption) | (intro _; try (exfalso; omega)) | exact h2 | exact h2 (by omega) | omega | exact True.intro | (simp only [rI_rI, rJ_rJ, hI_rI, hJ_rI, hI_rJ, hJ_rJ, hR_rI, hR_rJ, hN_rI, hN_rJ, reduceIte, Nat.reduceEqDiff, eq_self, up_up, up_self, up_ne, ne_eq, not_false_eq_true, Int.reduceEq, Int.reduceNeg]; omega))
  · rw [kk] at h2 p1 p2c p3 p4 p5 p6 p7 p8 p9 p10 p11 p12 p13 p14 p15 p16
    have q1 := p4 (by omega)
    obtain ⟨va1, va2, va3, va4⟩ := va q1 o2
    have va5 := p2_le8 va2
    have q3 := p15 (by omega)
    have q4 := p9 (by omega) (by omega)
    have q5 := sgn_rng va1 va2 va3 va4
    clear p1 p2c p3 p4 p5 p6 p7 p8 p9 p10 p11 p12 p13 p14 p15 p16 va vb vc
    have e : opV 23 (nd (hI h 63) n 1) (nd (hI h 63) (nd (hI h 63) n 2) 1) (nd (hI h 63) (nd (hI h 63) n 3) 1) (hI h 68 (nd (hI h 63) n 2)) (hI h 68 (nd (hI h 63) n 3)) (hI h 68 (nd (hI h 63) n 4)) (nd (hI h 63) n 5) (nd (hI h 63) n 6) (hI h 67) = bAnd (sgn (hI h 68 (nd (hI h 63) n 2)) (nd (hI h 63) (nd (hI h 63) n 2) 1)) (p2 (nd (hI h 63) n 1) - 1) := (bAnd_mask (by omega) (by omega)).symm
    rw [e] at h2
    repeat' (first | apply And.intro | (with_reducible assumption) | (intro _; try (exfalso; omega)) | exact h2 | exact h2 (by omega) | omega | exact True.intro | (simp only [rI_rI, rJ_rJ, hI_rI, hJ_rI, hI_rJ, hJ_rJ, hR_rI, hR_rJ, hN_rI, hN_rJ, reduceIte, Nat.reduceEqDiff, eq_self, up_up, up_self, up_ne, ne_eq, not_false_eq_true, Int.reduceEq, Int.reduceNeg]; omega))
  · rw [kk] at h2 p1 p2c p3 p4 p5 p6 p7 p8 p9 p10 p11 p12 p13 p14 p15 p16
    have q1 := p4 (by omega)
    obtain ⟨va1, va2, va3, va4⟩ := va q1 o2
    have va5 := p2_le8 va2
    have q2 := p5 (by omega)
    obtain ⟨vb1, vb2, vb3, vb4⟩ := vb q2 o4
    have vb5 := p2_le8 vb2
    have q3 := p6 (by omega)
    obtain ⟨vc1, vc2, vc3, vc4⟩ := vc q3 o6
    have vc5 := p2_le8 vc2
    have q4 := p16 rfl
    clear p1 p2c p3 p4 p5 p6 p7 p8 p9 p10 p11 p12 p13 p14 p15 p16 va vb vc
    have h3 : hI h 68 (nd (hI h 63) n 2) = 1 → Rt (some (.inl (hI h 68 (nd (hI h 63) n 3)))) h := fun z => by have e : opV 24 (nd (hI h 63) n 1) (nd (hI h 63) (nd (hI h 63) n 2) 1) (nd (hI h 63) (nd (hI h 63) n 3) 1) (hI h 68 (nd (hI h 63) n 2)) (hI h 68 (nd (hI h 63) n 3)) (hI h 68 (nd (hI h 63) n 4)) (nd (hI h 63) n 5) (nd (hI h 63) n 6) (hI h 67) = (hI h 68 (nd (hI h 63) n 3)) := (by show (if _ = _ then _ else _) = _; exact if_pos z); exact (show Rt (some (.inl _)) h from e ▸ h2)
    have h4 : hI h 68 (nd (hI h 63) n 2) ≠ 1 → Rt (some (.inl (hI h 68 (nd (hI h 63) n 4)))) h := fun z => by have e : opV 24 (nd (hI h 63) n 1) (nd (hI h 63) (nd (hI h 63) n 2) 1) (nd (hI h 63) (nd (hI h 63) n 3) 1) (hI h 68 (nd (hI h 63) n 2)) (hI h 68 (nd (hI h 63) n 3)) (hI h 68 (nd (hI h 63) n 4)) (nd (hI h 63) n 5) (nd (hI h 63) n 6) (hI h 67) = (hI h 68 (nd (hI h 63) n 4)) := (by show (if _ = _ then _ else _) = _; exact if_neg z); exact (show Rt (some (.inl _)) h from e ▸ h2)
    repeat' (first | apply And.intro | (with_reducible assumption) | (intro _; try (exfalso; omega)) | exact h3 (by omega) | exact h4 (by omega) | exact h2 | exact h2 (by omega) | omega | exact True.intro | (simp only [rI_rI, rJ_rJ, hI_rI, hJ_rI, hI_rJ, hJ_rJ, hR_rI, hR_rJ, hN_rI, hN_rJ, reduceIte, Nat.reduceEqDiff, eq_self, up_up, up_self, up_ne, ne_eq, not_false_eq_true, Int.reduceEq, Int.reduceNeg]; omega))
theorem m_X10_valueOf : MM 227 s_X10_valueOf := mm_of (own := 9) (by rfl) k_X10_valueOf (cl := [(197, s_X10_kind), (198, s_X10_width), (196, s_X10_of), (192, s_X10_within), (225, s_X10_shifted), (226, s_X10_compares), (201, s_X10_mask), (224, s_X10_signed)]) ⟨m_X10_kind, m_X10_width, m_X10_of, m_X10_within, m_X10_shifted, m_X10_compares, m_X10_mask, m_X10_signed, trivial⟩ o_X10_valueOf

/-! ===== the class: assignments, cones, nodes made ===== -/
theorem or_disj {q y m : Int} (h0 : 0 ≤ q) (hm : 0 ≤ m) (y0 : 0 ≤ y) (y1 : y < p2 m) (hb : q * p2 m + p2 m ≤ 2147483648) : bOr (q * p2 m) y = q * p2 m + y := by
  have hp := p2_pos m
  have h5 : 0 ≤ q * p2 m := Int.mul_nonneg h0 (by omega)
  rw [bOr_pos h5 (by omega) y0 (by omega)]
  have e6 : (q * p2 m).toNat = 2 ^ m.toNat * q.toNat := by
    have : ((2 ^ m.toNat * q.toNat : Nat) : Int) = q * p2 m := by rw [Int.natCast_mul, Int.toNat_of_nonneg h0, p2_nat, Int.mul_comm]
    omega
  have e7 : y.toNat < 2 ^ m.toNat := by
    have := p2_nat m
    omega
  rw [e6, ← Nat.two_pow_add_eq_or_of_lt e7]
  have : ((2 ^ m.toNat * q.toNat : Nat) : Int) = q * p2 m := by rw [Int.natCast_mul, Int.toNat_of_nonneg h0, p2_nat, Int.mul_comm]
  omega
/-- the words of the first i variables, side by side -/
def hiW (w inp : Int → Int) : Nat → Int
  | 0 => 0
  | k + 1 => hiW w inp k * p2 (nd w (w (282 + (k : Int))) 1) + inp (k : Int)
theorem hiW_s (w inp : Int → Int) {i : Int} (h : 0 ≤ i) : hiW w inp (i + 1).toNat = hiW w inp i.toNat * p2 (nd w (w (282 + i)) 1) + inp i := by
  rw [show (i + 1).toNat = i.toNat + 1 by omega]
  show hiW w inp i.toNat * p2 (nd w (w (282 + (i.toNat : Int))) 1) + inp (i.toNat : Int) = _
  rw [show ((i.toNat : Nat) : Int) = i by omega]
theorem sumW_i (w : Int → Int) {i : Int} (h : 0 ≤ i) : sumW w (i + 1).toNat = sumW w i.toNat + nd w (w (282 + i)) 1 := by
  rw [show (i + 1).toNat = i.toNat + 1 by omega, sumW_succ, show ((i.toNat : Nat) : Int) = i by omega]
theorem sumW_0 {w : Int → Int} (h : WF w) {i : Int} (h0 : 0 ≤ i) (h1 : i ≤ w 281) : 0 ≤ sumW w i.toNat ∧ sumW w i.toNat ≤ sumW w (w 281).toNat ∧ sumW w i.toNat ≤ 16 := by
  have a := sumW_le h.vz (j := i.toNat) (w 281).toNat (by omega) (by omega)
  have := h.s16
  omega
theorem hiW_rng {w inp : Int → Int} (h : WF w) (he : Ev w inp) : ∀ k : Nat, (k : Int) ≤ w 281 → 0 ≤ hiW w inp k ∧ hiW w inp k < p2 (sumW w k) := by
  intro k
  induction k with
  | zero => intro _; exact ⟨Int.le_refl _, (show (0 : Int) < p2 0 by decide)⟩
  | succ k ih =>
    intro hk
    have a := ih (by omega)
    have b := he.o k (by omega) (by omega)
    have c := h.wv (v := k) (by omega) (by omega)
    have d := sumW_0 h (i := k) (by omega) (by omega)
    rw [show ((k : Nat) : Int).toNat = k by omega] at d
    have e : p2 (sumW w (k + 1)) = p2 (sumW w k) * p2 (nd w (w (282 + (k : Int))) 1) := by rw [sumW_succ, p2_add (by omega) (by omega)]
    have e2 : hiW w inp (k + 1) = hiW w inp k * p2 (nd w (w (282 + (k : Int))) 1) + inp (k : Int) := rfl
    rw [e, e2]
    have hp := p2_pos (nd w (w (282 + (k : Int))) 1)
    have e3 : (hiW w inp k + 1) * p2 (nd w (w (282 + (k : Int))) 1) ≤ p2 (sumW w k) * p2 (nd w (w (282 + (k : Int))) 1) := Int.mul_le_mul_of_nonneg_right (by omega) (by omega)
    rw [Int.add_mul, Int.one_mul] at e3
    have e5 : 0 ≤ hiW w inp k * p2 (nd w (w (282 + (k : Int))) 1) := Int.mul_nonneg a.1 (by omega)
    omega
theorem hiW_as {w inp : Int → Int} (h : WF w) (he : Ev w inp) : ∀ k : Nat, (k : Int) ≤ w 281 → ∀ v, 0 ≤ v → v < (k : Int) → hiW w inp k / p2 (sumW w k - sumW w (v + 1).toNat) % p2 (nd w (w (282 + v)) 1) = inp v := by
  intro k
  induction k with
  | zero => intro _ v a b; omega
  | succ k ih =>
    intro hk v h0 h1
    have b := he.o k (by omega) (by omega)
    have c := h.wv (v := k) (by omega) (by omega)
    have hp := p2_pos (nd w (w (282 + (k : Int))) 1)
    have e2 : hiW w inp (k + 1) = hiW w inp k * p2 (nd w (w (282 + (k : Int))) 1) + inp (k : Int) := rfl
    by_cases e : v = k
    · subst e
      rw [show ((k : Int) + 1).toNat = k + 1 by omega, Int.sub_self, p2_0, Int.ediv_one, e2, Int.add_comm, Int.add_mul_emod_self_right, Int.emod_eq_of_lt b.1 b.2]
    · have d := sumW_le h.vz (j := (v + 1).toNat) k (by omega) (by omega)
      have e3 : hiW w inp (k + 1) / p2 (nd w (w (282 + (k : Int))) 1) = hiW w inp k := by
        rw [e2, Int.add_comm, Int.add_mul_ediv_right _ _ (by omega), Int.ediv_eq_zero_of_lt b.1 b.2, Int.zero_add]
      rw [show sumW w (k + 1) - sumW w (v + 1).toNat = nd w (w (282 + (k : Int))) 1 + (sumW w k - sumW w (v + 1).toNat) by rw [sumW_succ]; omega, p2_add (by omega) (by omega), ← Int.ediv_ediv_of_nonneg (by omega), e3]
      exact ih (by omega) v h0 (by omega)
def s_X0_assignment : CS := (zc 3, ap [(3, 1), (3, 10)] (fun  h Rt X =>
∃ w, GH h w ∧ WF w ∧ Ev w (hI h 10) ∧ ∀ N, 0 ≤ N → N < tot w → Asg w (hI h 10) (asg w N) → Rt (some (.inl N)) h))
set_option maxRecDepth 100000 in
set_option maxHeartbeats 4000000 in
theorem o_X0_assignment : Obl true 1 4 (sp [(28, s_X0_placeOf)]) [] code_X0_assignment s_X0_assignment := by
  refine oblL (by rfl) [(4, [0, 1, 2, 3])] ?_
  intro  h Rt X hh hf hs
  obtain ⟨w, hG, hW, hE, h2⟩ := hs
  have c2 := hG.v
  have c4 := hW.vn
  have c8 := hW.s16
  refine ⟨fun k pc vs g => ∃ (i : Int), g = h ∧ vs = [.inr (.inr (some 1)), .inr (.inr (some 10)), .inl (hiW w (hI h 10) i.toNat * p2 (sumW w (w 281).toNat - sumW w i.toNat)), .inl i] ∧ 0 ≤ i ∧ i ≤ w 281 ∧ k = (w 281 - i).toNat, ?_, ?_⟩
  · repeat' (first | apply And.intro | (with_reducible assumption) | (intro h9; first | (exfalso; omega) | (simp only [rI_rI, rJ_rJ, hI_rI, hJ_rI, hI_rJ, hJ_rJ, hR_rI, hR_rJ, hN_rI, hN_rJ, svH_63, svH_66, rfH_63, wvH_63, wvH_62, wvH_67, wvH_68, wvH_69, sc_63, sc_n62, sc_n67, sc_n68, sc_n69, sc_n70, reduceIte, Nat.reduceEqDiff, eq_self, up_up, up_self, up_ne, ne_eq, not_false_eq_true, Int.reduceEq, Int.reduceNeg] at h9; first | (exfalso; omega) | skip) | skip) | exact Exists.intro _ ⟨0, rfl, (by show _ = [Sum.inr (Sum.inr (some 1)), Sum.inr (Sum.inr (some 10)), Sum.inl (0 * _), Sum.inl 0]; rw [Int.zero_mul]), by omega, by omega, rfl⟩ | exact h2 | exact h2 (by omega) | omega | exact True.intro | (simp only [rI_rI, rJ_rJ, hI_rI, hJ_rI, hI_rJ, hJ_rJ, hR_rI, hR_rJ, hN_rI, hN_rJ, svH_63, svH_66, rfH_63, wvH_63, wvH_62, wvH_67, wvH_68, wvH_69, sc_63, sc_n62, sc_n67, sc_n68, sc_n69, sc_n70, reduceIte, Nat.reduceEqDiff, eq_self, up_up, up_self, up_ne, ne_eq, not_false_eq_true, Int.reduceEq, Int.reduceNeg]; omega))
  · rintro k pc live vs g hl ⟨i, rfl, rfl, i1, i2, rfl⟩ hv hh1 hf1
    obtain ⟨rfl, rfl⟩ := look1 hl
    have s0 := sumW_0 hW i1 i2
    have r0 := hiW_rng hW hE i.toNat (by omega)
    by_cases z : i < w 281
    · have b := hE.o i i1 z
      have c := hW.wv i1 z
      have s1 := sumW_0 hW (i := i + 1) (by omega) (by omega)
      have r1 := hiW_rng hW hE (i + 1).toNat (by omega)
      have e1 := sumW_i w i1
      have e2 := hiW_s w (hI g 10) i1
      have pp : plc w i = sumW w (w 281).toNat - sumW w (i + 1).toNat := rfl
      have pr := plc_rng hW i1 z
      have q1 := p2_pos (plc w i)
      have q2 := p2_add (a := nd w (w (282 + i)) 1) (b := plc w i) (by omega) (by omega)
      have q3 : sumW w (w 281).toNat - sumW w i.toNat = nd w (w (282 + i)) 1 + plc w i := by omega
      have q4 : hI g 10 i * p2 (plc w i) < p2 (nd w (w (282 + i)) 1) * p2 (plc w i) := Int.mul_lt_mul_of_pos_right b.2 q1
      have q5 := p2_le16 (show nd w (w (282 + i)) 1 + plc w i ≤ 16 by omega)
      have q6 : 0 ≤ hI g 10 i * p2 (plc w i) := Int.mul_nonneg b.1 (by omega)
      have q7 : (hiW w (hI g 10) i.toNat + 1) * p2 (nd w (w (282 + i)) 1 + plc w i) ≤ p2 (sumW w i.toNat) * p2 (nd w (w (282 + i)) 1 + plc w i) := Int.mul_le_mul_of_nonneg_right (by omega) (by omega)
      rw [← p2_add (by omega) (by omega), Int.add_mul, Int.one_mul] at q7
      have q8 := p2_le16 (show sumW w i.toNat + (nd w (w (282 + i)) 1 + plc w i) ≤ 16 by omega)
      have fin : bOr (hiW w (hI g 10) i.toNat * p2 (sumW w (w 281).toNat - sumW w i.toNat)) (sShl (hI g 10 i) (plc w i)) = hiW w (hI g 10) (i + 1).toNat * p2 (sumW w (w 281).toNat - sumW w (i + 1).toNat) := by
        rw [q3, sShl_eq (by omega) (by omega) b.1 (by omega), or_disj r0.1 (by omega) q6 (by omega) (by omega), ← pp, e2, Int.add_mul, q2, Int.mul_assoc]
      repeat' (first | apply And.intro | (with_reducible assumption) | (intro h9; first | (exfalso; omega) | (simp only [rI_rI, rJ_rJ, hI_rI, hJ_rI, hI_rJ, hJ_rJ, hR_rI, hR_rJ, hN_rI, hN_rJ, svH_63, svH_66, rfH_63, wvH_63, wvH_62, wvH_67, wvH_68, wvH_69, sc_63, sc_n62, sc_n67, sc_n68, sc_n69, sc_n70, reduceIte, Nat.reduceEqDiff, eq_self, up_up, up_self, up_ne, ne_eq, not_false_eq_true, Int.reduceEq, Int.reduceNeg] at h9; first | (exfalso; omega) | skip) | skip) | refine Exists.intro w ?_ | exact hG | exact hW | exact Exists.intro _ ⟨by omega, i + 1, rfl, (by rw [← fin] <;> rfl), by omega, by omega, rfl⟩ | exact h2 | exact h2 (by omega) | omega | exact True.intro | (simp only [rI_rI, rJ_rJ, hI_rI, hJ_rI, hI_rJ, hJ_rJ, hR_rI, hR_rJ, hN_rI, hN_rJ, svH_63, svH_66, rfH_63, wvH_63, wvH_62, wvH_67, wvH_68, wvH_69, sc_63, sc_n62, sc_n67, sc_n68, sc_n69, sc_n70, reduceIte, Nat.reduceEqDiff, eq_self, up_up, up_self, up_ne, ne_eq, not_false_eq_true, Int.reduceEq, Int.reduceNeg]; omega))
    · obtain rfl : i = w 281 := by omega
      have k2 : Rt (some (.inl (hiW w (hI g 10) (w 281).toNat * p2 (sumW w (w 281).toNat - sumW w (w 281).toNat)))) g := by
        rw [Int.sub_self, p2_0, Int.mul_one]
        exact h2 (hiW w (hI g 10) (w 281).toNat) r0.1 r0.2 (Box.i fun v a b => (hiW_as hW hE (w 281).toNat (by omega) v a (by omega)).symm)
      repeat' (first | apply And.intro | (with_reducible assumption) | (intro h9; first | (exfalso; omega) | (simp only [rI_rI, rJ_rJ, hI_rI, hJ_rI, hI_rJ, hJ_rJ, hR_rI, hR_rJ, hN_rI, hN_rJ, svH_63, svH_66, rfH_63, wvH_63, wvH_62, wvH_67, wvH_68, wvH_69, sc_63, sc_n62, sc_n67, sc_n68, sc_n69, sc_n70, reduceIte, Nat.reduceEqDiff, eq_self, up_up, up_self, up_ne, ne_eq, not_false_eq_true, Int.reduceEq, Int.reduceNeg] at h9; first | (exfalso; omega) | skip) | skip) | exact k2 | exact h2 | exact h2 (by omega) | omega | exact True.intro | (simp only [rI_rI, rJ_rJ, hI_rI, hJ_rI, hI_rJ, hJ_rJ, hR_rI, hR_rJ, hN_rI, hN_rJ, svH_63, svH_66, rfH_63, wvH_63, wvH_62, wvH_67, wvH_68, wvH_69, sc_63, sc_n62, sc_n67, sc_n68, sc_n69, sc_n70, reduceIte, Nat.reduceEqDiff, eq_self, up_up, up_self, up_ne, ne_eq, not_false_eq_true, Int.reduceEq, Int.reduceNeg]; omega))
/-- what a set of nodes reaches, gone through from above -/
def cF (w : Int → Int) : Nat → Int64 → Int64
  | 0, s => s
  | k + 1, s => if lb s k then cF w k (orN w s (k : Int) 2) else cF w k s
def coneW (w : Int → Int) (n : Int) : Int64 := cF w (n + 1).toNat (lShl 1 n)
theorem orN_2 (w : Int → Int) (s : Int64) (i : Int) : orN w s i 2 = s ||| ((bO (nd w i 2) ||| bO (nd w i 3)) ||| bO (nd w i 4)) := by
  unfold orN
  rw [if_pos rfl]
  have e : ∀ s x, orI s x = s ||| bO x := by
    intro s x
    unfold orI bO
    split <;> rfl
  rw [e, e, e]
  apply lb_ext
  intro k _
  simp only [lb_or, Bool.or_assoc]
theorem ush1 {s : Int64} {i : Int} (h0 : 0 ≤ i) (h1 : i < 64) : lUshr s i &&& 1 = 0 ↔ lb s i.toNat = false := by
  have := (and1 (x := lUshr s i)).2
  rw [this, lb_ushr h0 h1]
  simp
theorem m_X0_assignment : MM 31 s_X0_assignment := mm_of (own := 0) (by rfl) k_X0_assignment (cl := [(28, s_X0_placeOf)]) ⟨m_X0_placeOf, trivial⟩ o_X0_assignment
def s_X0_cone : CS := (zc 2, ap [(3, 1), (0, 0)] (fun n h Rt X =>
∃ w, GH h w ∧ WF w ∧ (-1 ≤ n ∧ n < w 0) ∧ (n = -1 → Rt (some (.inr (.inl 0))) h) ∧ (n ≠ -1 → Rt (some (.inr (.inl (coneW w n)))) h)))
set_option maxRecDepth 100000 in
set_option maxHeartbeats 4000000 in
theorem o_X0_cone : Obl true 3 5 (sp [(3, s_X0_has), (5, s_X0_get), (26, s_X0_bitOf)]) [] code_X0_cone s_X0_cone := by
  refine oblL (by rfl) [(19, [0, 2, 4])] ?_
  intro n r_n h Rt X hh hf hs
  obtain ⟨w, hG, hW, ⟨a1, a2⟩, h2, h3⟩ := hs
  have c1 := hG.n
  have c3 := hW.nn
  refine ⟨fun k pc vs g => ∃ (i : Int) (s : Int64), g = h ∧ vs = [.inr (.inr (some 1)), .inr (.inl s), .inl i] ∧ -1 ≤ i ∧ i ≤ n ∧ ((n = -1 ∧ s = 0) ∨ (n ≠ -1 ∧ cF w (i + 1).toNat s = coneW w n)) ∧ k = (i + 1).toNat, ?_, ?_⟩
  · repeat' (first | apply And.intro | (with_reducible assumption) | (intro h9; first | (exfalso; omega) | (simp only [rI_rI, rJ_rJ, hI_rI, hJ_rI, hI_rJ, hJ_rJ, hR_rI, hR_rJ, hN_rI, hN_rJ, svH_63, svH_66, rfH_63, wvH_63, wvH_62, wvH_67, wvH_68, wvH_69, sc_63, sc_n62, sc_n67, sc_n68, sc_n69, sc_n70, reduceIte, Nat.reduceEqDiff, eq_self, up_up, up_self, up_ne, ne_eq, not_false_eq_true, Int.reduceEq, Int.reduceNeg] at h9; first | (exfalso; omega) | skip) | skip) | exact Exists.intro _ ⟨n, _, rfl, rfl, by omega, by omega, Or.inl ⟨by omega, rfl⟩, rfl⟩ | exact Exists.intro _ ⟨n, _, rfl, rfl, by omega, by omega, Or.inr ⟨by omega, rfl⟩, rfl⟩ | exact h2 | exact h2 (by omega) | exact h3 | exact h3 (by omega) | omega | exact True.intro | (simp only [rI_rI, rJ_rJ, hI_rI, hJ_rI, hI_rJ, hJ_rJ, hR_rI, hR_rJ, hN_rI, hN_rJ, svH_63, svH_66, rfH_63, wvH_63, wvH_62, wvH_67, wvH_68, wvH_69, sc_63, sc_n62, sc_n67, sc_n68, sc_n69, sc_n70, reduceIte, Nat.reduceEqDiff, eq_self, up_up, up_self, up_ne, ne_eq, not_false_eq_true, Int.reduceEq, Int.reduceNeg]; omega))
  · rintro k pc live vs g hl ⟨i, s, rfl, rfl, i1, i2, i3, rfl⟩ hv hh1 hf1
    obtain ⟨rfl, rfl⟩ := look1 hl
    rcases i3 with ⟨rfl, rfl⟩ | ⟨i3, i4⟩
    · obtain rfl : i = -1 := by omega
      have k2 := h2 rfl
      repeat' (first | apply And.intro | (with_reducible assumption) | (intro h9; first | (exfalso; omega) | (simp only [rI_rI, rJ_rJ, hI_rI, hJ_rI, hI_rJ, hJ_rJ, hR_rI, hR_rJ, hN_rI, hN_rJ, svH_63, svH_66, rfH_63, wvH_63, wvH_62, wvH_67, wvH_68, wvH_69, sc_63, sc_n62, sc_n67, sc_n68, sc_n69, sc_n70, reduceIte, Nat.reduceEqDiff, eq_self, up_up, up_self, up_ne, ne_eq, not_false_eq_true, Int.reduceEq, Int.reduceNeg] at h9; first | (exfalso; omega) | skip) | skip) | exact k2 | exact h2 | exact h2 (by omega) | exact h3 | exact h3 (by omega) | omega | exact True.intro | (simp only [rI_rI, rJ_rJ, hI_rI, hJ_rI, hI_rJ, hJ_rJ, hR_rI, hR_rJ, hN_rI, hN_rJ, svH_63, svH_66, rfH_63, wvH_63, wvH_62, wvH_67, wvH_68, wvH_69, sc_63, sc_n62, sc_n67, sc_n68, sc_n69, sc_n70, reduceIte, Nat.reduceEqDiff, eq_self, up_up, up_self, up_ne, ne_eq, not_false_eq_true, Int.reduceEq, Int.reduceNeg]; omega))
    · by_cases z : i = -1
      · subst z
        have e : s = coneW w n := i4
        have k3 := h3 i3
        rw [← e] at k3
        repeat' (first | apply And.intro | (with_reducible assumption) | (intro h9; first | (exfalso; omega) | (simp only [rI_rI, rJ_rJ, hI_rI, hJ_rI, hI_rJ, hJ_rJ, hR_rI, hR_rJ, hN_rI, hN_rJ, svH_63, svH_66, rfH_63, wvH_63, wvH_62, wvH_67, wvH_68, wvH_69, sc_63, sc_n62, sc_n67, sc_n68, sc_n69, sc_n70, reduceIte, Nat.reduceEqDiff, eq_self, up_up, up_self, up_ne, ne_eq, not_false_eq_true, Int.reduceEq, Int.reduceNeg] at h9; first | (exfalso; omega) | skip) | skip) | exact k3 | exact h2 | exact h2 (by omega) | exact h3 | exact h3 (by omega) | omega | exact True.intro | (simp only [rI_rI, rJ_rJ, hI_rI, hJ_rI, hI_rJ, hJ_rJ, hR_rI, hR_rJ, hN_rI, hN_rJ, svH_63, svH_66, rfH_63, wvH_63, wvH_62, wvH_67, wvH_68, wvH_69, sc_63, sc_n62, sc_n67, sc_n68, sc_n69, sc_n70, reduceIte, Nat.reduceEqDiff, eq_self, up_up, up_self, up_ne, ne_eq, not_false_eq_true, Int.reduceEq, Int.reduceNeg]; omega))
      · have g2 := hG.k2 (n := i) (by omega) (by omega)
        have g3 := hG.k3 (n := i) (by omega) (by omega)
        have g4 := hG.k4 (n := i) (by omega) (by omega)
        have e0 : (i + 1).toNat = i.toNat + 1 := by omega
        have e1 : ((i.toNat : Nat) : Int) = i := by omega
        have u := ush1 (s := s) (i := i) (by omega) (by omega)
        have e2 := orN_2 w s i
        rw [← g2, ← g3, ← g4] at e2
        rw [e0] at i4
        have i5 : (if lb s i.toNat then cF w i.toNat (orN w s (i.toNat : Int) 2) else cF w i.toNat s) = coneW w n := i4
        rw [e1] at i5
        by_cases y : lb s i.toNat = true
        · rw [if_pos y, e2] at i5
          have y2 : ¬ cmpL (lUshr s i &&& 1) 0 = 0 := fun q => by
            have := u.mp (cmpL_0.mp q)
            rw [y] at this
            cases this
          repeat' (first | apply And.intro | (with_reducible assumption) | (intro h9; first | (exfalso; omega) | (simp only [rI_rI, rJ_rJ, hI_rI, hJ_rI, hI_rJ, hJ_rJ, hR_rI, hR_rJ, hN_rI, hN_rJ, svH_63, svH_66, rfH_63, wvH_63, wvH_62, wvH_67, wvH_68, wvH_69, sc_63, sc_n62, sc_n67, sc_n68, sc_n69, sc_n70, reduceIte, Nat.reduceEqDiff, eq_self, up_up, up_self, up_ne, ne_eq, not_false_eq_true, Int.reduceEq, Int.reduceNeg] at h9; first | (exfalso; omega) | skip) | skip) | exact Exists.intro _ ⟨by omega, i + -1, _, rfl, rfl, by omega, by omega, Or.inr ⟨i3, by rw [show i + -1 + 1 = i by omega]; exact i5⟩, rfl⟩ | exact h2 | exact h2 (by omega) | exact h3 | exact h3 (by omega) | omega | exact True.intro | (simp only [rI_rI, rJ_rJ, hI_rI, hJ_rI, hI_rJ, hJ_rJ, hR_rI, hR_rJ, hN_rI, hN_rJ, svH_63, svH_66, rfH_63, wvH_63, wvH_62, wvH_67, wvH_68, wvH_69, sc_63, sc_n62, sc_n67, sc_n68, sc_n69, sc_n70, reduceIte, Nat.reduceEqDiff, eq_self, up_up, up_self, up_ne, ne_eq, not_false_eq_true, Int.reduceEq, Int.reduceNeg]; omega))
        · rw [if_neg y] at i5
          have y2 : cmpL (lUshr s i &&& 1) 0 = 0 := cmpL_0.mpr (u.mpr (by simpa using y))
          repeat' (first | apply And.intro | (with_reducible assumption) | (intro h9; first | (exfalso; omega) | (simp only [rI_rI, rJ_rJ, hI_rI, hJ_rI, hI_rJ, hJ_rJ, hR_rI, hR_rJ, hN_rI, hN_rJ, svH_63, svH_66, rfH_63, wvH_63, wvH_62, wvH_67, wvH_68, wvH_69, sc_63, sc_n62, sc_n67, sc_n68, sc_n69, sc_n70, reduceIte, Nat.reduceEqDiff, eq_self, up_up, up_self, up_ne, ne_eq, not_false_eq_true, Int.reduceEq, Int.reduceNeg] at h9; first | (exfalso; omega) | skip) | skip) | exact Exists.intro _ ⟨by omega, i + -1, s, rfl, rfl, by omega, by omega, Or.inr ⟨i3, by rw [show i + -1 + 1 = i by omega]; exact i5⟩, rfl⟩ | exact h2 | exact h2 (by omega) | exact h3 | exact h3 (by omega) | omega | exact True.intro | (simp only [rI_rI, rJ_rJ, hI_rI, hJ_rI, hI_rJ, hJ_rJ, hR_rI, hR_rJ, hN_rI, hN_rJ, svH_63, svH_66, rfH_63, wvH_63, wvH_62, wvH_67, wvH_68, wvH_69, sc_63, sc_n62, sc_n67, sc_n68, sc_n69, sc_n70, reduceIte, Nat.reduceEqDiff, eq_self, up_up, up_self, up_ne, ne_eq, not_false_eq_true, Int.reduceEq, Int.reduceNeg]; omega))
theorem m_X0_cone : MM 25 s_X0_cone := mm_of (own := 0) (by rfl) k_X0_cone (cl := [(3, s_X0_has), (5, s_X0_get), (26, s_X0_bitOf)]) ⟨m_X0_has, m_X0_get, m_X0_bitOf, trivial⟩ o_X0_cone

/-! ===== the reference: a word behind a parenthesis ===== -/
theorem opE_isL (r : Rw) (a : Int) : ∀ (n : Nat), a + n ≤ opE r a → ∀ i, 0 ≤ i → i < (n : Int) → isL r (a + i) := by
  intro n
  induction n with
  | zero => intro _ i i0 i1; omega
  | succ n ih =>
    intro h i i0 i1
    by_cases e : i = n
    · subst e
      have q : ∀ m : Nat, m ≤ n → opE r (a + m) = opE r a := by
        intro m
        induction m with
        | zero => intro _; rw [show a + ((0 : Nat) : Int) = a by omega]
        | succ m ihm =>
          intro hm
          have := ih (by omega) m (by omega) (by omega)
          have lt : a + m < r 49 1 := (tA_in (k := a + m) (by omega)).2
          rw [show a + ((m + 1 : Nat) : Int) = a + m + 1 by omega, ← opE_t lt this]
          exact ihm (by omega)
      have q2 := q n (Nat.le_refl _)
      by_cases z : isL r (a + n)
      · exact z
      · have := opE_f (r := r) (p := a + n) (Or.inr z)
        omega
    · exact ih (by omega) i i0 (by omega)
theorem opE_end (r : Rw) (a : Int) : ¬ isL r (opE r a) := by
  intro e
  have lt : opE r a < r 49 1 := (tA_in (k := opE r a) (by omega)).2
  exact of_decide_eq_false (whl_end (P := fun k => decide (isL r k)) lt) e
theorem rI_o3 (h : Hp) (X Y Z W : Int → Int) : rI (rI (rI (rI h 62 X) 72 Y) 73 Z) 62 W = rI (rI (rI h 72 Y) 73 Z) 62 W := by
  unfold rI
  congr 2
  funext q
  show (if q = 62 then W else if q = 73 then Z else if q = 72 then Y else if q = 62 then X else h.2.1 q) = (if q = 62 then W else if q = 73 then Z else if q = 72 then Y else h.2.1 q)
  by_cases e1 : q = 62
  · rw [if_pos e1, if_pos e1]
  · rw [if_neg e1, if_neg e1, if_neg e1]
theorem kdF_fst {r : Rw} {a n : Int} (n0 : 0 ≤ n) (h : ∀ i, 0 ≤ i → i < n → 97 ≤ tA r (a + i) ∧ tA r (a + i) ≤ 122) : fst (fun j => decide (wdL (j + 2) = ltF r a n.toNat)) 23 = fst (kdP r a n) 23 := by
  refine fst_congr fun j j0 j1 => ?_
  unfold kdP
  exact decide_eq_decide.mpr (wd_iff (by omega) (by omega) n0 h)
theorem kdF_0 (r : Rw) (a : Int) : kdF r a 0 = -1 := by
  rcases kdF_rng r a 0 with e | ⟨k0, k1, k2⟩
  · exact e
  · have w := wl_0 (kdF r a 0 - 2).toNat (by omega)
    rw [show (((kdF r a 0 - 2).toNat : Nat) : Int) + 2 = kdF r a 0 by omega, k2.2.1] at w
    exact absurd (if_neg (by decide)) w
def s_X10_takesWord : CS := (zc 3, ap [(3, 62)] (fun  h Rt X =>
∃ r, TeQ (hI h) r ∧ 0 ≤ hI h 62 19 ∧ hI h 62 19 ≤ r 49 1 ∧ (0 ≤ hI h 62 18 ∧ hI h 62 18 < 60) ∧ (kdF r (spk r (hI h 62 19)) (opE r (spk r (hI h 62 19)) - spk r (hI h 62 19)) = -1 → ∀ F, Pz (hI h 62) (spk r (hI h 62 19)) F → Rt (some (.inl 0)) (rI h 62 F)) ∧
(kdF r (spk r (hI h 62 19)) (opE r (spk r (hI h 62 19)) - spk r (hI h 62 19)) ≠ -1 → Rt (some (.inl 1)) (rI (rI (rI h 72 (up (hI h 72) (hI h 62 18) (kdF r (spk r (hI h 62 19)) (opE r (spk r (hI h 62 19)) - spk r (hI h 62 19))))) 73 (up (hI h 73) (hI h 62 18) 0)) 62 (up (up (hI h 62) 19 (opE r (spk r (hI h 62 19)))) 18 (hI h 62 18 + 1))))))
set_option maxRecDepth 100000 in
set_option maxHeartbeats 4000000 in
theorem o_X10_takesWord : Obl true 2 5 (sp [(268, s_X10_skipped), (266, s_X10_letter), (192, s_X10_within), (267, s_X10_isDigit), (263, s_X10_word)]) [] code_X10_takesWord s_X10_takesWord := by
  refine oblL (by rfl) [(12, [0, 1, 2]), (114, [0, 1, 2, 4])] ?_
  intro  h Rt X hh hf hs
  obtain ⟨r, hT, k0, k1, ⟨t0, t1⟩, h3, h4⟩ := hs
  have t3 := hT.o.2.2.1
  have sr := spk_rng r k1
  generalize ha : spk r (hI h 62 19) = a at *
  have er := opE_rng r (p := a) sr.2
  have tq : ∀ p, TeQ (hI (rI h 62 (up (hI h 62) 19 p))) r := fun p => hT.z (Pz.up _ _)
  have a2 : ∀ p, hI (rI h 62 (up (hI h 62) 19 p)) 62 19 = p := fun p => up_self (hI h 62) 19 p
  have a18 : ∀ p, hI (rI h 62 (up (hI h 62) 19 p)) 62 18 = hI h 62 18 := fun p => (up_ne (show (18 : Int) ≠ 19 by decide) : up (hI h 62) 19 p 18 = hI h 62 18)
  refine ⟨fun m pc vs g => ∃ (n : Int), g = rI h 62 (up (hI h 62) 19 (a + n)) ∧ 0 ≤ n ∧ a + n ≤ opE r a ∧ ((pc = 12 ∧ vs = [.inr (.inr (some 62)), .inl a, .inr (.inl (ltF r a n.toNat))] ∧ m = 1000 + (opE r a - a - n).toNat) ∨
    (pc = 114 ∧ a + n = opE r a ∧ ∃ k, vs = [.inr (.inr (some 62)), .inl a, .inr (.inl (ltF r a n.toNat)), .inl (k + 2)] ∧ 0 ≤ k ∧ k ≤ 23 ∧ fst (fun j => decide (wdL (j + 2) = ltF r a n.toNat)) k.toNat = -1 ∧ m = (23 - k).toNat)), ?_, ?_⟩
  · repeat' (first | apply And.intro | (with_reducible assumption) | (intro h9; first | (exfalso; omega) | (simp only [rI_rI, rJ_rJ, hI_rI, hJ_rI, hI_rJ, hJ_rJ, hI_rR, hR_rI, hR_rJ, hN_rI, hN_rJ, svH_63, svH_66, rfH_63, wvH_63, wvH_62, wvH_67, wvH_68, wvH_69, sc_63, sc_n62, sc_n67, sc_n68, sc_n69, sc_n70, reduceIte, Nat.reduceEqDiff, eq_self, up_up, up_self, up_ne, ne_eq, not_false_eq_true, Int.reduceEq, Int.reduceNeg] at h9; first | (exfalso; omega) | skip) | skip) | refine Exists.intro r ?_ | exact hT | (rw [ha]; exact Exists.intro _ ⟨0, (by rw [Int.add_zero]), by omega, by omega, Or.inl ⟨rfl, rfl, rfl⟩⟩) | exact h3 | exact h3 (by omega) | exact h4 | exact h4 (by omega) | omega | exact True.intro | (simp only [rI_rI, rJ_rJ, hI_rI, hJ_rI, hI_rJ, hJ_rJ, hI_rR, hR_rI, hR_rJ, hN_rI, hN_rJ, svH_63, svH_66, rfH_63, wvH_63, wvH_62, wvH_67, wvH_68, wvH_69, sc_63, sc_n62, sc_n67, sc_n68, sc_n69, sc_n70, reduceIte, Nat.reduceEqDiff, eq_self, up_up, up_self, up_ne, ne_eq, not_false_eq_true, Int.reduceEq, Int.reduceNeg]; omega))
  · rintro m pc vs' vs g hl ⟨n, hg, i1, i2, (⟨rfl, rfl, rfl⟩ | ⟨rfl, i3, k, rfl, i4, i5, i6, rfl⟩)⟩ hv hh1 hf1
    · obtain ⟨_, rfl⟩ | ⟨e, _⟩ := look2 hl
      · have T1 : TeQ (hI g) r := by rw [hg]; exact tq _
        have p1 : hI g 62 19 = a + n := by rw [hg]; exact a2 _
        have L1 : a + n < opE r a → isL r (a + n) := fun q => by
          have := opE_isL r a (n + 1).toNat (by omega) n i1 (by omega)
          exact this
        by_cases y : isL r (a + n)
        · have y1 := tA_in (r := r) (k := a + n) (by omega)
          have y2 := y
          rw [← p1] at y2
          have y5 : a + n < opE r a := by
            by_cases q : a + n = opE r a
            · rw [q] at y; exact absurd y (opE_end r a)
            · omega
          have y3 : 97 ≤ tA r (hI g 62 19) ∧ tA r (hI g 62 19) ≤ 122 := ⟨y2.1, y2.2.1⟩
          have y4 := y2.2.2
          have e1 : n < 6 → ltF r a (n + 1).toNat = ltF r a n.toNat ||| lShl (i2L (tA r (hI g 62 19))) (8 * (hI g 62 19 - a)) := fun q => by
            rw [show (n + 1).toNat = n.toNat + 1 by omega]
            refine (if_pos (by omega)).trans ?_
            rw [p1, show ((n.toNat : Nat) : Int) = n by omega, show a + n - a = n by omega]
          have e2 : ¬ n < 6 → ltF r a (n + 1).toNat = Int64.ofNat 18446744073709551615 := fun q => by
            rw [show (n + 1).toNat = n.toNat + 1 by omega]
            exact if_neg (by omega)
          have hp : rI g 62 (up (hI g 62) 19 (hI g 62 19 + 1)) = rI h 62 (up (hI h 62) 19 (a + (n + 1))) := by
            rw [p1, hg, rI_rI]
            refine congrArg (rI h 62) ?_
            show up (up (hI h 62) 19 (a + n)) 19 (a + n + 1) = _
            rw [up_up, Int.add_assoc]
          repeat' (first | apply And.intro | (with_reducible assumption) | (intro h9; first | (exfalso; omega) | (simp only [rI_rI, rJ_rJ, hI_rI, hJ_rI, hI_rJ, hJ_rJ, hI_rR, hR_rI, hR_rJ, hN_rI, hN_rJ, svH_63, svH_66, rfH_63, wvH_63, wvH_62, wvH_67, wvH_68, wvH_69, sc_63, sc_n62, sc_n67, sc_n68, sc_n69, sc_n70, reduceIte, Nat.reduceEqDiff, eq_self, up_up, up_self, up_ne, ne_eq, not_false_eq_true, Int.reduceEq, Int.reduceNeg] at h9; first | (exfalso; omega) | skip) | skip) | refine Exists.intro r ?_ | exact T1 | exact absurd (by assumption) (y4 (by assumption)) | exact absurd y3 (by assumption) | exact Exists.intro _ ⟨by omega, n + 1, hp, by omega, by omega, Or.inl ⟨rfl, (by rw [e1 (by omega)]), rfl⟩⟩ | exact Exists.intro _ ⟨by omega, n + 1, hp, by omega, by omega, Or.inl ⟨rfl, (by rw [e2 (by omega)]; rfl), rfl⟩⟩ | exact h3 | exact h3 (by omega) | exact h4 | exact h4 (by omega) | omega | exact True.intro | (simp only [rI_rI, rJ_rJ, hI_rI, hJ_rI, hI_rJ, hJ_rJ, hI_rR, hR_rI, hR_rJ, hN_rI, hN_rJ, svH_63, svH_66, rfH_63, wvH_63, wvH_62, wvH_67, wvH_68, wvH_69, sc_63, sc_n62, sc_n67, sc_n68, sc_n69, sc_n70, reduceIte, Nat.reduceEqDiff, eq_self, up_up, up_self, up_ne, ne_eq, not_false_eq_true, Int.reduceEq, Int.reduceNeg]; omega))
        · have y5 : a + n = opE r a := by
            by_cases q : a + n < opE r a
            · exact absurd (L1 q) y
            · omega
          have y2 : 97 ≤ tA r (hI g 62 19) → tA r (hI g 62 19) ≤ 122 → tA r (hI g 62 19) = 118 ∧ isD (tA r (hI g 62 19 + 1)) := fun q1 q2 => by
            rw [p1] at q1 q2 ⊢
            by_cases e : tA r (a + n) = 118
            · by_cases f : isD (tA r (a + n + 1))
              · exact ⟨e, f⟩
              · exact absurd ⟨q1, q2, fun _ => f⟩ y
            · exact absurd ⟨q1, q2, fun q => absurd q e⟩ y
          repeat' (first | apply And.intro | (with_reducible assumption) | (intro h9; first | (exfalso; omega) | (simp only [rI_rI, rJ_rJ, hI_rI, hJ_rI, hI_rJ, hJ_rJ, hI_rR, hR_rI, hR_rJ, hN_rI, hN_rJ, svH_63, svH_66, rfH_63, wvH_63, wvH_62, wvH_67, wvH_68, wvH_69, sc_63, sc_n62, sc_n67, sc_n68, sc_n69, sc_n70, reduceIte, Nat.reduceEqDiff, eq_self, up_up, up_self, up_ne, ne_eq, not_false_eq_true, Int.reduceEq, Int.reduceNeg] at h9; first | (exfalso; omega) | skip) | skip) | refine Exists.intro r ?_ | exact T1 | exact absurd (y2 (And.left (by assumption)) (And.right (by assumption))).2 (by assumption) | exact absurd (y2 (And.left (by assumption)) (And.right (by assumption))).1 (by assumption) | exact Exists.intro _ ⟨by omega, n, hg, by omega, by omega, Or.inr ⟨rfl, y5, 0, rfl, by omega, by omega, rfl, rfl⟩⟩ | exact h3 | exact h3 (by omega) | exact h4 | exact h4 (by omega) | omega | exact True.intro | (simp only [rI_rI, rJ_rJ, hI_rI, hJ_rI, hI_rJ, hJ_rJ, hI_rR, hR_rI, hR_rJ, hN_rI, hN_rJ, svH_63, svH_66, rfH_63, wvH_63, wvH_62, wvH_67, wvH_68, wvH_69, sc_63, sc_n62, sc_n67, sc_n68, sc_n69, sc_n70, reduceIte, Nat.reduceEqDiff, eq_self, up_up, up_self, up_ne, ne_eq, not_false_eq_true, Int.reduceEq, Int.reduceNeg]; omega))
      · omega
    · obtain ⟨e, _⟩ | ⟨_, rfl⟩ := look2 hl
      · omega
      · have p1 : hI g 62 19 = a + n := by rw [hg]; exact a2 _
        have hn : opE r a - a = n := by omega
        rw [hn] at h3 h4
        rw [← i3] at h4
        have hL : ∀ i, 0 ≤ i → i < n → 97 ≤ tA r (a + i) ∧ tA r (a + i) ≤ 122 := fun i i0 i1 => by
          have := opE_isL r a n.toNat (by omega) i i0 (by omega)
          exact ⟨this.1, this.2.1⟩
        have kf := kdF_fst (r := r) (a := a) i1 hL
        by_cases y : k < 23
        · by_cases z : wdL (k + 2) = ltF r a n.toNat
          · have q : fst (fun j => decide (wdL (j + 2) = ltF r a n.toNat)) 23 = k := fst_hit (N := 23) i4 y i6 (decide_eq_true z)
            have q2 : kdF r a n = k + 2 := by
              unfold kdF
              rw [← kf, q, if_neg (by omega)]
            have nz : n ≠ 0 := fun q => by
              rw [q, kdF_0] at q2
              omega
            rw [q2] at h4
            have h4 := h4 (by omega)
            have zz := cmpL_0.mpr z
            have kS : Rt (some (.inl 1)) (rI (rI (rI g 72 (up (hI g 72) (hI g 62 18) (k + 2))) 73 (up (hI g 73) (hI g 62 18) 0)) 62 (up (hI g 62) 18 (hI g 62 18 + 1))) := by
              rw [hg, a18]
              refine rt_eq (Rt := Rt) h4 rfl ?_
              exact (rI_o3 _ _ _ _ _).symm
            have p18 : hI g 62 18 = hI h 62 18 := by rw [hg]; exact a18 _
            repeat' (first | apply And.intro | (with_reducible assumption) | (intro h9; first | (exfalso; omega) | (simp only [rI_rI, rJ_rJ, hI_rI, hJ_rI, hI_rJ, hJ_rJ, hI_rR, hR_rI, hR_rJ, hN_rI, hN_rJ, svH_63, svH_66, rfH_63, wvH_63, wvH_62, wvH_67, wvH_68, wvH_69, sc_63, sc_n62, sc_n67, sc_n68, sc_n69, sc_n70, reduceIte, Nat.reduceEqDiff, eq_self, up_up, up_self, up_ne, ne_eq, not_false_eq_true, Int.reduceEq, Int.reduceNeg] at h9; first | (exfalso; omega) | skip) | skip) | (simp only [rI_rI, rJ_rJ, hI_rI, hJ_rI, hI_rJ, hJ_rJ, hI_rR, hR_rI, hR_rJ, hN_rI, hN_rJ, svH_63, svH_66, rfH_63, wvH_63, wvH_62, wvH_67, wvH_68, wvH_69, sc_63, sc_n62, sc_n67, sc_n68, sc_n69, sc_n70, reduceIte, Nat.reduceEqDiff, eq_self, up_up, up_self, up_ne, ne_eq, not_false_eq_true, Int.reduceEq, Int.reduceNeg]; exact kS) | exact h3 | exact h3 (by omega) | exact h4 | exact h4 (by omega) | omega | exact True.intro | (simp only [rI_rI, rJ_rJ, hI_rI, hJ_rI, hI_rJ, hJ_rJ, hI_rR, hR_rI, hR_rJ, hN_rI, hN_rJ, svH_63, svH_66, rfH_63, wvH_63, wvH_62, wvH_67, wvH_68, wvH_69, sc_63, sc_n62, sc_n67, sc_n68, sc_n69, sc_n70, reduceIte, Nat.reduceEqDiff, eq_self, up_up, up_self, up_ne, ne_eq, not_false_eq_true, Int.reduceEq, Int.reduceNeg]; omega))
          · have zz : ¬ cmpL (wdL (k + 2)) (ltF r a n.toNat) = 0 := fun q => z (cmpL_0.mp q)
            have q := fst_miss (P := fun j => decide (wdL (j + 2) = ltF r a n.toNat)) i4 i6 (decide_eq_false z)
            repeat' (first | apply And.intro | (with_reducible assumption) | (intro h9; first | (exfalso; omega) | (simp only [rI_rI, rJ_rJ, hI_rI, hJ_rI, hI_rJ, hJ_rJ, hI_rR, hR_rI, hR_rJ, hN_rI, hN_rJ, svH_63, svH_66, rfH_63, wvH_63, wvH_62, wvH_67, wvH_68, wvH_69, sc_63, sc_n62, sc_n67, sc_n68, sc_n69, sc_n70, reduceIte, Nat.reduceEqDiff, eq_self, up_up, up_self, up_ne, ne_eq, not_false_eq_true, Int.reduceEq, Int.reduceNeg] at h9; first | (exfalso; omega) | skip) | skip) | exact Exists.intro _ ⟨by omega, n, hg, by omega, by omega, Or.inr ⟨rfl, i3, k + 1, (by rw [show k + 2 + 1 = k + 1 + 2 by omega]), by omega, by omega, q, rfl⟩⟩ | exact h3 | exact h3 (by omega) | exact h4 | exact h4 (by omega) | omega | exact True.intro | (simp only [rI_rI, rJ_rJ, hI_rI, hJ_rI, hI_rJ, hJ_rJ, hI_rR, hR_rI, hR_rJ, hN_rI, hN_rJ, svH_63, svH_66, rfH_63, wvH_63, wvH_62, wvH_67, wvH_68, wvH_69, sc_63, sc_n62, sc_n67, sc_n68, sc_n69, sc_n70, reduceIte, Nat.reduceEqDiff, eq_self, up_up, up_self, up_ne, ne_eq, not_false_eq_true, Int.reduceEq, Int.reduceNeg]; omega))
        · obtain rfl : k = 23 := by omega
          have q2 : kdF r a n = -1 := by
            unfold kdF
            rw [← kf, show fst (fun j => decide (wdL (j + 2) = ltF r a n.toNat)) 23 = -1 from i6, if_pos rfl]
          have kF : Rt (some (.inl 0)) (rI g 62 (up (hI g 62) 19 a)) := by
            have := h3 q2 (up (hI g 62) 19 a) (Box.i ⟨up_self _ _ _, fun j a1 b1 => by rw [up_ne a1, hg]; exact up_ne a1⟩)
            rw [hg, rI_rI] at *
            exact this
          repeat' (first | apply And.intro | (with_reducible assumption) | (intro h9; first | (exfalso; omega) | (simp only [rI_rI, rJ_rJ, hI_rI, hJ_rI, hI_rJ, hJ_rJ, hI_rR, hR_rI, hR_rJ, hN_rI, hN_rJ, svH_63, svH_66, rfH_63, wvH_63, wvH_62, wvH_67, wvH_68, wvH_69, sc_63, sc_n62, sc_n67, sc_n68, sc_n69, sc_n70, reduceIte, Nat.reduceEqDiff, eq_self, up_up, up_self, up_ne, ne_eq, not_false_eq_true, Int.reduceEq, Int.reduceNeg] at h9; first | (exfalso; omega) | skip) | skip) | (simp only [rI_rI, rJ_rJ, hI_rI, hJ_rI, hI_rJ, hJ_rJ, hI_rR, hR_rI, hR_rJ, hN_rI, hN_rJ, svH_63, svH_66, rfH_63, wvH_63, wvH_62, wvH_67, wvH_68, wvH_69, sc_63, sc_n62, sc_n67, sc_n68, sc_n69, sc_n70, reduceIte, Nat.reduceEqDiff, eq_self, up_up, up_self, up_ne, ne_eq, not_false_eq_true, Int.reduceEq, Int.reduceNeg]; exact kF) | exact kF | exact h3 | exact h3 (by omega) | exact h4 | exact h4 (by omega) | omega | exact True.intro | (simp only [rI_rI, rJ_rJ, hI_rI, hJ_rI, hI_rJ, hJ_rJ, hI_rR, hR_rI, hR_rJ, hN_rI, hN_rJ, svH_63, svH_66, rfH_63, wvH_63, wvH_62, wvH_67, wvH_68, wvH_69, sc_63, sc_n62, sc_n67, sc_n68, sc_n69, sc_n70, reduceIte, Nat.reduceEqDiff, eq_self, up_up, up_self, up_ne, ne_eq, not_false_eq_true, Int.reduceEq, Int.reduceNeg]; omega))
theorem m_X10_takesWord : MM 273 s_X10_takesWord := mm_of (own := 9) (by rfl) k_X10_takesWord (cl := [(268, s_X10_skipped), (266, s_X10_letter), (192, s_X10_within), (267, s_X10_isDigit), (263, s_X10_word)]) ⟨m_X10_skipped, m_X10_letter, m_X10_within, m_X10_isDigit, m_X10_word, trivial⟩ o_X10_takesWord

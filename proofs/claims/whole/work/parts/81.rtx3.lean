/-! ===== the reference: constants ===== -/
def tkF (f : Int → Int) (t k x y : Int) : Int → Int := up (up (up f (3 * t) k) (3 * t + 1) x) (3 * t + 2) y
def s_X10_gives : CS := (zc 1, ap [(3, 62), (0, 0), (0, 0), (0, 0)] (fun k x y h Rt X =>
(0 ≤ hI h 62 15 ∧ hI h 62 15 < 60) ∧ Rt none (rI (rI h 71 (tkF (hI h 71) (hI h 62 15) k x y)) 62 (up (hI h 62) 15 (hI h 62 15 + 1)))))
set_option maxRecDepth 100000 in
set_option maxHeartbeats 4000000 in
theorem o_X10_gives : Obl true 0 4 (sp []) [] code_X10_gives s_X10_gives := by
  refine obl0 (by rfl) ?_
  intro k r_k x r_x y r_y h Rt X hh hf hs
  obtain ⟨h1, h2⟩ := hs
  unfold tkF at h2
  repeat' (first | apply And.intro | (with_reducible assumption) | (intro h9; first | (exfalso; omega) | (simp only [rI_rI, rJ_rJ, hI_rI, hJ_rI, hI_rJ, hJ_rJ, hI_rR, hR_rI, hR_rJ, hN_rI, hN_rJ, svH_63, svH_66, rfH_63, wvH_63, wvH_62, wvH_67, wvH_68, wvH_69, sc_63, sc_n62, sc_n67, sc_n68, sc_n69, sc_n70, reduceIte, Nat.reduceEqDiff, eq_self, up_up, up_self, up_ne, ne_eq, not_false_eq_true, Int.reduceEq, Int.reduceNeg] at h9; first | (exfalso; omega) | skip) | skip) | (simp only [rI_rI, rJ_rJ, hI_rI, hJ_rI, hI_rJ, hJ_rJ, hI_rR, hR_rI, hR_rJ, hN_rI, hN_rJ, svH_63, svH_66, rfH_63, wvH_63, wvH_62, wvH_67, wvH_68, wvH_69, sc_63, sc_n62, sc_n67, sc_n68, sc_n69, sc_n70, reduceIte, Nat.reduceEqDiff, eq_self, up_up, up_self, up_ne, ne_eq, not_false_eq_true, Int.reduceEq, Int.reduceNeg]; exact h2) | exact h1 | exact h1 (by omega) | exact h2 | exact h2 (by omega) | omega | exact True.intro | (simp only [rI_rI, rJ_rJ, hI_rI, hJ_rI, hI_rJ, hJ_rJ, hI_rR, hR_rI, hR_rJ, hN_rI, hN_rJ, svH_63, svH_66, rfH_63, wvH_63, wvH_62, wvH_67, wvH_68, wvH_69, sc_63, sc_n62, sc_n67, sc_n68, sc_n69, sc_n70, reduceIte, Nat.reduceEqDiff, eq_self, up_up, up_self, up_ne, ne_eq, not_false_eq_true, Int.reduceEq, Int.reduceNeg]; omega))
theorem m_X10_gives : MM 269 s_X10_gives := mm_of (own := 9) (by rfl) k_X10_gives (cl := []) trivial o_X10_gives
/-- a constant is wanted from a on: the place of the error -/
def ctX (r : Rw) (a e : Int) : Prop := Box ((isD (tA r (cnS r 3 a 0).1) ∧ e = (cnS r 3 a 0).1) ∨ (¬ isD (tA r (cnS r 3 a 0).1) ∧ tA r (spk r (cnS r 3 a 0).1) ≠ 58 ∧ e = spk r (cnS r 3 a 0).1) ∨ (¬ isD (tA r (cnS r 3 a 0).1) ∧ tA r (spk r (cnS r 3 a 0).1) = 58 ∧ dgX r (spk r (cnS r 3 a 0).1 + 1) e))
theorem pz0 {F G : Int → Int} {p : Int} (h : Pz F p G) (h0 : 0 ≤ p) : 0 ≤ G 19 := by rw [h.o.1]; exact h0
theorem pz1 {F G : Int → Int} {p L : Int} (h : Pz F p G) (h0 : p ≤ L) : G 19 ≤ L := by rw [h.o.1]; exact h0
theorem pzj {F G : Int → Int} {p : Int} (h : Pz F p G) {j : Int} (h1 : j ≠ 19) (h2 : j ≠ 20) : G j = F j := h.o.2 j h1 h2
/-- what a constant makes -/
def ctO (h : Hp) (r : Rw) (a : Int) (G : Int → Int) (Rt : Option AV → Hp → Prop) : Prop := Box (¬ isD (tA r (cnS r 3 a 0).1) → tA r (spk r (cnS r 3 a 0).1) = 58 → isD (tA r (spk r (spk r (cnS r 3 a 0).1 + 1))) → ¬ isD (tA r (spk r (spk r (cnS r 3 a 0).1 + 1) + 1)) →
  ∀ F, Pz G (spk r (spk r (cnS r 3 a 0).1 + 1) + 1) F → Rt (some (.inl 1)) (rI (rI h 71 (tkF (hI h 71) (G 15) 0 (cnS r 3 a 0).2 (tA r (spk r (spk r (cnS r 3 a 0).1 + 1)) - 48))) 62 (up F 15 (G 15 + 1))))
theorem rI_ov (h : Hp) {a b : Nat} (e : a ≠ b) (X Y Z : Int → Int) : rI (rI (rI h a X) b Y) a Z = rI (rI h b Y) a Z := by
  unfold rI
  congr 2
  funext q
  show (if q = a then Z else if q = b then Y else if q = a then X else h.2.1 q) = (if q = a then Z else if q = b then Y else h.2.1 q)
  by_cases e1 : q = a
  · rw [if_pos e1, if_pos e1]
  · rw [if_neg e1, if_neg e1, if_neg e1]
theorem pzR1 {F G K : Int → Int} {p q d : Int} (h : Pz F p G) (g : Pd G q d K) (e : 0 ≤ F 15) : 0 ≤ K 15 := by rw [(h.td g).o.2.2 15 (by decide) (by decide)]; exact e
theorem pzR2 {F G K : Int → Int} {p q d : Int} (h : Pz F p G) (g : Pd G q d K) (e : F 15 < 60) : K 15 < 60 := by rw [(h.td g).o.2.2 15 (by decide) (by decide)]; exact e
theorem ct_e {g : Hp} {r : Rw} {a p n : Int} {Rt : Option AV → Hp → Prop} {F G : Int → Int} (e : cnS r 3 a 0 = (p, n)) (h4 : ctO g r a (hI g 62) Rt) (hp : hI g 62 19 = p) (x1 : ¬ isD (tA r (hI g 62 19))) (x2 : tA r (spk r (hI g 62 19)) = 58) (hF : Pz (hI g 62) (spk r (hI g 62 19) + 1) F) (x3 : isD (tA r (spk r (F 19)))) (x4 : ¬ isD (tA r (spk r (F 19) + 1))) (hG : Pd F (spk r (F 19) + 1) (tA r (spk r (F 19)) - 48) G) :
    Rt (some (.inl 1)) (rI (rI (rI g 62 G) 71 (tkF (hI g 71) (G 15) 0 n (G 20))) 62 (up G 15 (G 15 + 1))) := by
  have z := hF.td hG
  have q := h4.o
  rw [e] at q
  dsimp only at q
  rw [hp] at x1 x2 hF
  rw [hF.o.1] at x3 x4 z hG
  have k := q x1 x2 x3 x4 G z.z
  rw [rI_ov g (show (62 : Nat) ≠ 71 by decide), z.o.2.2 15 (by decide) (by decide), z.o.2.1]
  exact k
/-- behind the digits of a constant -/
theorem ct_b {h g : Hp} {r : Rw} {a p n : Int} {Rt : Option AV → Hp → Prop} (hg : g = rI h 62 (up (hI h 62) 19 p)) (e : cnS r 3 a 0 = (p, n)) (h3 : ∀ e F, ctX r a e → Pz (hI h 62) e F → Rt (some (.inl 0)) (rI h 62 F)) (h4 : ctO h r a (hI h 62) Rt) :
    (∀ e F, ctX r a e → Pz (hI g 62) e F → Rt (some (.inl 0)) (rI g 62 F)) ∧ ctO g r a (hI g 62) Rt := by
  have P : Pz (hI h 62) p (hI g 62) := by rw [hg]; exact Pz.up _ _
  constructor
  · intro e F hx hp
    have := h3 e F hx (P.tr hp)
    rw [hg, rI_rI]
    exact this
  · refine Box.i fun a1 a2 a3 a4 F hp => ?_
    have := h4.o a1 a2 a3 a4 F (P.tr hp)
    have e15 : hI g 62 15 = hI h 62 15 := pzj P (show (15 : Int) ≠ 19 by decide) (show (15 : Int) ≠ 20 by decide)
    have e71 : hI g 71 = hI h 71 := by rw [hg]; rfl
    rw [e15, e71]
    refine rt_eq this rfl ?_
    rw [hg]
    exact (rI_ov h (show (62 : Nat) ≠ 71 by decide) _ _ _).symm
def s_X10_takesConstant : CS := (zc 4, ap [(3, 62)] (fun  h Rt X =>
∃ r, TeQ (hI h) r ∧ 0 ≤ hI h 62 19 ∧ hI h 62 19 ≤ r 49 1 ∧ (0 ≤ hI h 62 15 ∧ hI h 62 15 < 60) ∧ (∀ e F, ctX r (hI h 62 19) e → Pz (hI h 62) e F → Rt (some (.inl 0)) (rI h 62 F)) ∧ ctO h r (hI h 62 19) (hI h 62) Rt))
set_option maxRecDepth 100000 in
set_option maxHeartbeats 4000000 in
theorem o_X10_takesConstant : Obl true 2 4 (sp [(266, s_X10_letter), (267, s_X10_isDigit), (271, s_X10_takes), (270, s_X10_takesDigit), (269, s_X10_gives)]) [] code_X10_takesConstant s_X10_takesConstant := by
  refine oblL (by rfl) [(7, [0, 1, 2])] ?_
  intro  h Rt X hh hf hs
  obtain ⟨r, hT, k0, k1, ⟨t0, t1⟩, h3, h4⟩ := hs
  have t3 := hT.o.2.2.1
  refine ⟨fun m pc vs g => ∃ (j n : Int), g = rI h 62 (up (hI h 62) 19 (hI h 62 19 + j)) ∧ vs = [.inr (.inr (some 62)), .inl n, .inl (hI h 62 19)] ∧ 0 ≤ j ∧ j ≤ 3 ∧ hI h 62 19 + j ≤ r 49 1 ∧ 0 ≤ n ∧ ((j = 0 → n = 0) ∧ (j ≤ 1 → n ≤ 9) ∧ (j ≤ 2 → n ≤ 99) ∧ n ≤ 999) ∧ cnS r (3 - j).toNat (hI h 62 19 + j) n = cnS r 3 (hI h 62 19) 0 ∧ m = (4 - j).toNat, ?_, ?_⟩
  · repeat' (first | apply And.intro | (with_reducible assumption) | (intro h9; first | (exfalso; omega) | (simp only [rI_rI, rJ_rJ, hI_rI, hJ_rI, hI_rJ, hJ_rJ, hI_rR, hR_rI, hR_rJ, hN_rI, hN_rJ, svH_63, svH_66, rfH_63, wvH_63, wvH_62, wvH_67, wvH_68, wvH_69, sc_63, sc_n62, sc_n67, sc_n68, sc_n69, sc_n70, reduceIte, Nat.reduceEqDiff, eq_self, up_up, up_self, up_ne, ne_eq, not_false_eq_true, Int.reduceEq, Int.reduceNeg] at h9; first | (exfalso; omega) | skip) | skip) | exact Exists.intro _ ⟨0, 0, (by rw [Int.add_zero, up_id, rI_id]), rfl, by omega, by omega, by omega, by omega, by omega, (by rw [Int.add_zero]; rfl), rfl⟩ | exact h3 | exact h3 (by omega) | exact h4 | exact h4 (by omega) | omega | exact True.intro | (simp only [rI_rI, rJ_rJ, hI_rI, hJ_rI, hI_rJ, hJ_rJ, hI_rR, hR_rI, hR_rJ, hN_rI, hN_rJ, svH_63, svH_66, rfH_63, wvH_63, wvH_62, wvH_67, wvH_68, wvH_69, sc_63, sc_n62, sc_n67, sc_n68, sc_n69, sc_n70, reduceIte, Nat.reduceEqDiff, eq_self, up_up, up_self, up_ne, ne_eq, not_false_eq_true, Int.reduceEq, Int.reduceNeg]; omega))
  · rintro m pc vs' vs g hl ⟨j, n, hg, rfl, i1, i2, i3, i4, i5, i6, rfl⟩ hv hh1 hf1
    obtain ⟨rfl, rfl⟩ := look1 hl
    have a2 : hI g 62 19 = hI h 62 19 + j := by rw [hg]; exact up_self (hI h 62) 19 _
    have T1 : TeQ (hI g) r := by rw [hg]; exact hT.z (Pz.up _ _)
    have a5 : hI g 62 15 = hI h 62 15 := by rw [hg]; exact (up_ne (show (15 : Int) ≠ 19 by decide) : up (hI h 62) 19 (hI h 62 19 + j) 15 = hI h 62 15)
    by_cases y : j < 3 ∧ isD (tA r (hI h 62 19 + j))
    · have y0 := y.1
      have y1 := tA_rng y.2
      have y2 := y.2
      rw [← a2] at y2
      have y3 : 48 ≤ tA r (hI g 62 19) ∧ tA r (hI g 62 19) ≤ 57 := y2
      have e := i6
      rw [show (3 - j).toNat = (3 - (j + 1)).toNat + 1 by omega, cnS_s y.2] at e
      repeat' (first | apply And.intro | (with_reducible assumption) | (intro h9; first | (exfalso; omega) | (simp only [rI_rI, rJ_rJ, hI_rI, hJ_rI, hI_rJ, hJ_rJ, hI_rR, hR_rI, hR_rJ, hN_rI, hN_rJ, svH_63, svH_66, rfH_63, wvH_63, wvH_62, wvH_67, wvH_68, wvH_69, sc_63, sc_n62, sc_n67, sc_n68, sc_n69, sc_n70, reduceIte, Nat.reduceEqDiff, eq_self, up_up, up_self, up_ne, ne_eq, not_false_eq_true, Int.reduceEq, Int.reduceNeg] at h9; first | (exfalso; omega) | skip) | skip) | refine Exists.intro r ?_ | exact T1 | exact absurd y2 (by assumption) | exact Exists.intro _ ⟨by omega, j + 1, 10 * n + tA r (hI g 62 19) - 48, (by rw [a2, hg, ← Int.add_assoc]; exact (rI_rI _ _ _ _).trans (congrArg (rI h 62) (up_up _ _ _ _))), rfl, by omega, by omega, by omega, by omega, by omega, (by rw [a2, ← Int.add_assoc]; exact e), rfl⟩ | exact h3 | exact h3 (by omega) | exact h4 | exact h4 (by omega) | omega | exact True.intro | (simp only [rI_rI, rJ_rJ, hI_rI, hJ_rI, hI_rJ, hJ_rJ, hI_rR, hR_rI, hR_rJ, hN_rI, hN_rJ, svH_63, svH_66, rfH_63, wvH_63, wvH_62, wvH_67, wvH_68, wvH_69, sc_63, sc_n62, sc_n67, sc_n68, sc_n69, sc_n70, reduceIte, Nat.reduceEqDiff, eq_self, up_up, up_self, up_ne, ne_eq, not_false_eq_true, Int.reduceEq, Int.reduceNeg]; omega))
    · have hq : cnS r 3 (hI h 62 19) 0 = (hI h 62 19 + j, n) := by
        rw [← i6]
        by_cases z : isD (tA r (hI h 62 19 + j))
        · have : j = 3 := by
            by_cases q : j < 3
            · exact absurd ⟨q, z⟩ y
            · omega
          rw [this]
          rfl
        · exact cnS_z z
      obtain ⟨k3, k4⟩ := ct_b hg hq h3 h4
      have y2 : hI g 62 19 < hI h 62 19 + 3 → ¬ isD (tA r (hI g 62 19)) := fun q z => y ⟨by omega, by rw [← a2]; exact z⟩
      have b1 : (cnS r 3 (hI h 62 19) 0).1 = hI g 62 19 := by rw [hq, a2]
      have cx0 : isD (tA r (hI g 62 19)) → ctX r (hI h 62 19) (hI g 62 19) := fun z => by
        unfold ctX
        rw [b1]
        exact Box.i (Or.inl ⟨z, rfl⟩)
      have sr := spk_rng r (p := hI g 62 19) (by omega)
      by_cases z : isD (tA r (hI g 62 19))
      · have k := k3 _ (hI g 62) (cx0 z) (Box.i ⟨rfl, fun _ _ _ => rfl⟩)
        rw [rI_id] at k
        repeat' (first | apply And.intro | (with_reducible assumption) | (intro h9; first | (exfalso; omega) | (simp only [rI_rI, rJ_rJ, hI_rI, hJ_rI, hI_rJ, hJ_rJ, hI_rR, hR_rI, hR_rJ, hN_rI, hN_rJ, svH_63, svH_66, rfH_63, wvH_63, wvH_62, wvH_67, wvH_68, wvH_69, sc_63, sc_n62, sc_n67, sc_n68, sc_n69, sc_n70, reduceIte, Nat.reduceEqDiff, eq_self, up_up, up_self, up_ne, ne_eq, not_false_eq_true, Int.reduceEq, Int.reduceNeg] at h9; first | (exfalso; omega) | skip) | skip) | refine Exists.intro r ?_ | exact T1 | exact absurd (by assumption) (y2 (by assumption)) | exact absurd z (by assumption) | exact k | exact h3 | exact h3 (by omega) | exact h4 | exact h4 (by omega) | omega | exact True.intro | (simp only [rI_rI, rJ_rJ, hI_rI, hJ_rI, hI_rJ, hJ_rJ, hI_rR, hR_rI, hR_rJ, hN_rI, hN_rJ, svH_63, svH_66, rfH_63, wvH_63, wvH_62, wvH_67, wvH_68, wvH_69, sc_63, sc_n62, sc_n67, sc_n68, sc_n69, sc_n70, reduceIte, Nat.reduceEqDiff, eq_self, up_up, up_self, up_ne, ne_eq, not_false_eq_true, Int.reduceEq, Int.reduceNeg]; omega))
      · have cx1 : tA r (spk r (hI g 62 19)) ≠ 58 → ctX r (hI h 62 19) (spk r (hI g 62 19)) := fun q => by
          unfold ctX
          rw [b1]
          exact Box.i (Or.inr (Or.inl ⟨z, q, rfl⟩))
        have cx2 : ∀ F e, tA r (spk r (hI g 62 19)) = 58 → Pz (hI g 62) (spk r (hI g 62 19) + 1) F → dgX r (F 19) e → ctX r (hI h 62 19) e := fun F e q1 q2 q3 => by
          unfold ctX
          rw [b1]
          rw [q2.o.1] at q3
          exact Box.i (Or.inr (Or.inr ⟨z, q1, q3⟩))
        by_cases x : tA r (spk r (hI g 62 19)) = 58
        · have x1 := tA_in (tAn x (by decide))
          repeat' (first | apply And.intro | (with_reducible assumption) | (intro h9; first | (exfalso; omega) | (simp only [rI_rI, rJ_rJ, hI_rI, hJ_rI, hI_rJ, hJ_rJ, hI_rR, hR_rI, hR_rJ, hN_rI, hN_rJ, svH_63, svH_66, rfH_63, wvH_63, wvH_62, wvH_67, wvH_68, wvH_69, sc_63, sc_n62, sc_n67, sc_n68, sc_n69, sc_n70, reduceIte, Nat.reduceEqDiff, eq_self, up_up, up_self, up_ne, ne_eq, not_false_eq_true, Int.reduceEq, Int.reduceNeg] at h9; first | (exfalso; omega) | skip) | skip) | refine Exists.intro r ?_ | exact T1 | exact absurd (by assumption) (y2 (by assumption)) | exact absurd (by assumption) z | exact absurd x (by assumption) | exact T1.z (by assumption) | (simp only [rI_rI, rJ_rJ, hI_rI, hJ_rI, hI_rJ, hJ_rJ, hI_rR, hR_rI, hR_rJ, hN_rI, hN_rJ, svH_63, svH_66, rfH_63, wvH_63, wvH_62, wvH_67, wvH_68, wvH_69, sc_63, sc_n62, sc_n67, sc_n68, sc_n69, sc_n70, reduceIte, Nat.reduceEqDiff, eq_self, up_up, up_self, up_ne, ne_eq, not_false_eq_true, Int.reduceEq, Int.reduceNeg]; exact pz0 (by assumption) (by omega)) | (simp only [rI_rI, rJ_rJ, hI_rI, hJ_rI, hI_rJ, hJ_rJ, hI_rR, hR_rI, hR_rJ, hN_rI, hN_rJ, svH_63, svH_66, rfH_63, wvH_63, wvH_62, wvH_67, wvH_68, wvH_69, sc_63, sc_n62, sc_n67, sc_n68, sc_n69, sc_n70, reduceIte, Nat.reduceEqDiff, eq_self, up_up, up_self, up_ne, ne_eq, not_false_eq_true, Int.reduceEq, Int.reduceNeg]; exact pz1 (by assumption) (by omega)) | (simp only [rI_rI, rJ_rJ, hI_rI, hJ_rI, hI_rJ, hJ_rJ, hI_rR, hR_rI, hR_rJ, hN_rI, hN_rJ, svH_63, svH_66, rfH_63, wvH_63, wvH_62, wvH_67, wvH_68, wvH_69, sc_63, sc_n62, sc_n67, sc_n68, sc_n69, sc_n70, reduceIte, Nat.reduceEqDiff, eq_self, up_up, up_self, up_ne, ne_eq, not_false_eq_true, Int.reduceEq, Int.reduceNeg]; exact pzR1 (by assumption) (by assumption) (by omega)) | (simp only [rI_rI, rJ_rJ, hI_rI, hJ_rI, hI_rJ, hJ_rJ, hI_rR, hR_rI, hR_rJ, hN_rI, hN_rJ, svH_63, svH_66, rfH_63, wvH_63, wvH_62, wvH_67, wvH_68, wvH_69, sc_63, sc_n62, sc_n67, sc_n68, sc_n69, sc_n70, reduceIte, Nat.reduceEqDiff, eq_self, up_up, up_self, up_ne, ne_eq, not_false_eq_true, Int.reduceEq, Int.reduceNeg]; exact pzR2 (by assumption) (by assumption) (by omega)) | (simp only [rI_rI, rJ_rJ, hI_rI, hJ_rI, hI_rJ, hJ_rJ, hI_rR, hR_rI, hR_rJ, hN_rI, hN_rJ, svH_63, svH_66, rfH_63, wvH_63, wvH_62, wvH_67, wvH_68, wvH_69, sc_63, sc_n62, sc_n67, sc_n68, sc_n69, sc_n70, reduceIte, Nat.reduceEqDiff, eq_self, up_up, up_self, up_ne, ne_eq, not_false_eq_true, Int.reduceEq, Int.reduceNeg]; exact k3 _ _ (cx2 _ _ x (by assumption) (by assumption)) (Pz.tr (by assumption) (by assumption))) | (simp only [rI_rI, rJ_rJ, hI_rI, hJ_rI, hI_rJ, hJ_rJ, hI_rR, hR_rI, hR_rJ, hN_rI, hN_rJ, svH_63, svH_66, rfH_63, wvH_63, wvH_62, wvH_67, wvH_68, wvH_69, sc_63, sc_n62, sc_n67, sc_n68, sc_n69, sc_n70, reduceIte, Nat.reduceEqDiff, eq_self, up_up, up_self, up_ne, ne_eq, not_false_eq_true, Int.reduceEq, Int.reduceNeg]; exact ct_e hq k4 a2 z x (by assumption) (by assumption) (by assumption) (by assumption)) | exact h3 | exact h3 (by omega) | exact h4 | exact h4 (by omega) | omega | exact True.intro | (simp only [rI_rI, rJ_rJ, hI_rI, hJ_rI, hI_rJ, hJ_rJ, hI_rR, hR_rI, hR_rJ, hN_rI, hN_rJ, svH_63, svH_66, rfH_63, wvH_63, wvH_62, wvH_67, wvH_68, wvH_69, sc_63, sc_n62, sc_n67, sc_n68, sc_n69, sc_n70, reduceIte, Nat.reduceEqDiff, eq_self, up_up, up_self, up_ne, ne_eq, not_false_eq_true, Int.reduceEq, Int.reduceNeg]; omega))
        · repeat' (first | apply And.intro | (with_reducible assumption) | (intro h9; first | (exfalso; omega) | (simp only [rI_rI, rJ_rJ, hI_rI, hJ_rI, hI_rJ, hJ_rJ, hI_rR, hR_rI, hR_rJ, hN_rI, hN_rJ, svH_63, svH_66, rfH_63, wvH_63, wvH_62, wvH_67, wvH_68, wvH_69, sc_63, sc_n62, sc_n67, sc_n68, sc_n69, sc_n70, reduceIte, Nat.reduceEqDiff, eq_self, up_up, up_self, up_ne, ne_eq, not_false_eq_true, Int.reduceEq, Int.reduceNeg] at h9; first | (exfalso; omega) | skip) | skip) | refine Exists.intro r ?_ | exact T1 | exact absurd (by assumption) (y2 (by assumption)) | exact absurd (by assumption) z | exact absurd (by assumption) x | exact k3 _ _ (cx1 x) (by assumption) | exact h3 | exact h3 (by omega) | exact h4 | exact h4 (by omega) | omega | exact True.intro | (simp only [rI_rI, rJ_rJ, hI_rI, hJ_rI, hI_rJ, hJ_rJ, hI_rR, hR_rI, hR_rJ, hN_rI, hN_rJ, svH_63, svH_66, rfH_63, wvH_63, wvH_62, wvH_67, wvH_68, wvH_69, sc_63, sc_n62, sc_n67, sc_n68, sc_n69, sc_n70, reduceIte, Nat.reduceEqDiff, eq_self, up_up, up_self, up_ne, ne_eq, not_false_eq_true, Int.reduceEq, Int.reduceNeg]; omega))
theorem m_X10_takesConstant : MM 272 s_X10_takesConstant := mm_of (own := 9) (by rfl) k_X10_takesConstant (cl := [(266, s_X10_letter), (267, s_X10_isDigit), (271, s_X10_takes), (270, s_X10_takesDigit), (269, s_X10_gives)]) ⟨m_X10_letter, m_X10_isDigit, m_X10_takes, m_X10_takesDigit, m_X10_gives, trivial⟩ o_X10_takesConstant

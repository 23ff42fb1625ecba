/-! ===== the class: the greatest goal ===== -/
def gWd (w : Int → Int) (t a : Int) : Int := if t = 0 then nd w a 1 else if t = 2 then 8 else 1
def goalV (w : Int → Int) (t a b f N : Int) : Int := if t = 0 then bXor (vl w (asg w N) a) f else if t = 2 then gnA w N else if vl w (asg w N) a = vl w (asg w N) b then 0 else 1
def goalL (w : Int → Int) (P : Int → Int64) (t a b f : Int) (l : Nat) : Int := if t = 0 then bXor (lv w P l a) f else if t = 2 then gnL w P l (w 332).toNat else if lv w P l a = lv w P l b then 0 else 1
def ClP (w : Int → Int) (t a b f : Int) : Prop := Box ((t = 0 ∧ 0 ≤ a ∧ a < w 0 ∧ b = -1 ∧ 0 ≤ f ∧ f < p2 (nd w a 1)) ∨ (t = 1 ∧ 0 ≤ a ∧ a < w 0 ∧ 0 ≤ b ∧ b < w 0 ∧ nd w a 1 = nd w b 1) ∨ (t = 2 ∧ a = -1 ∧ b = -1))
theorem gWd_rng {w : Int → Int} (hW : WF w) {t a b f : Int} (h : ClP w t a b f) : 1 ≤ gWd w t a ∧ gWd w t a ≤ 8 := by
  unfold gWd
  rcases h.o with ⟨rfl, a0, a1, -⟩ | ⟨rfl, -⟩ | ⟨rfl, -⟩
  · rw [if_pos rfl]; exact hW.wd a0 a1
  · rw [if_neg (by decide), if_neg (by decide)]; decide
  · rw [if_neg (by decide), if_pos rfl]; decide
theorem goalV_rng {w : Int → Int} (hW : WF w) {t a b f : Int} (h : ClP w t a b f) (N : Int) : 0 ≤ goalV w t a b f N ∧ goalV w t a b f N < p2 (gWd w t a) := by
  unfold goalV gWd
  rcases h.o with ⟨rfl, a0, a1, -, f0, f1⟩ | ⟨rfl, -⟩ | ⟨rfl, -⟩
  · rw [if_pos rfl, if_pos rfl]
    have v := hW.vr (asg_ev w N) a0 a1
    exact xor_rng v.1 v.2 f0 f1 (hW.wd a0 a1).2
  · show 0 ≤ (if vl w (asg w N) a = vl w (asg w N) b then (0 : Int) else 1) ∧ (if vl w (asg w N) a = vl w (asg w N) b then (0 : Int) else 1) < p2 1
    rw [p2_1]
    split <;> omega
  · rw [if_neg (by decide), if_pos rfl, if_neg (by decide), if_pos rfl, p2_8]
    have n := hW.wn
    have r := gnW_rng hW N (w 332).toNat (by omega)
    unfold gnA
    omega
/-- the nodes that a goal needs -/
def Wnt (w : Int → Int) (s : Int64) (t a b : Int) : Prop := Box ((t = 2 → HasW w s (w 332)) ∧ (t ≠ 2 → lb s a.toNat = true ∧ (t = 1 → lb s b.toNat = true)))
theorem gn_lv {w : Int → Int} {Q : Int → Int64} {i : Int} {s : Int64} {l : Nat} (hW : WF w) (hl : l < 64) (hv : VlL w Q i s (w 0)) (hs : HasW w s (w 332)) : ∀ k : Nat, (k : Int) ≤ w 332 → gnL w Q l k = gnW w (lane i l) k := by
  intro k
  induction k with
  | zero => intro _; rfl
  | succ k ih =>
    intro hk
    have c := hW.wish (k := k) (by omega) (by omega)
    show gnL w Q l k + lv w Q l (w (333 + (k : Int))) * w (341 + (k : Int)) = gnW w (lane i l) k + vl w (asg w (lane i l)) (w (333 + (k : Int))) * w (341 + (k : Int))
    rw [ih (by omega), hv.o _ c.1 c.2.1 (hs.o k (by omega) (by omega)) l hl]
    rfl
theorem gl_gv {w : Int → Int} {Q : Int → Int64} {i t a b f : Int} {s : Int64} {l : Nat} (hW : WF w) (hc : ClP w t a b f) (hs : Wnt w s t a b) (hl : l < 64) (hv : VlL w Q i s (w 0)) : goalL w Q t a b f l = goalV w t a b f (lane i l) := by
  obtain ⟨s1, s2⟩ := hs.o
  unfold goalL goalV
  rcases hc.o with ⟨rfl, a0, a1, -⟩ | ⟨rfl, a0, a1, b0, b1, -⟩ | ⟨rfl, -⟩
  · rw [if_pos rfl, if_pos rfl, hv.o a a0 a1 (s2 (by decide)).1 l hl]
    rfl
  · show (if lv w Q l a = lv w Q l b then (0 : Int) else 1) = if vl w (asg w (lane i l)) a = vl w (asg w (lane i l)) b then (0 : Int) else 1
    rw [hv.o a a0 a1 (s2 (by decide)).1 l hl, hv.o b b0 b1 ((s2 (by decide)).2 rfl) l hl]
    rfl
  · rw [if_neg (by decide), if_pos rfl, if_neg (by decide), if_pos rfl]
    have n := hW.wn
    exact gn_lv hW hl hv (s1 rfl) _ (by omega)
def s_X5_goalWidth : CS := (zc 3, ap [(3, 46), (0, 0), (0, 0)] (fun t a h Rt X =>
∃ w, GH h w ∧ WF w ∧ (t = 0 → 0 ≤ a ∧ a < w 0) ∧ Rt (some (.inl (gWd w t a))) h))
set_option maxRecDepth 100000 in
set_option maxHeartbeats 4000000 in
theorem o_X5_goalWidth : Obl true 1 3 (sp [(6, s_X0_width)]) [] code_X5_goalWidth s_X5_goalWidth := by
  refine obl0 (by rfl) ?_
  intro t r_t a r_a h Rt X hh hf hs
  obtain ⟨w, hG, hW, h1, h2⟩ := hs
  have g0 := hG.n
  have n0 := hW.nn
  unfold gWd at h2
  by_cases z : t = 0
  · have q := h1 z
    rw [if_pos z, ← hG.k1 q.1 q.2] at h2
    repeat' (first | apply And.intro | (with_reducible assumption) | (intro h9; first | (exfalso; omega) | (simp only [rI_rI, rJ_rJ, hI_rI, hJ_rI, hI_rJ, hJ_rJ, hI_rR, hR_rI, hR_rJ, hN_rI, hN_rJ, svH_63, svH_66, rfH_63, wvH_63, wvH_62, wvH_67, wvH_68, wvH_69, sc_63, sc_n62, sc_n67, sc_n68, sc_n69, sc_n70, reduceIte, Nat.reduceEqDiff, eq_self, up_up, up_self, up_ne, ne_eq, not_false_eq_true, Int.reduceEq, Int.reduceNeg] at h9; first | (exfalso; omega) | skip) | skip) | exact h1 | exact h1 (by omega) | exact h2 | exact h2 (by omega) | omega | exact True.intro | (simp only [rI_rI, rJ_rJ, hI_rI, hJ_rI, hI_rJ, hJ_rJ, hI_rR, hR_rI, hR_rJ, hN_rI, hN_rJ, svH_63, svH_66, rfH_63, wvH_63, wvH_62, wvH_67, wvH_68, wvH_69, sc_63, sc_n62, sc_n67, sc_n68, sc_n69, sc_n70, reduceIte, Nat.reduceEqDiff, eq_self, up_up, up_self, up_ne, ne_eq, not_false_eq_true, Int.reduceEq, Int.reduceNeg]; omega))
  · rw [if_neg z] at h2
    by_cases y : t = 2
    · rw [if_pos y] at h2
      repeat' (first | apply And.intro | (with_reducible assumption) | (intro h9; first | (exfalso; omega) | (simp only [rI_rI, rJ_rJ, hI_rI, hJ_rI, hI_rJ, hJ_rJ, hI_rR, hR_rI, hR_rJ, hN_rI, hN_rJ, svH_63, svH_66, rfH_63, wvH_63, wvH_62, wvH_67, wvH_68, wvH_69, sc_63, sc_n62, sc_n67, sc_n68, sc_n69, sc_n70, reduceIte, Nat.reduceEqDiff, eq_self, up_up, up_self, up_ne, ne_eq, not_false_eq_true, Int.reduceEq, Int.reduceNeg] at h9; first | (exfalso; omega) | skip) | skip) | exact h1 | exact h1 (by omega) | exact h2 | exact h2 (by omega) | omega | exact True.intro | (simp only [rI_rI, rJ_rJ, hI_rI, hJ_rI, hI_rJ, hJ_rJ, hI_rR, hR_rI, hR_rJ, hN_rI, hN_rJ, svH_63, svH_66, rfH_63, wvH_63, wvH_62, wvH_67, wvH_68, wvH_69, sc_63, sc_n62, sc_n67, sc_n68, sc_n69, sc_n70, reduceIte, Nat.reduceEqDiff, eq_self, up_up, up_self, up_ne, ne_eq, not_false_eq_true, Int.reduceEq, Int.reduceNeg]; omega))
    · rw [if_neg y] at h2
      repeat' (first | apply And.intro | (with_reducible assumption) | (intro h9; first | (exfalso; omega) | (simp only [rI_rI, rJ_rJ, hI_rI, hJ_rI, hI_rJ, hJ_rJ, hI_rR, hR_rI, hR_rJ, hN_rI, hN_rJ, svH_63, svH_66, rfH_63, wvH_63, wvH_62, wvH_67, wvH_68, wvH_69, sc_63, sc_n62, sc_n67, sc_n68, sc_n69, sc_n70, reduceIte, Nat.reduceEqDiff, eq_self, up_up, up_self, up_ne, ne_eq, not_false_eq_true, Int.reduceEq, Int.reduceNeg] at h9; first | (exfalso; omega) | skip) | skip) | exact h1 | exact h1 (by omega) | exact h2 | exact h2 (by omega) | omega | exact True.intro | (simp only [rI_rI, rJ_rJ, hI_rI, hJ_rI, hI_rJ, hJ_rJ, hI_rR, hR_rI, hR_rJ, hN_rI, hN_rJ, svH_63, svH_66, rfH_63, wvH_63, wvH_62, wvH_67, wvH_68, wvH_69, sc_63, sc_n62, sc_n67, sc_n68, sc_n69, sc_n70, reduceIte, Nat.reduceEqDiff, eq_self, up_up, up_self, up_ne, ne_eq, not_false_eq_true, Int.reduceEq, Int.reduceNeg]; omega))
theorem m_X5_goalWidth : MM 106 s_X5_goalWidth := mm_of (own := 4) (by rfl) k_X5_goalWidth (cl := [(6, s_X0_width)]) ⟨m_X0_width, trivial⟩ o_X5_goalWidth
def s_X5_setGoal : CS := (zc 4, ap [(3, 46), (0, 0), (0, 0), (0, 0), (0, 0)] (fun t a b f h Rt X =>
∃ w, GH h w ∧ WF w ∧ St0 (hI h) 5 w ∧ ClP w t a b f ∧ ∀ Q, Wr (hJ h 44) Q 320 8 → Ln Q 320 (gWd w t a) (goalL w (hJ h 44) t a b f) → Rt none (rJ h 44 Q)))
set_option maxRecDepth 100000 in
set_option maxHeartbeats 4000000 in
theorem o_X5_setGoal : Obl true 0 5 (sp [(49, s_X3_setGoalToNode), (50, s_X3_setGoalToDifference), (51, s_X3_setGoalToGain)]) [] code_X5_setGoal s_X5_setGoal := by
  refine obl0 (by rfl) ?_
  intro t r_t a r_a b r_b f r_f h Rt X hh hf hs
  obtain ⟨w, hG, hW, hS, hC, h2⟩ := hs
  rcases hC.o with ⟨rfl, a0, a1, -, f0, f1⟩ | ⟨rfl, a0, a1, b0, b1, e⟩ | ⟨rfl, -⟩
  · repeat' (first | apply And.intro | (with_reducible assumption) | (intro h9; first | (exfalso; omega) | (simp only [rI_rI, rJ_rJ, hI_rI, hJ_rI, hI_rJ, hJ_rJ, hI_rR, hR_rI, hR_rJ, hN_rI, hN_rJ, svH_63, svH_66, rfH_63, wvH_63, wvH_62, wvH_67, wvH_68, wvH_69, sc_63, sc_n62, sc_n67, sc_n68, sc_n69, sc_n70, reduceIte, Nat.reduceEqDiff, eq_self, up_up, up_self, up_ne, ne_eq, not_false_eq_true, Int.reduceEq, Int.reduceNeg] at h9; first | (exfalso; omega) | skip) | skip) | refine Exists.intro w ?_ | exact hG | exact hW | exact h2 _ (by assumption) (by assumption) | exact h2 | exact h2 (by omega) | omega | exact True.intro | (simp only [rI_rI, rJ_rJ, hI_rI, hJ_rI, hI_rJ, hJ_rJ, hI_rR, hR_rI, hR_rJ, hN_rI, hN_rJ, svH_63, svH_66, rfH_63, wvH_63, wvH_62, wvH_67, wvH_68, wvH_69, sc_63, sc_n62, sc_n67, sc_n68, sc_n69, sc_n70, reduceIte, Nat.reduceEqDiff, eq_self, up_up, up_self, up_ne, ne_eq, not_false_eq_true, Int.reduceEq, Int.reduceNeg]; omega))
  · repeat' (first | apply And.intro | (with_reducible assumption) | (intro h9; first | (exfalso; omega) | (simp only [rI_rI, rJ_rJ, hI_rI, hJ_rI, hI_rJ, hJ_rJ, hI_rR, hR_rI, hR_rJ, hN_rI, hN_rJ, svH_63, svH_66, rfH_63, wvH_63, wvH_62, wvH_67, wvH_68, wvH_69, sc_63, sc_n62, sc_n67, sc_n68, sc_n69, sc_n70, reduceIte, Nat.reduceEqDiff, eq_self, up_up, up_self, up_ne, ne_eq, not_false_eq_true, Int.reduceEq, Int.reduceNeg] at h9; first | (exfalso; omega) | skip) | skip) | refine Exists.intro w ?_ | exact hG | exact hW | exact h2 _ (by assumption) (by assumption) | exact h2 | exact h2 (by omega) | omega | exact True.intro | (simp only [rI_rI, rJ_rJ, hI_rI, hJ_rI, hI_rJ, hJ_rJ, hI_rR, hR_rI, hR_rJ, hN_rI, hN_rJ, svH_63, svH_66, rfH_63, wvH_63, wvH_62, wvH_67, wvH_68, wvH_69, sc_63, sc_n62, sc_n67, sc_n68, sc_n69, sc_n70, reduceIte, Nat.reduceEqDiff, eq_self, up_up, up_self, up_ne, ne_eq, not_false_eq_true, Int.reduceEq, Int.reduceNeg]; omega))
  · repeat' (first | apply And.intro | (with_reducible assumption) | (intro h9; first | (exfalso; omega) | (simp only [rI_rI, rJ_rJ, hI_rI, hJ_rI, hI_rJ, hJ_rJ, hI_rR, hR_rI, hR_rJ, hN_rI, hN_rJ, svH_63, svH_66, rfH_63, wvH_63, wvH_62, wvH_67, wvH_68, wvH_69, sc_63, sc_n62, sc_n67, sc_n68, sc_n69, sc_n70, reduceIte, Nat.reduceEqDiff, eq_self, up_up, up_self, up_ne, ne_eq, not_false_eq_true, Int.reduceEq, Int.reduceNeg] at h9; first | (exfalso; omega) | skip) | skip) | refine Exists.intro w ?_ | exact hG | exact hW | exact hS | exact h2 _ (by assumption) (by assumption) | exact h2 | exact h2 (by omega) | omega | exact True.intro | (simp only [rI_rI, rJ_rJ, hI_rI, hJ_rI, hI_rJ, hJ_rJ, hI_rR, hR_rI, hR_rJ, hN_rI, hN_rJ, svH_63, svH_66, rfH_63, wvH_63, wvH_62, wvH_67, wvH_68, wvH_69, sc_63, sc_n62, sc_n67, sc_n68, sc_n69, sc_n70, reduceIte, Nat.reduceEqDiff, eq_self, up_up, up_self, up_ne, ne_eq, not_false_eq_true, Int.reduceEq, Int.reduceNeg]; omega))
theorem m_X5_setGoal : MM 108 s_X5_setGoal := mm_of (own := 4) (by rfl) k_X5_setGoal (cl := [(49, s_X3_setGoalToNode), (50, s_X3_setGoalToDifference), (51, s_X3_setGoalToGain)]) ⟨m_X3_setGoalToNode, m_X3_setGoalToDifference, m_X3_setGoalToGain, trivial⟩ o_X5_setGoal
/-- the lanes that are left: those whose goal's upper bits are the greatest -/
def CiI (P : Int → Int64) (s c : Int64) (u k m : Int) : Prop := Box (c ≠ 0 ∧ ∀ l, l < 64 → (lb c l = true ↔ lb s l = true ∧ lw P l (320 + m) (k - m).toNat = u) ∧ (lb s l = true → lw P l (320 + m) (k - m).toNat ≤ u))
theorem CiI.z {P : Int → Int64} {s : Int64} {k : Int} (h : s ≠ 0) : CiI P s s 0 k k := Box.i ⟨h, fun l hl => by
  rw [Int.sub_self]
  exact ⟨⟨fun q => ⟨q, rfl⟩, fun q => q.1⟩, fun _ => Int.le_refl _⟩⟩
theorem lw_top (P : Int → Int64) (l : Nat) {k j : Int} (h : j < k) : lw P l (320 + j) (k - j).toNat = b2 (lb (P (320 + j)) l) + 2 * lw P l (320 + (j + 1)) (k - (j + 1)).toNat := by
  rw [lw_cut P l (320 + j) (m := 1) (k := k - j) (by decide) (by omega), lw_1, p2_1, Int.add_assoc, show k - j - 1 = k - (j + 1) by omega]
theorem CiI.hit {P : Int → Int64} {s c : Int64} {u k j : Int} (h : CiI P s c u k (j + 1)) (hj : j < k) (e : cmpL (c &&& P (320 + j)) 0 ≠ 0) : CiI P s (c &&& P (320 + j)) (2 * u + 1) k j := Box.i ⟨fun q => e (cmpL_0.mpr q), fun l hl => by
  have q := h.o.2 l hl
  rw [lb_and, Bool.and_eq_true, q.1, lw_top P l hj]
  have r := b2_01 (lb (P (320 + j)) l)
  have r2 : lb (P (320 + j)) l = true ↔ b2 (lb (P (320 + j)) l) = 1 := by cases lb (P (320 + j)) l <;> simp [b2]
  refine ⟨⟨fun ⟨⟨a, b⟩, d⟩ => ⟨a, ?_⟩, fun ⟨a, b⟩ => ⟨⟨a, ?_⟩, r2.mpr ?_⟩⟩, fun a => ?_⟩
  · have := r2.mp d
    omega
  · omega
  · omega
  · have := q.2 a
    omega⟩
theorem CiI.miss {P : Int → Int64} {s c : Int64} {u k j : Int} (h : CiI P s c u k (j + 1)) (hj : j < k) (e : cmpL (c &&& P (320 + j)) 0 = 0) : CiI P s c (2 * u) k j := Box.i ⟨h.o.1, fun l hl => by
  have q := h.o.2 l hl
  have z : lb (c &&& P (320 + j)) l = false := by rw [cmpL_0.mp e, lb_0]
  rw [lb_and] at z
  rw [lw_top P l hj]
  have r := b2_01 (lb (P (320 + j)) l)
  have r2 : lb (P (320 + j)) l = true ↔ b2 (lb (P (320 + j)) l) = 1 := by cases lb (P (320 + j)) l <;> simp [b2]
  have r3 : lb c l = true → b2 (lb (P (320 + j)) l) = 0 := fun a => by
    rw [a, Bool.true_and] at z
    rw [z]; rfl
  refine ⟨⟨fun a => ?_, fun ⟨a, b⟩ => q.1.mpr ⟨a, by omega⟩⟩, fun a => ?_⟩
  · have := r3 a
    have := q.1.mp a
    exact ⟨this.1, by omega⟩
  · have u1 := q.2 a
    by_cases y : lw P l (320 + (j + 1)) (k - (j + 1)).toNat = u
    · have := r3 (q.1.mpr ⟨a, y⟩)
      omega
    · omega⟩
theorem CiI.rng {P : Int → Int64} {s c : Int64} {u k m : Int} (h : CiI P s c u k m) (h0 : m ≤ k) : 0 ≤ u ∧ u < p2 (k - m) := by
  obtain ⟨l, l1, l2, -⟩ := low_ex h.o.1
  have q := ((h.o.2 l l1).1.mp l2).2
  have r := lw_rngi P l (320 + m) (show 0 ≤ k - m by omega)
  omega
theorem CiI.fin {P : Int → Int64} {s c : Int64} {u k : Int} {l : Nat} (h : CiI P s c u k 0) (hl : l < 64) (h1 : lb c l = true) (h2 : ∀ j, j < l → lb c j = false) : lb s l = true ∧ lw P l 320 k.toNat = u ∧ (∀ j, j < 64 → lb s j = true → lw P j 320 k.toNat ≤ lw P l 320 k.toNat) ∧ ∀ j, j < l → lb s j = true → lw P j 320 k.toNat < lw P l 320 k.toNat := by
  have q := h.o.2
  rw [Int.add_zero, Int.sub_zero] at q
  have ql := (q l hl).1.mp h1
  refine ⟨ql.1, ql.2, fun j hj a => by rw [ql.2]; exact (q j hj).2 a, fun j hj a => ?_⟩
  have qj := q j (by omega)
  have := qj.2 a
  have n : ¬ lw P j 320 k.toNat = u := fun e => by
    have := qj.1.mpr ⟨a, e⟩
    rw [h2 j hj] at this
    cases this
  rw [ql.2]
  omega
theorem ci_word {u k m j : Int} (h0 : 0 ≤ j) (h8 : k ≤ 8) (hm : m = j + 1) (hk : m ≤ k) (u0 : 0 ≤ u) (u1 : u < p2 (k - m)) : bOr (u * p2 m) (sShl 1 j) = (2 * u + 1) * p2 j ∧ u * p2 m = 2 * u * p2 j := by
  subst hm
  have e := p2_succ h0
  have hp := p2_pos (j + 1)
  have hb : (u + 1) * p2 (j + 1) ≤ p2 (k - (j + 1)) * p2 (j + 1) := Int.mul_le_mul_of_nonneg_right (by omega) (by omega)
  rw [← p2_add (by omega) (by omega), Int.add_mul, Int.one_mul] at hb
  have p8 := p2_le8 (show k - (j + 1) + (j + 1) ≤ 8 by omega)
  have hj := p2_pos j
  refine ⟨?_, ?_⟩
  · rw [fullW h0 (by omega), or_disj u0 (by omega) (by omega) (by omega) (by omega), e, Int.add_mul, Int.one_mul, Int.mul_left_comm, Int.mul_assoc]
  · rw [e, Int.mul_left_comm, Int.mul_assoc]
theorem r46 (h : Hp) (F G : Int → Int) : rI (rI h 46 F) 46 G = rI h 46 G := rI_rI h 46 F G
def s_X5_climbIn : CS := (zc 3, ap [(3, 46), (0, 0), (0, 0)] (fun B k h Rt X =>
(0 ≤ B ∧ B < 1024 ∧ 1 ≤ k ∧ k ≤ 8) ∧ hJ h 47 B ≠ 0 ∧ ∀ l : Nat, l < 64 → lb (hJ h 47 B) l = true → (∀ j, j < 64 → lb (hJ h 47 B) j = true → lw (hJ h 44) j 320 k.toNat ≤ lw (hJ h 44) l 320 k.toNat) → (∀ j, j < l → lb (hJ h 47 B) j = true → lw (hJ h 44) j 320 k.toNat < lw (hJ h 44) l 320 k.toNat) →
(hI h 46 6 < lw (hJ h 44) l 320 k.toNat → Rt none (rI h 46 (up (up (hI h 46) 6 (lw (hJ h 44) l 320 k.toNat)) 7 (lane B l)))) ∧ (lw (hJ h 44) l 320 k.toNat ≤ hI h 46 6 → Rt none h)))
set_option maxRecDepth 100000 in
set_option maxHeartbeats 4000000 in
theorem o_X5_climbIn : Obl true 0 9 (sp [(48, s_X3_goalPlane), (101, s_X5_firstIn)]) [] code_X5_climbIn s_X5_climbIn := by
  refine oblL (by rfl) [(15, [0, 1, 3, 5, 6])] ?_
  intro B r_B k r_k h Rt X hh hf hs
  obtain ⟨⟨a1, a2, a3, a4⟩, a5, h2⟩ := hs
  refine ⟨fun m pc vs g => ∃ (j u : Int) (c : Int64), g = h ∧ vs = [.inr (.inr (some 46)), .inl B, .inr (.inl c), .inl (u * p2 (j + 1)), .inl j] ∧ -1 ≤ j ∧ j < k ∧ CiI (hJ h 44) (hJ h 47 B) c u k (j + 1) ∧ m = (j + 1).toNat, ?_, ?_⟩
  · have z := CiI.z (P := hJ h 44) (k := k) a5
    repeat' (first | apply And.intro | (with_reducible assumption) | (intro h9; first | (exfalso; omega) | (simp only [rI_rI, rJ_rJ, hI_rI, hJ_rI, hI_rJ, hJ_rJ, hI_rR, hR_rI, hR_rJ, hN_rI, hN_rJ, svH_63, svH_66, rfH_63, wvH_63, wvH_62, wvH_67, wvH_68, wvH_69, sc_63, sc_n62, sc_n67, sc_n68, sc_n69, sc_n70, reduceIte, Nat.reduceEqDiff, eq_self, up_up, up_self, up_ne, ne_eq, not_false_eq_true, Int.reduceEq, Int.reduceNeg] at h9; first | (exfalso; omega) | skip) | skip) | exact Exists.intro _ ⟨k - 1, 0, _, rfl, (by rw [Int.zero_mul] <;> rfl), by omega, by omega, (by rw [show k - 1 + 1 = k by omega]; exact z), rfl⟩ | exact h2 | exact h2 (by omega) | omega | exact True.intro | (simp only [rI_rI, rJ_rJ, hI_rI, hJ_rI, hI_rJ, hJ_rJ, hI_rR, hR_rI, hR_rJ, hN_rI, hN_rJ, svH_63, svH_66, rfH_63, wvH_63, wvH_62, wvH_67, wvH_68, wvH_69, sc_63, sc_n62, sc_n67, sc_n68, sc_n69, sc_n70, reduceIte, Nat.reduceEqDiff, eq_self, up_up, up_self, up_ne, ne_eq, not_false_eq_true, Int.reduceEq, Int.reduceNeg]; omega))
  · rintro m pc live vs g hl ⟨j, u, c, rfl, rfl, j1, j2, j3, rfl⟩ hv hh1 hf1
    obtain ⟨rfl, rfl⟩ := look1 hl
    have r := j3.rng (by omega)
    by_cases y : 0 ≤ j
    · have cw := ci_word (u := u) (k := k) (m := j + 1) y a4 rfl (by omega) r.1 r.2
      repeat' (first | apply And.intro | (with_reducible assumption) | (intro h9; first | (exfalso; omega) | (simp only [rI_rI, rJ_rJ, hI_rI, hJ_rI, hI_rJ, hJ_rJ, hI_rR, hR_rI, hR_rJ, hN_rI, hN_rJ, svH_63, svH_66, rfH_63, wvH_63, wvH_62, wvH_67, wvH_68, wvH_69, sc_63, sc_n62, sc_n67, sc_n68, sc_n69, sc_n70, reduceIte, Nat.reduceEqDiff, eq_self, up_up, up_self, up_ne, ne_eq, not_false_eq_true, Int.reduceEq, Int.reduceNeg] at h9; first | (exfalso; omega) | skip) | skip) | exact Exists.intro _ ⟨by omega, j + -1, _, _, rfl, (by rw [show j + -1 + 1 = j by omega, ← cw.1] <;> rfl), by omega, by omega, (by rw [show j + -1 + 1 = j by omega]; exact j3.hit j2 (by assumption)), rfl⟩ | exact Exists.intro _ ⟨by omega, j + -1, _, _, rfl, (by rw [show j + -1 + 1 = j by omega, ← cw.2] <;> rfl), by omega, by omega, (by rw [show j + -1 + 1 = j by omega]; exact j3.miss j2 (by assumption)), rfl⟩ | exact h2 | exact h2 (by omega) | omega | exact True.intro | (simp only [rI_rI, rJ_rJ, hI_rI, hJ_rI, hI_rJ, hJ_rJ, hI_rR, hR_rI, hR_rJ, hN_rI, hN_rJ, svH_63, svH_66, rfH_63, wvH_63, wvH_62, wvH_67, wvH_68, wvH_69, sc_63, sc_n62, sc_n67, sc_n68, sc_n69, sc_n70, reduceIte, Nat.reduceEqDiff, eq_self, up_up, up_self, up_ne, ne_eq, not_false_eq_true, Int.reduceEq, Int.reduceNeg]; omega))
    · obtain rfl : j = -1 := by omega
      have e0 : u * p2 (-1 + 1) = u := by rw [show (-1 : Int) + 1 = 0 from rfl, p2_0, Int.mul_one]
      rw [e0]
      have k3 : u ≤ hI g 46 6 → Rt none g := fun q => by
        obtain ⟨l, l1, l2, l3⟩ := low_ex j3.o.1
        obtain ⟨f1, f2, f3, f4⟩ := CiI.fin j3 l1 l2 l3
        exact (h2 l l1 f1 f3 f4).2 (by omega)
      have k4 : ∀ l : Nat, l < 64 → lb c l = true → (∀ j, j < l → lb c j = false) → hI g 46 6 < u → Rt none (rI g 46 (up (up (hI g 46) 6 u) 7 (lane B l))) := fun l l1 l2 l3 q => by
        obtain ⟨f1, f2, f3, f4⟩ := CiI.fin j3 l1 l2 l3
        have := (h2 l l1 f1 f3 f4).1 (by omega)
        rw [f2] at this
        exact this
      have c0 := j3.o.1
      repeat' (first | apply And.intro | (with_reducible assumption) | (intro h9; first | (exfalso; omega) | (simp only [rI_rI, rJ_rJ, hI_rI, hJ_rI, hI_rJ, hJ_rJ, hI_rR, hR_rI, hR_rJ, hN_rI, hN_rJ, svH_63, svH_66, rfH_63, wvH_63, wvH_62, wvH_67, wvH_68, wvH_69, sc_63, sc_n62, sc_n67, sc_n68, sc_n69, sc_n70, reduceIte, Nat.reduceEqDiff, eq_self, up_up, up_self, up_ne, ne_eq, not_false_eq_true, Int.reduceEq, Int.reduceNeg] at h9; first | (exfalso; omega) | skip) | skip) | exact c0 | exact k3 (by assumption) | exact rt_eq (Rt := Rt) (k4 _ (by assumption) (by assumption) (by assumption) (by assumption)) rfl (r46 _ _ _).symm | exact h2 | exact h2 (by omega) | omega | exact True.intro | (simp only [rI_rI, rJ_rJ, hI_rI, hJ_rI, hI_rJ, hJ_rJ, hI_rR, hR_rI, hR_rJ, hN_rI, hN_rJ, svH_63, svH_66, rfH_63, wvH_63, wvH_62, wvH_67, wvH_68, wvH_69, sc_63, sc_n62, sc_n67, sc_n68, sc_n69, sc_n70, reduceIte, Nat.reduceEqDiff, eq_self, up_up, up_self, up_ne, ne_eq, not_false_eq_true, Int.reduceEq, Int.reduceNeg]; omega))
theorem m_X5_climbIn : MM 109 s_X5_climbIn := mm_of (own := 4) (by rfl) k_X5_climbIn (cl := [(48, s_X3_goalPlane), (101, s_X5_firstIn)]) ⟨m_X3_goalPlane, m_X5_firstIn, trivial⟩ o_X5_climbIn

/-! ===== the class: variables made, nodes cut off ===== -/
theorem var_nf {w : Int → Int} (h : WF w) (wd : Int) : found w 1 wd (-1) (-1) (-1) (w 281) (-1) = -1 := by
  have n0 := h.nn
  refine fst_none.mpr fun j hj => decide_eq_false fun q => ?_
  obtain ⟨-, -, -, -, p3, -⟩ := (h.node (n := j) (by omega) (by omega)).o
  have := p3 q.1
  omega
/-- the graph's rows anew -/
def g4 (h : Hp) (a b c d : Int → Int) : Hp := (h.1, (fun q => if q = 1 then a else if q = 2 then b else if q = 3 then c else if q = 4 then d else h.2.1 q), h.2.2)
theorem g4_id (h : Hp) : g4 h (hI h 1) (hI h 2) (hI h 3) (hI h 4) = h := by
  unfold g4 hI
  have : (fun q => if q = 1 then h.2.1 1 else if q = 2 then h.2.1 2 else if q = 3 then h.2.1 3 else if q = 4 then h.2.1 4 else h.2.1 q) = h.2.1 := by
    funext q
    by_cases e1 : q = 1
    · simp [e1]
    by_cases e2 : q = 2
    · simp [e2]
    by_cases e3 : q = 3
    · simp [e3]
    by_cases e4 : q = 4
    · simp [e4]
    simp [e1, e2, e3, e4]
  rw [this]
theorem g4_1 (h : Hp) (a b c d x : Int → Int) : rI (g4 h a b c d) 1 x = g4 h x b c d := by
  unfold g4 rI
  congr 2
  funext q
  by_cases e1 : q = 1 <;> simp [e1]
theorem g4_2 (h : Hp) (a b c d x : Int → Int) : rI (g4 h a b c d) 2 x = g4 h a x c d := by
  unfold g4 rI
  congr 2
  funext q
  by_cases e1 : q = 2 <;> simp [e1]
theorem g4_3 (h : Hp) (a b c d x : Int → Int) : rI (g4 h a b c d) 3 x = g4 h a b x d := by
  unfold g4 rI
  congr 2
  funext q
  by_cases e1 : q = 3 <;> simp [e1]
theorem g4_4 (h : Hp) (a b c d x : Int → Int) : rI (g4 h a b c d) 4 x = g4 h a b c x := by
  unfold g4 rI
  congr 2
  funext q
  by_cases e1 : q = 4 <;> simp [e1]
theorem g4_g4 (h : Hp) (a b c d a' b' c' d' : Int → Int) : g4 (g4 h a b c d) a' b' c' d' = g4 h a' b' c' d' := by
  unfold g4
  congr 2
  funext q
  by_cases e1 : q = 1
  · simp [e1]
  by_cases e2 : q = 2
  · simp [e2]
  by_cases e3 : q = 3
  · simp [e3]
  by_cases e4 : q = 4
  · simp [e4]
  simp [e1, e2, e3, e4]
theorem g4_of2 (h : Hp) (b : Int → Int) : rI h 2 b = g4 h (hI h 1) b (hI h 3) (hI h 4) := by
  rw [← g4_2 h (hI h 1) (hI h 2) (hI h 3) (hI h 4), g4_id]
theorem g4_of1 (h : Hp) (b : Int → Int) : rI h 1 b = g4 h b (hI h 2) (hI h 3) (hI h 4) := by
  rw [← g4_1 h (hI h 1) (hI h 2) (hI h 3) (hI h 4), g4_id]
theorem g4_of21 (h : Hp) (b a : Int → Int) : rI (rI h 2 b) 1 a = g4 h a b (hI h 3) (hI h 4) := by
  rw [g4_of2, g4_1]
theorem g4_5 (h : Hp) (b a c d e : Int → Int) : rI (rI (rI (rI (rI h 2 b) 1 a) 3 c) 4 d) 1 e = g4 h e b c d := by
  rw [g4_of21, g4_3, g4_4, g4_1]
/-- the rows behind a variable made -/
theorem GR.var {f1 f2 f3 f4 w : Int → Int} {wd : Int} (G : GR f1 f2 f3 f4 w) (hW : WF w) (hc : w 0 < 40) (hv : w 281 < 4) (d : Drf f2 (w 0) 1 wd (-1) (-1) (-1) (w 281) (-1)) : GR (up (up f1 3 (w 0 + 1)) 4 (w 281 + 1)) f2 (up f3 (w 281) (w 0)) (up f4 (w 281) (sumW w (w 281).toNat + wd)) (varN w wd) := by
  have n0 := hW.nn
  have v0 := hW.vn
  obtain ⟨h1, h2, h3, h4⟩ := (G.new hW hc d).o
  have eN : ∀ j, j < 281 → varN w wd j = newN w 1 wd (-1) (-1) (-1) (w 281) (-1) j := by
    intro j hj
    unfold varN
    rw [up_ne (by omega), up_ne (by omega)]
    unfold newN
    rw [show up w 281 (w 281 + 1) 0 = w 0 from up_ne (by omega), show up w 281 (w 281 + 1) j = w j from up_ne (by omega)]
  have eV : ∀ u, 0 ≤ u → u < w 281 → varN w wd (282 + u) = w (282 + u) := by
    intro u u0 u1
    unfold varN
    rw [up_ne (by omega), up_ne (by omega), newN_lo _ _ _ _ _ _ _ _ (by omega) (by rw [show up w 281 (w 281 + 1) 0 = w 0 from up_ne (by omega)]; omega), up_ne (by omega)]
  have e281 : varN w wd 281 = w 281 + 1 := by
    unfold varN
    rw [up_ne (by omega), up_ne (by omega), newN_lo _ _ _ _ _ _ _ _ (by omega) (by rw [show up w 281 (w 281 + 1) 0 = w 0 from up_ne (by omega)]; omega), up_self]
  have eX : varN w wd (282 + w 281) = w 0 := by
    unfold varN
    rw [up_ne (by omega), up_self]
  have e0 : varN w wd 0 = w 0 + 1 := by rw [eN 0 (by omega), newN_0]
  have eD : ∀ n j, 0 ≤ n → n < 40 → 0 ≤ j → j < 7 → nd (varN w wd) n j = nd (newN w 1 wd (-1) (-1) (-1) (w 281) (-1)) n j := fun n j a b c d => eN _ (by omega)
  have m := newN_n w 1 wd (-1) (-1) (-1) (w 281) (-1) n0.1
  have eS : ∀ k : Nat, (k : Int) ≤ w 281 → sumW (varN w wd) k = sumW w k := fun k hk => by
    refine sumW_cg k fun u u0 u1 => ⟨eV u u0 (by omega), ?_⟩
    have r := hW.var u0 (show u < w 281 by omega)
    rw [eD _ _ r.1 (by omega) (by omega) (by omega)]
    exact newN_nd _ _ _ _ _ _ _ _ r.1 r.2.1 (by omega) (by omega)
  refine Box.i ⟨?_, by rw [up_self, e281], fun n z0 z1 => ?_, fun v z0 z1 => ?_⟩
  · rw [up_ne (by decide), up_self, e0]
  · rw [e0] at z1
    have := h3 n z0 (by rw [newN_0]; exact z1)
    rw [eD n 0 z0 (by omega) (by omega) (by omega), eD n 1 z0 (by omega) (by omega) (by omega), eD n 2 z0 (by omega) (by omega) (by omega), eD n 3 z0 (by omega) (by omega) (by omega), eD n 4 z0 (by omega) (by omega) (by omega), eD n 5 z0 (by omega) (by omega) (by omega), eD n 6 z0 (by omega) (by omega) (by omega)]
    exact this
  · rw [e281] at z1
    by_cases e : v = w 281
    · subst e
      rw [up_self, up_self, eX]
      refine ⟨rfl, ?_⟩
      rw [show (w 281 + 1).toNat = (w 281).toNat + 1 by omega, sumW_succ, eS _ (by omega), show (((w 281).toNat : Nat) : Int) = w 281 by omega, eX, eD _ _ n0.1 hc (by omega) (by omega), m.2.1]
    · rw [up_ne e, up_ne e, eV v z0 (by omega), eS _ (by omega)]
      have := G.o.2.2.2 v z0 (by omega)
      exact this
def s_X0_makeVariable : CS := (zc 3, ap [(3, 1), (0, 0)] (fun wd h Rt X =>
∃ w, GH h w ∧ WF w ∧ (1 ≤ wd ∧ wd ≤ 8) ∧ (w 281 = 4 ∨ 16 < sumW w (w 281).toNat + wd → Rt (some (.inl (-1))) h) ∧ (¬ (w 281 = 4 ∨ 16 < sumW w (w 281).toNat + wd) → w 0 = 40 → ∀ f, GR (hI h 1) f (hI h 3) (hI h 4) w → Rt (some (.inl (-1))) (g4 h (hI h 1) f (hI h 3) (hI h 4))) ∧
(¬ (w 281 = 4 ∨ 16 < sumW w (w 281).toNat + wd) → w 0 < 40 → ∀ f1 f2 f3 f4, GR f1 f2 f3 f4 (varN w wd) → Rt (some (.inl (w 0))) (g4 h f1 f2 f3 f4))))
set_option maxRecDepth 100000 in
set_option maxHeartbeats 4000000 in
theorem o_X0_makeVariable : Obl true 1 4 (sp [(27, s_X0_variableBits), (20, s_X0_draft), (21, s_X0_put), (22, s_X0_keepDraft)]) [] code_X0_makeVariable s_X0_makeVariable := by
  refine obl0 (by rfl) ?_
  intro wd r_wd h Rt X hh hf hs
  obtain ⟨w, hG, hW, ⟨a1, a2⟩, h2, h3, h4⟩ := hs
  have c1 := hG.n
  have c2 := hG.v
  have c3 := hW.nn
  have c4 := hW.vn
  have c8 := hW.s16
  have c9 := sumW_le hW.vz (j := 0) (w 281).toNat (by omega) (by omega)
  have e0 : sumW w 0 = 0 := rfl
  have nf := var_nf hW wd
  by_cases z : w 281 = 4 ∨ 16 < sumW w (w 281).toNat + wd
  · have k2 := h2 z
    repeat' (first | apply And.intro | (with_reducible assumption) | (intro h9; first | (exfalso; omega) | (simp only [rI_rI, rJ_rJ, hI_rI, hJ_rI, hI_rJ, hJ_rJ, hR_rI, hR_rJ, hN_rI, hN_rJ, svH_63, svH_66, rfH_63, wvH_63, wvH_62, wvH_67, wvH_68, wvH_69, sc_63, sc_n62, sc_n67, sc_n68, sc_n69, sc_n70, reduceIte, Nat.reduceEqDiff, eq_self, up_up, up_self, up_ne, ne_eq, not_false_eq_true, Int.reduceEq, Int.reduceNeg] at h9; first | (exfalso; omega) | skip) | skip) | refine Exists.intro w ?_ | exact hG | exact hW | exact h2 | exact h2 (by omega) | exact h3 | exact h3 (by omega) | exact h4 | exact h4 (by omega) | omega | exact True.intro | (simp only [rI_rI, rJ_rJ, hI_rI, hJ_rI, hI_rJ, hJ_rJ, hR_rI, hR_rJ, hN_rI, hN_rJ, svH_63, svH_66, rfH_63, wvH_63, wvH_62, wvH_67, wvH_68, wvH_69, sc_63, sc_n62, sc_n67, sc_n68, sc_n69, sc_n70, reduceIte, Nat.reduceEqDiff, eq_self, up_up, up_self, up_ne, ne_eq, not_false_eq_true, Int.reduceEq, Int.reduceNeg]; omega))
  · have k3 : dfnd h ≠ dfnd h → True := fun _ => trivial
    have lf : ∀ f v, v = w 281 → Off8 (hI h 2) f (hI h 1 3) → Row8 f (hI h 1 3) 1 wd (-1) (-1) (-1) (-1) (-1) (-1) → dfnd (rI h 2 (up f (hI h 1 3 * 8 + 5) v)) = -1 ∧ GR (hI h 1) (up f (hI h 1 3 * 8 + 5) v) (hI h 3) (hI h 4) w ∧ (w 0 < 40 → GR (up (up (hI h 1) 3 (w 0 + 1)) 4 (w 281 + 1)) (up f (hI h 1 3 * 8 + 5) v) (up (hI h 3) (w 281) (w 0)) (up (hI h 4) (w 281) (sumW w (w 281).toNat + wd)) (varN w wd)) := by
      intro f v hv o r
      subst hv
      have o2 := off_up (x := w 281) (show (0 : Int) ≤ 5 by decide) (by decide) o
      have d2 := drf_5 (v := w 281) r (by decide)
      rw [c1] at o2 d2 ⊢
      have G2 : GR (hI h 1) (up f (w 0 * 8 + 5) (w 281)) (hI h 3) (hI h 4) w := GR.off hG o2
      refine ⟨?_, G2, fun q => G2.var hW q (by omega) d2⟩
      have := G2.fnd hW d2
      rw [nf] at this
      rw [← this]
      show fst (rowE _ (hI h 1 3)) (hI h 1 3).toNat = _
      rw [c1]
      rfl
    repeat' (first | apply And.intro | (with_reducible assumption) | (intro h9; first | (exfalso; omega) | (simp only [rI_rI, rJ_rJ, hI_rI, hJ_rI, hI_rJ, hJ_rJ, hR_rI, hR_rJ, hN_rI, hN_rJ, svH_63, svH_66, rfH_63, wvH_63, wvH_62, wvH_67, wvH_68, wvH_69, sc_63, sc_n62, sc_n67, sc_n68, sc_n69, sc_n70, reduceIte, Nat.reduceEqDiff, eq_self, up_up, up_self, up_ne, ne_eq, not_false_eq_true, Int.reduceEq, Int.reduceNeg] at h9; first | (exfalso; omega) | skip) | skip) | refine Exists.intro w ?_ | exact hG | exact hW | exact absurd (lf _ _ c2 (by assumption) (by assumption)).1 (by assumption) | (refine rt_eq (Rt := Rt) (h3 z (by omega) _ (lf _ _ c2 (by assumption) (by assumption)).2.1) rfl ?_; rw [rI_rI, g4_of2] <;> rfl) | (refine rt_v (Rt := Rt) (h4 z (by omega) _ _ _ _ ((lf _ _ c2 (by assumption) (by assumption)).2.2 (by omega))) c1.symm ?_; rw [rI_rI, g4_5] <;> (simp only [rI_rI, rJ_rJ, hI_rI, hJ_rI, hI_rJ, hJ_rJ, hR_rI, hR_rJ, hN_rI, hN_rJ, svH_63, svH_66, rfH_63, wvH_63, wvH_62, wvH_67, wvH_68, wvH_69, sc_63, sc_n62, sc_n67, sc_n68, sc_n69, sc_n70, reduceIte, Nat.reduceEqDiff, eq_self, up_up, up_self, up_ne, ne_eq, not_false_eq_true, Int.reduceEq, Int.reduceNeg]; rw [c1, c2] <;> rfl)) | exact h2 | exact h2 (by omega) | exact h3 | exact h3 (by omega) | exact h4 | exact h4 (by omega) | omega | exact True.intro | (simp only [rI_rI, rJ_rJ, hI_rI, hJ_rI, hI_rJ, hJ_rJ, hR_rI, hR_rJ, hN_rI, hN_rJ, svH_63, svH_66, rfH_63, wvH_63, wvH_62, wvH_67, wvH_68, wvH_69, sc_63, sc_n62, sc_n67, sc_n68, sc_n69, sc_n70, reduceIte, Nat.reduceEqDiff, eq_self, up_up, up_self, up_ne, ne_eq, not_false_eq_true, Int.reduceEq, Int.reduceNeg]; omega))
theorem m_X0_makeVariable : MM 10 s_X0_makeVariable := mm_of (own := 0) (by rfl) k_X0_makeVariable (cl := [(27, s_X0_variableBits), (20, s_X0_draft), (21, s_X0_put), (22, s_X0_keepDraft)]) ⟨m_X0_variableBits, m_X0_draft, m_X0_put, m_X0_keepDraft, trivial⟩ o_X0_makeVariable

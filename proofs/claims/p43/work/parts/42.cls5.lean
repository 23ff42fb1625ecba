/-! ===== the class: nodes of each kind made ===== -/
theorem mk_lf {h : Hp} {w f : Int → Int} {k wd a b c x y : Int} {Rt : Option AV → Hp → Prop} (hG : GH h w) (hW : WF w) (o : Off8 (hI h 2) f (hI h 1 3)) (d : Drf f (hI h 1 3) k wd a b c x y) (hs : gkR h w k wd a b c x y Rt) {g : Hp} (e : g = rI h 2 f) :
    (dfnd (rI h 2 f) ≠ -1 → Rt (some (.inl (dfnd g))) g) ∧ (dfnd (rI h 2 f) = -1 → hI h 1 3 = 40 → Rt (some (.inl (-1))) g) ∧ (dfnd (rI h 2 f) = -1 → hI h 1 3 < 40 → Rt (some (.inl (hI g 1 3))) (rI g 1 (up (hI g 1) 3 (hI g 1 3 + 1)))) := by
  subst e
  rw [hG.n] at o d
  exact (mk_leaf hG hW o d hs).2
theorem off_up {f0 f : Int → Int} {c j x : Int} (h0 : 0 ≤ j) (h1 : j < 8) (o : Off8 f0 f c) : Off8 f0 (up f (c * 8 + j) x) c := Box.i fun q hq => by rw [up_ne (by omega)]; exact o.o q hq
theorem drf_5 {f : Int → Int} {c k wd v : Int} (r : Row8 f c k wd (-1) (-1) (-1) (-1) (-1) (-1)) (hk : k ≠ 21) : Drf (up f (c * 8 + 5) v) c k wd (-1) (-1) (-1) v (-1) := by
  obtain ⟨r0, r1, r2, r3, r4, r5, r6, r7⟩ := r.o
  have e : ∀ j, j ≠ 5 → up f (c * 8 + 5) v (c * 8 + j) = f (c * 8 + j) := fun j h => up_ne (by omega)
  refine Box.i ⟨by rw [e 0 (by decide), r0], by rw [e 1 (by decide), r1], by rw [e 2 (by decide), r2], by rw [e 3 (by decide), r3], by rw [e 4 (by decide), r4], fun z => absurd z hk, fun _ => ⟨up_self _ _ _, by rw [e 6 (by decide), r6], by rw [e 7 (by decide), r7], rfl⟩⟩
theorem drf_2 {f : Int → Int} {c k wd a : Int} (r : Row8 f c k wd (-1) (-1) (-1) (-1) (-1) (-1)) (hk : k ≠ 21) : Drf (up f (c * 8 + 2) a) c k wd a (-1) (-1) (-1) (-1) := by
  obtain ⟨r0, r1, r2, r3, r4, r5, r6, r7⟩ := r.o
  have e : ∀ j, j ≠ 2 → up f (c * 8 + 2) a (c * 8 + j) = f (c * 8 + j) := fun j h => up_ne (by omega)
  refine Box.i ⟨by rw [e 0 (by decide), r0], by rw [e 1 (by decide), r1], up_self _ _ _, by rw [e 3 (by decide), r3], by rw [e 4 (by decide), r4], fun z => absurd z hk, fun _ => ⟨by rw [e 5 (by decide), r5], by rw [e 6 (by decide), r6], by rw [e 7 (by decide), r7], rfl⟩⟩
theorem drf_23 {f : Int → Int} {c k wd a b : Int} (r : Row8 f c k wd (-1) (-1) (-1) (-1) (-1) (-1)) (hk : k ≠ 21) : Drf (up (up f (c * 8 + 2) a) (c * 8 + 3) b) c k wd a b (-1) (-1) (-1) := by
  obtain ⟨r0, r1, r2, r3, r4, r5, r6, r7⟩ := r.o
  have e : ∀ j, j ≠ 2 → j ≠ 3 → up (up f (c * 8 + 2) a) (c * 8 + 3) b (c * 8 + j) = f (c * 8 + j) := fun j h h' => by rw [up_ne (by omega), up_ne (by omega)]
  refine Box.i ⟨by rw [e 0 (by decide) (by decide), r0], by rw [e 1 (by decide) (by decide), r1], by rw [up_ne (by omega), up_self], up_self _ _ _, by rw [e 4 (by decide) (by decide), r4], fun z => absurd z hk, fun _ => ⟨by rw [e 5 (by decide) (by decide), r5], by rw [e 6 (by decide) (by decide), r6], by rw [e 7 (by decide) (by decide), r7], rfl⟩⟩
theorem drf_234 {f : Int → Int} {c k wd a b d : Int} (r : Row8 f c k wd (-1) (-1) (-1) (-1) (-1) (-1)) (hk : k ≠ 21) : Drf (up (up (up f (c * 8 + 2) a) (c * 8 + 3) b) (c * 8 + 4) d) c k wd a b d (-1) (-1) := by
  obtain ⟨r0, r1, r2, r3, r4, r5, r6, r7⟩ := r.o
  have e : ∀ j, j ≠ 2 → j ≠ 3 → j ≠ 4 → up (up (up f (c * 8 + 2) a) (c * 8 + 3) b) (c * 8 + 4) d (c * 8 + j) = f (c * 8 + j) := fun j h h' h2 => by rw [up_ne (by omega), up_ne (by omega), up_ne (by omega)]
  refine Box.i ⟨by rw [e 0 (by decide) (by decide) (by decide), r0], by rw [e 1 (by decide) (by decide) (by decide), r1], by rw [up_ne (by omega), up_ne (by omega), up_self], by rw [up_ne (by omega), up_self], up_self _ _ _, fun z => absurd z hk, fun _ => ⟨by rw [e 5 (by decide) (by decide) (by decide), r5], by rw [e 6 (by decide) (by decide) (by decide), r6], by rw [e 7 (by decide) (by decide) (by decide), r7], rfl⟩⟩
theorem drf_267 {f : Int → Int} {c wd a x y : Int} (r : Row8 f c 21 wd (-1) (-1) (-1) (-1) (-1) (-1)) : Drf (up (up (up f (c * 8 + 2) a) (c * 8 + 6) x) (c * 8 + 7) y) c 21 wd a (-1) (-1) x y := by
  obtain ⟨r0, r1, r2, r3, r4, r5, r6, r7⟩ := r.o
  have e : ∀ j, j ≠ 2 → j ≠ 6 → j ≠ 7 → up (up (up f (c * 8 + 2) a) (c * 8 + 6) x) (c * 8 + 7) y (c * 8 + j) = f (c * 8 + j) := fun j h h' h2 => by rw [up_ne (by omega), up_ne (by omega), up_ne (by omega)]
  refine Box.i ⟨by rw [e 0 (by decide) (by decide) (by decide), r0], by rw [e 1 (by decide) (by decide) (by decide), r1], by rw [up_ne (by omega), up_ne (by omega), up_self], by rw [e 3 (by decide) (by decide) (by decide), r3], by rw [e 4 (by decide) (by decide) (by decide), r4], fun _ => ⟨by rw [e 5 (by decide) (by decide) (by decide), r5], by rw [up_ne (by omega), up_self], up_self _ _ _⟩, fun z => absurd rfl z⟩
theorem r22 (h : Hp) (f g k : Int → Int) : rI (rI (rI h 2 f) 2 g) 2 k = rI h 2 k := by rw [rI_rI, rI_rI]
theorem r222 (h : Hp) (f g k l : Int → Int) : rI (rI (rI (rI h 2 f) 2 g) 2 k) 2 l = rI h 2 l := by rw [rI_rI, rI_rI, rI_rI]
def s_X0_makeConstant : CS := (zc 3, ap [(3, 1), (0, 0), (0, 0)] (fun wd v h Rt X =>
∃ w, GH h w ∧ WF w ∧ (¬ (1 ≤ wd ∧ wd ≤ 8 ∧ 0 ≤ v ∧ v ≤ p2 wd - 1) → Rt (some (.inl (-1))) h) ∧ (1 ≤ wd ∧ wd ≤ 8 ∧ 0 ≤ v ∧ v ≤ p2 wd - 1 → gkR h w 0 wd (-1) (-1) (-1) v (-1) Rt)))
set_option maxRecDepth 100000 in
set_option maxHeartbeats 4000000 in
theorem o_X0_makeConstant : Obl true 1 3 (sp [(186, s_X9_isWord), (20, s_X0_draft), (21, s_X0_put), (22, s_X0_keepDraft)]) [] code_X0_makeConstant s_X0_makeConstant := by
  refine obl0 (by rfl) ?_
  intro wd r_wd v r_v h Rt X hh hf hs
  obtain ⟨w, hG, hW, h2, h3⟩ := hs
  have c1 := hG.n
  have c3 := hW.nn
  by_cases z : 1 ≤ wd ∧ wd ≤ 8 ∧ 0 ≤ v ∧ v ≤ p2 wd - 1
  · have k3 := h3 z
    repeat' (first | apply And.intro | (with_reducible assumption) | (intro h9; first | (exfalso; omega) | (simp only [rI_rI, rJ_rJ, hI_rI, hJ_rI, hI_rJ, hJ_rJ, hR_rI, hR_rJ, hN_rI, hN_rJ, svH_63, svH_66, rfH_63, wvH_63, wvH_62, wvH_67, wvH_68, wvH_69, sc_63, sc_n62, sc_n67, sc_n68, sc_n69, sc_n70, reduceIte, Nat.reduceEqDiff, eq_self, up_up, up_self, up_ne, ne_eq, not_false_eq_true, Int.reduceEq, Int.reduceNeg] at h9; first | (exfalso; omega) | skip) | skip) | exact (mk_lf hG hW (off_up (by decide) (by decide) (by assumption)) (drf_5 (by assumption) (by decide)) k3 (rI_rI _ _ _ _)).1 (by assumption) | exact (mk_lf hG hW (off_up (by decide) (by decide) (by assumption)) (drf_5 (by assumption) (by decide)) k3 (rI_rI _ _ _ _)).2.1 (by assumption) (by assumption) | exact (mk_lf hG hW (off_up (by decide) (by decide) (by assumption)) (drf_5 (by assumption) (by decide)) k3 (rI_rI _ _ _ _)).2.2 (by assumption) (by assumption) | exact h2 | exact h2 (by omega) | exact h3 | exact h3 (by omega) | omega | exact True.intro | (simp only [rI_rI, rJ_rJ, hI_rI, hJ_rI, hI_rJ, hJ_rJ, hR_rI, hR_rJ, hN_rI, hN_rJ, svH_63, svH_66, rfH_63, wvH_63, wvH_62, wvH_67, wvH_68, wvH_69, sc_63, sc_n62, sc_n67, sc_n68, sc_n69, sc_n70, reduceIte, Nat.reduceEqDiff, eq_self, up_up, up_self, up_ne, ne_eq, not_false_eq_true, Int.reduceEq, Int.reduceNeg]; omega))
  · repeat' (first | apply And.intro | (with_reducible assumption) | (intro h9; first | (exfalso; omega) | (simp only [rI_rI, rJ_rJ, hI_rI, hJ_rI, hI_rJ, hJ_rJ, hR_rI, hR_rJ, hN_rI, hN_rJ, svH_63, svH_66, rfH_63, wvH_63, wvH_62, wvH_67, wvH_68, wvH_69, sc_63, sc_n62, sc_n67, sc_n68, sc_n69, sc_n70, reduceIte, Nat.reduceEqDiff, eq_self, up_up, up_self, up_ne, ne_eq, not_false_eq_true, Int.reduceEq, Int.reduceNeg] at h9; first | (exfalso; omega) | skip) | skip) | exact h2 z | exact h2 | exact h2 (by omega) | exact h3 | exact h3 (by omega) | omega | exact True.intro | (simp only [rI_rI, rJ_rJ, hI_rI, hJ_rI, hI_rJ, hJ_rJ, hR_rI, hR_rJ, hN_rI, hN_rJ, svH_63, svH_66, rfH_63, wvH_63, wvH_62, wvH_67, wvH_68, wvH_69, sc_63, sc_n62, sc_n67, sc_n68, sc_n69, sc_n70, reduceIte, Nat.reduceEqDiff, eq_self, up_up, up_self, up_ne, ne_eq, not_false_eq_true, Int.reduceEq, Int.reduceNeg]; omega))
theorem m_X0_makeConstant : MM 11 s_X0_makeConstant := mm_of (own := 0) (by rfl) k_X0_makeConstant (cl := [(186, s_X9_isWord), (20, s_X0_draft), (21, s_X0_put), (22, s_X0_keepDraft)]) ⟨m_X9_isWord, m_X0_draft, m_X0_put, m_X0_keepDraft, trivial⟩ o_X0_makeConstant
def s_X0_makeUnary : CS := (zc 3, ap [(3, 1), (0, 0), (0, 0)] (fun k a h Rt X =>
∃ w, GH h w ∧ WF w ∧ (0 ≤ a ∧ a < w 0 ∧ k ≠ 21) ∧ gkR h w k (nd w a 1) a (-1) (-1) (-1) (-1) Rt))
set_option maxRecDepth 100000 in
set_option maxHeartbeats 4000000 in
theorem o_X0_makeUnary : Obl true 1 3 (sp [(6, s_X0_width), (20, s_X0_draft), (21, s_X0_put), (22, s_X0_keepDraft)]) [] code_X0_makeUnary s_X0_makeUnary := by
  refine obl0 (by rfl) ?_
  intro k r_k a r_a h Rt X hh hf hs
  obtain ⟨w, hG, hW, ⟨a1, a2, a3⟩, h3⟩ := hs
  have c1 := hG.n
  have c3 := hW.nn
  have c4 := hG.k1 a1 a2
  rw [← c4] at h3
  repeat' (first | apply And.intro | (with_reducible assumption) | (intro h9; first | (exfalso; omega) | (simp only [rI_rI, rJ_rJ, hI_rI, hJ_rI, hI_rJ, hJ_rJ, hR_rI, hR_rJ, hN_rI, hN_rJ, svH_63, svH_66, rfH_63, wvH_63, wvH_62, wvH_67, wvH_68, wvH_69, sc_63, sc_n62, sc_n67, sc_n68, sc_n69, sc_n70, reduceIte, Nat.reduceEqDiff, eq_self, up_up, up_self, up_ne, ne_eq, not_false_eq_true, Int.reduceEq, Int.reduceNeg] at h9; first | (exfalso; omega) | skip) | skip) | exact (mk_lf hG hW (off_up (by decide) (by decide) (by assumption)) (drf_2 (by assumption) (by assumption)) h3 (rI_rI _ _ _ _)).1 (by assumption) | exact (mk_lf hG hW (off_up (by decide) (by decide) (by assumption)) (drf_2 (by assumption) (by assumption)) h3 (rI_rI _ _ _ _)).2.1 (by assumption) (by assumption) | exact (mk_lf hG hW (off_up (by decide) (by decide) (by assumption)) (drf_2 (by assumption) (by assumption)) h3 (rI_rI _ _ _ _)).2.2 (by assumption) (by assumption) | exact h3 | exact h3 (by omega) | omega | exact True.intro | (simp only [rI_rI, rJ_rJ, hI_rI, hJ_rI, hI_rJ, hJ_rJ, hR_rI, hR_rJ, hN_rI, hN_rJ, svH_63, svH_66, rfH_63, wvH_63, wvH_62, wvH_67, wvH_68, wvH_69, sc_63, sc_n62, sc_n67, sc_n68, sc_n69, sc_n70, reduceIte, Nat.reduceEqDiff, eq_self, up_up, up_self, up_ne, ne_eq, not_false_eq_true, Int.reduceEq, Int.reduceNeg]; omega))
theorem m_X0_makeUnary : MM 13 s_X0_makeUnary := mm_of (own := 0) (by rfl) k_X0_makeUnary (cl := [(6, s_X0_width), (20, s_X0_draft), (21, s_X0_put), (22, s_X0_keepDraft)]) ⟨m_X0_width, m_X0_draft, m_X0_put, m_X0_keepDraft, trivial⟩ o_X0_makeUnary
def s_X0_makeExtended : CS := (zc 4, ap [(3, 1), (0, 0), (0, 0), (0, 0)] (fun k a wd h Rt X =>
∃ w, GH h w ∧ WF w ∧ (0 ≤ a ∧ a < w 0 ∧ k ≠ 21) ∧ (¬ (nd w a 1 < wd ∧ wd ≤ 8) → Rt (some (.inl (-1))) h) ∧ (nd w a 1 < wd ∧ wd ≤ 8 → gkR h w k wd a (-1) (-1) (-1) (-1) Rt)))
set_option maxRecDepth 100000 in
set_option maxHeartbeats 4000000 in
theorem o_X0_makeExtended : Obl true 1 4 (sp [(18, s_X0_canExtend), (20, s_X0_draft), (21, s_X0_put), (22, s_X0_keepDraft)]) [] code_X0_makeExtended s_X0_makeExtended := by
  refine obl0 (by rfl) ?_
  intro k r_k a r_a wd r_wd h Rt X hh hf hs
  obtain ⟨w, hG, hW, ⟨a1, a2, a3⟩, h2, h3⟩ := hs
  have c1 := hG.n
  have c3 := hW.nn
  have c4 := hG.k1 a1 a2
  by_cases z : nd w a 1 < wd ∧ wd ≤ 8
  · have k3 := h3 z
    repeat' (first | apply And.intro | (with_reducible assumption) | (intro h9; first | (exfalso; omega) | (simp only [rI_rI, rJ_rJ, hI_rI, hJ_rI, hI_rJ, hJ_rJ, hR_rI, hR_rJ, hN_rI, hN_rJ, svH_63, svH_66, rfH_63, wvH_63, wvH_62, wvH_67, wvH_68, wvH_69, sc_63, sc_n62, sc_n67, sc_n68, sc_n69, sc_n70, reduceIte, Nat.reduceEqDiff, eq_self, up_up, up_self, up_ne, ne_eq, not_false_eq_true, Int.reduceEq, Int.reduceNeg] at h9; first | (exfalso; omega) | skip) | skip) | exact (mk_lf hG hW (off_up (by decide) (by decide) (by assumption)) (drf_2 (by assumption) (by assumption)) k3 (rI_rI _ _ _ _)).1 (by assumption) | exact (mk_lf hG hW (off_up (by decide) (by decide) (by assumption)) (drf_2 (by assumption) (by assumption)) k3 (rI_rI _ _ _ _)).2.1 (by assumption) (by assumption) | exact (mk_lf hG hW (off_up (by decide) (by decide) (by assumption)) (drf_2 (by assumption) (by assumption)) k3 (rI_rI _ _ _ _)).2.2 (by assumption) (by assumption) | exact h2 | exact h2 (by omega) | exact h3 | exact h3 (by omega) | omega | exact True.intro | (simp only [rI_rI, rJ_rJ, hI_rI, hJ_rI, hI_rJ, hJ_rJ, hR_rI, hR_rJ, hN_rI, hN_rJ, svH_63, svH_66, rfH_63, wvH_63, wvH_62, wvH_67, wvH_68, wvH_69, sc_63, sc_n62, sc_n67, sc_n68, sc_n69, sc_n70, reduceIte, Nat.reduceEqDiff, eq_self, up_up, up_self, up_ne, ne_eq, not_false_eq_true, Int.reduceEq, Int.reduceNeg]; omega))
  · repeat' (first | apply And.intro | (with_reducible assumption) | (intro h9; first | (exfalso; omega) | (simp only [rI_rI, rJ_rJ, hI_rI, hJ_rI, hI_rJ, hJ_rJ, hR_rI, hR_rJ, hN_rI, hN_rJ, svH_63, svH_66, rfH_63, wvH_63, wvH_62, wvH_67, wvH_68, wvH_69, sc_63, sc_n62, sc_n67, sc_n68, sc_n69, sc_n70, reduceIte, Nat.reduceEqDiff, eq_self, up_up, up_self, up_ne, ne_eq, not_false_eq_true, Int.reduceEq, Int.reduceNeg] at h9; first | (exfalso; omega) | skip) | skip) | exact h2 z | exact h2 | exact h2 (by omega) | exact h3 | exact h3 (by omega) | omega | exact True.intro | (simp only [rI_rI, rJ_rJ, hI_rI, hJ_rI, hI_rJ, hJ_rJ, hR_rI, hR_rJ, hN_rI, hN_rJ, svH_63, svH_66, rfH_63, wvH_63, wvH_62, wvH_67, wvH_68, wvH_69, sc_63, sc_n62, sc_n67, sc_n68, sc_n69, sc_n70, reduceIte, Nat.reduceEqDiff, eq_self, up_up, up_self, up_ne, ne_eq, not_false_eq_true, Int.reduceEq, Int.reduceNeg]; omega))
theorem m_X0_makeExtended : MM 15 s_X0_makeExtended := mm_of (own := 0) (by rfl) k_X0_makeExtended (cl := [(18, s_X0_canExtend), (20, s_X0_draft), (21, s_X0_put), (22, s_X0_keepDraft)]) ⟨m_X0_canExtend, m_X0_draft, m_X0_put, m_X0_keepDraft, trivial⟩ o_X0_makeExtended
def s_X0_makeSlice : CS := (zc 4, ap [(3, 1), (0, 0), (0, 0), (0, 0)] (fun a hi lo h Rt X =>
∃ w, GH h w ∧ WF w ∧ (0 ≤ a ∧ a < w 0) ∧ (¬ (0 ≤ lo ∧ lo ≤ hi ∧ hi < nd w a 1) → Rt (some (.inl (-1))) h) ∧ (0 ≤ lo ∧ lo ≤ hi ∧ hi < nd w a 1 → gkR h w 21 (hi - lo + 1) a (-1) (-1) hi lo Rt)))
set_option maxRecDepth 100000 in
set_option maxHeartbeats 4000000 in
theorem o_X0_makeSlice : Obl true 1 4 (sp [(17, s_X0_canSlice), (20, s_X0_draft), (21, s_X0_put), (22, s_X0_keepDraft)]) [] code_X0_makeSlice s_X0_makeSlice := by
  refine obl0 (by rfl) ?_
  intro a r_a hi r_hi lo r_lo h Rt X hh hf hs
  obtain ⟨w, hG, hW, ⟨a1, a2⟩, h2, h3⟩ := hs
  have c1 := hG.n
  have c3 := hW.nn
  have c4 := hG.k1 a1 a2
  have c5 := hW.wd a1 a2
  by_cases z : 0 ≤ lo ∧ lo ≤ hi ∧ hi < nd w a 1
  · have k3 := h3 z
    repeat' (first | apply And.intro | (with_reducible assumption) | (intro h9; first | (exfalso; omega) | (simp only [rI_rI, rJ_rJ, hI_rI, hJ_rI, hI_rJ, hJ_rJ, hR_rI, hR_rJ, hN_rI, hN_rJ, svH_63, svH_66, rfH_63, wvH_63, wvH_62, wvH_67, wvH_68, wvH_69, sc_63, sc_n62, sc_n67, sc_n68, sc_n69, sc_n70, reduceIte, Nat.reduceEqDiff, eq_self, up_up, up_self, up_ne, ne_eq, not_false_eq_true, Int.reduceEq, Int.reduceNeg] at h9; first | (exfalso; omega) | skip) | skip) | exact (mk_lf hG hW (off_up (by decide) (by decide) (off_up (by decide) (by decide) (off_up (by decide) (by decide) (by assumption)))) (drf_267 (by assumption)) k3 (r222 _ _ _ _ _)).1 (by assumption) | exact (mk_lf hG hW (off_up (by decide) (by decide) (off_up (by decide) (by decide) (off_up (by decide) (by decide) (by assumption)))) (drf_267 (by assumption)) k3 (r222 _ _ _ _ _)).2.1 (by assumption) (by assumption) | exact (mk_lf hG hW (off_up (by decide) (by decide) (off_up (by decide) (by decide) (off_up (by decide) (by decide) (by assumption)))) (drf_267 (by assumption)) k3 (r222 _ _ _ _ _)).2.2 (by assumption) (by assumption) | exact h2 | exact h2 (by omega) | exact h3 | exact h3 (by omega) | omega | exact True.intro | (simp only [rI_rI, rJ_rJ, hI_rI, hJ_rI, hI_rJ, hJ_rJ, hR_rI, hR_rJ, hN_rI, hN_rJ, svH_63, svH_66, rfH_63, wvH_63, wvH_62, wvH_67, wvH_68, wvH_69, sc_63, sc_n62, sc_n67, sc_n68, sc_n69, sc_n70, reduceIte, Nat.reduceEqDiff, eq_self, up_up, up_self, up_ne, ne_eq, not_false_eq_true, Int.reduceEq, Int.reduceNeg]; omega))
  · repeat' (first | apply And.intro | (with_reducible assumption) | (intro h9; first | (exfalso; omega) | (simp only [rI_rI, rJ_rJ, hI_rI, hJ_rI, hI_rJ, hJ_rJ, hR_rI, hR_rJ, hN_rI, hN_rJ, svH_63, svH_66, rfH_63, wvH_63, wvH_62, wvH_67, wvH_68, wvH_69, sc_63, sc_n62, sc_n67, sc_n68, sc_n69, sc_n70, reduceIte, Nat.reduceEqDiff, eq_self, up_up, up_self, up_ne, ne_eq, not_false_eq_true, Int.reduceEq, Int.reduceNeg] at h9; first | (exfalso; omega) | skip) | skip) | exact h2 z | exact h2 | exact h2 (by omega) | exact h3 | exact h3 (by omega) | omega | exact True.intro | (simp only [rI_rI, rJ_rJ, hI_rI, hJ_rI, hI_rJ, hJ_rJ, hR_rI, hR_rJ, hN_rI, hN_rJ, svH_63, svH_66, rfH_63, wvH_63, wvH_62, wvH_67, wvH_68, wvH_69, sc_63, sc_n62, sc_n67, sc_n68, sc_n69, sc_n70, reduceIte, Nat.reduceEqDiff, eq_self, up_up, up_self, up_ne, ne_eq, not_false_eq_true, Int.reduceEq, Int.reduceNeg]; omega))
theorem m_X0_makeSlice : MM 14 s_X0_makeSlice := mm_of (own := 0) (by rfl) k_X0_makeSlice (cl := [(17, s_X0_canSlice), (20, s_X0_draft), (21, s_X0_put), (22, s_X0_keepDraft)]) ⟨m_X0_canSlice, m_X0_draft, m_X0_put, m_X0_keepDraft, trivial⟩ o_X0_makeSlice
def s_X0_makeChoice : CS := (zc 3, ap [(3, 1), (0, 0), (0, 0), (0, 0)] (fun a b c h Rt X =>
∃ w, GH h w ∧ WF w ∧ (0 ≤ a ∧ a < w 0 ∧ 0 ≤ b ∧ b < w 0 ∧ 0 ≤ c ∧ c < w 0) ∧ (¬ (nd w a 1 = 1 ∧ nd w b 1 = nd w c 1) → Rt (some (.inl (-1))) h) ∧ (nd w a 1 = 1 ∧ nd w b 1 = nd w c 1 → gkR h w 24 (nd w b 1) a b c (-1) (-1) Rt)))
set_option maxRecDepth 100000 in
set_option maxHeartbeats 4000000 in
theorem o_X0_makeChoice : Obl true 1 4 (sp [(6, s_X0_width), (20, s_X0_draft), (21, s_X0_put), (22, s_X0_keepDraft)]) [] code_X0_makeChoice s_X0_makeChoice := by
  refine obl0 (by rfl) ?_
  intro a r_a b r_b c r_c h Rt X hh hf hs
  obtain ⟨w, hG, hW, ⟨a1, a2, a3, a4, a5, a6⟩, h2, h3⟩ := hs
  have c1 := hG.n
  have c3 := hW.nn
  have c4 := hG.k1 a1 a2
  have c5 := hG.k1 a3 a4
  have c6 := hG.k1 a5 a6
  by_cases z : nd w a 1 = 1 ∧ nd w b 1 = nd w c 1
  · have k3 := h3 z
    rw [← c5] at k3
    repeat' (first | apply And.intro | (with_reducible assumption) | (intro h9; first | (exfalso; omega) | (simp only [rI_rI, rJ_rJ, hI_rI, hJ_rI, hI_rJ, hJ_rJ, hR_rI, hR_rJ, hN_rI, hN_rJ, svH_63, svH_66, rfH_63, wvH_63, wvH_62, wvH_67, wvH_68, wvH_69, sc_63, sc_n62, sc_n67, sc_n68, sc_n69, sc_n70, reduceIte, Nat.reduceEqDiff, eq_self, up_up, up_self, up_ne, ne_eq, not_false_eq_true, Int.reduceEq, Int.reduceNeg] at h9; first | (exfalso; omega) | skip) | skip) | exact (mk_lf hG hW (off_up (by decide) (by decide) (off_up (by decide) (by decide) (off_up (by decide) (by decide) (by assumption)))) (drf_234 (by assumption) (by decide)) k3 (r222 _ _ _ _ _)).1 (by assumption) | exact (mk_lf hG hW (off_up (by decide) (by decide) (off_up (by decide) (by decide) (off_up (by decide) (by decide) (by assumption)))) (drf_234 (by assumption) (by decide)) k3 (r222 _ _ _ _ _)).2.1 (by assumption) (by assumption) | exact (mk_lf hG hW (off_up (by decide) (by decide) (off_up (by decide) (by decide) (off_up (by decide) (by decide) (by assumption)))) (drf_234 (by assumption) (by decide)) k3 (r222 _ _ _ _ _)).2.2 (by assumption) (by assumption) | exact h2 | exact h2 (by omega) | exact h3 | exact h3 (by omega) | omega | exact True.intro | (simp only [rI_rI, rJ_rJ, hI_rI, hJ_rI, hI_rJ, hJ_rJ, hR_rI, hR_rJ, hN_rI, hN_rJ, svH_63, svH_66, rfH_63, wvH_63, wvH_62, wvH_67, wvH_68, wvH_69, sc_63, sc_n62, sc_n67, sc_n68, sc_n69, sc_n70, reduceIte, Nat.reduceEqDiff, eq_self, up_up, up_self, up_ne, ne_eq, not_false_eq_true, Int.reduceEq, Int.reduceNeg]; omega))
  · repeat' (first | apply And.intro | (with_reducible assumption) | (intro h9; first | (exfalso; omega) | (simp only [rI_rI, rJ_rJ, hI_rI, hJ_rI, hI_rJ, hJ_rJ, hR_rI, hR_rJ, hN_rI, hN_rJ, svH_63, svH_66, rfH_63, wvH_63, wvH_62, wvH_67, wvH_68, wvH_69, sc_63, sc_n62, sc_n67, sc_n68, sc_n69, sc_n70, reduceIte, Nat.reduceEqDiff, eq_self, up_up, up_self, up_ne, ne_eq, not_false_eq_true, Int.reduceEq, Int.reduceNeg] at h9; first | (exfalso; omega) | skip) | skip) | exact h2 z | exact h2 | exact h2 (by omega) | exact h3 | exact h3 (by omega) | omega | exact True.intro | (simp only [rI_rI, rJ_rJ, hI_rI, hJ_rI, hI_rJ, hJ_rJ, hR_rI, hR_rJ, hN_rI, hN_rJ, svH_63, svH_66, rfH_63, wvH_63, wvH_62, wvH_67, wvH_68, wvH_69, sc_63, sc_n62, sc_n67, sc_n68, sc_n69, sc_n70, reduceIte, Nat.reduceEqDiff, eq_self, up_up, up_self, up_ne, ne_eq, not_false_eq_true, Int.reduceEq, Int.reduceNeg]; omega))
def bW (w : Int → Int) (k a b : Int) : Int := if k = 18 then nd w a 1 + nd w b 1 else if 13 ≤ k then 1 else nd w a 1
def bFit (w : Int → Int) (k a b : Int) : Prop := (k = 18 ∧ nd w a 1 + nd w b 1 ≤ 8) ∨ (k ≠ 18 ∧ nd w a 1 = nd w b 1)
theorem m_X0_makeChoice : MM 16 s_X0_makeChoice := mm_of (own := 0) (by rfl) k_X0_makeChoice (cl := [(6, s_X0_width), (20, s_X0_draft), (21, s_X0_put), (22, s_X0_keepDraft)]) ⟨m_X0_width, m_X0_draft, m_X0_put, m_X0_keepDraft, trivial⟩ o_X0_makeChoice
def s_X0_makeBinary : CS := (zc 4, ap [(3, 1), (0, 0), (0, 0), (0, 0)] (fun k a b h Rt X =>
∃ w, GH h w ∧ WF w ∧ (0 ≤ a ∧ a < w 0 ∧ 0 ≤ b ∧ b < w 0 ∧ k ≤ 18) ∧ (¬ bFit w k a b → Rt (some (.inl (-1))) h) ∧ (bFit w k a b → gkR h w k (bW w k a b) a b (-1) (-1) (-1) Rt)))
set_option maxRecDepth 100000 in
set_option maxHeartbeats 4000000 in
theorem o_X0_makeBinary : Obl true 1 5 (sp [(6, s_X0_width), (19, s_X0_binaryWidth), (20, s_X0_draft), (21, s_X0_put), (22, s_X0_keepDraft)]) [] code_X0_makeBinary s_X0_makeBinary := by
  refine obl0 (by rfl) ?_
  intro k r_k a r_a b r_b h Rt X hh hf hs
  obtain ⟨w, hG, hW, ⟨a1, a2, a3, a4, a5⟩, h2, h3⟩ := hs
  have c1 := hG.n
  have c3 := hW.nn
  have c4 := hG.k1 a1 a2
  have c5 := hG.k1 a3 a4
  have c7 := hW.wd a1 a2
  have c8 := hW.wd a3 a4
  have k21 : k ≠ 21 := by omega
  unfold bFit bW at *
  by_cases z : (k = 18 ∧ nd w a 1 + nd w b 1 ≤ 8) ∨ (k ≠ 18 ∧ nd w a 1 = nd w b 1)
  · have k3 := h3 z
    rw [← c4, ← c5] at k3
    by_cases e18 : k = 18
    · rw [if_pos e18] at k3
      repeat' (first | apply And.intro | (with_reducible assumption) | (intro h9; first | (exfalso; omega) | (simp only [rI_rI, rJ_rJ, hI_rI, hJ_rI, hI_rJ, hJ_rJ, hR_rI, hR_rJ, hN_rI, hN_rJ, svH_63, svH_66, rfH_63, wvH_63, wvH_62, wvH_67, wvH_68, wvH_69, sc_63, sc_n62, sc_n67, sc_n68, sc_n69, sc_n70, reduceIte, Nat.reduceEqDiff, eq_self, up_up, up_self, up_ne, ne_eq, not_false_eq_true, Int.reduceEq, Int.reduceNeg] at h9; first | (exfalso; omega) | skip) | skip) | exact (mk_lf hG hW (off_up (by decide) (by decide) (off_up (by decide) (by decide) (by assumption))) (drf_23 (by assumption) k21) k3 (r22 _ _ _ _)).1 (by assumption) | exact (mk_lf hG hW (off_up (by decide) (by decide) (off_up (by decide) (by decide) (by assumption))) (drf_23 (by assumption) k21) k3 (r22 _ _ _ _)).2.1 (by assumption) (by assumption) | exact (mk_lf hG hW (off_up (by decide) (by decide) (off_up (by decide) (by decide) (by assumption))) (drf_23 (by assumption) k21) k3 (r22 _ _ _ _)).2.2 (by assumption) (by assumption) | exact h2 | exact h2 (by omega) | exact h3 | exact h3 (by omega) | omega | exact True.intro | (simp only [rI_rI, rJ_rJ, hI_rI, hJ_rI, hI_rJ, hJ_rJ, hR_rI, hR_rJ, hN_rI, hN_rJ, svH_63, svH_66, rfH_63, wvH_63, wvH_62, wvH_67, wvH_68, wvH_69, sc_63, sc_n62, sc_n67, sc_n68, sc_n69, sc_n70, reduceIte, Nat.reduceEqDiff, eq_self, up_up, up_self, up_ne, ne_eq, not_false_eq_true, Int.reduceEq, Int.reduceNeg]; omega))
    · rw [if_neg e18] at k3
      by_cases e13 : 13 ≤ k
      · rw [if_pos e13] at k3
        repeat' (first | apply And.intro | (with_reducible assumption) | (intro h9; first | (exfalso; omega) | (simp only [rI_rI, rJ_rJ, hI_rI, hJ_rI, hI_rJ, hJ_rJ, hR_rI, hR_rJ, hN_rI, hN_rJ, svH_63, svH_66, rfH_63, wvH_63, wvH_62, wvH_67, wvH_68, wvH_69, sc_63, sc_n62, sc_n67, sc_n68, sc_n69, sc_n70, reduceIte, Nat.reduceEqDiff, eq_self, up_up, up_self, up_ne, ne_eq, not_false_eq_true, Int.reduceEq, Int.reduceNeg] at h9; first | (exfalso; omega) | skip) | skip) | exact (mk_lf hG hW (off_up (by decide) (by decide) (off_up (by decide) (by decide) (by assumption))) (drf_23 (by assumption) k21) k3 (r22 _ _ _ _)).1 (by assumption) | exact (mk_lf hG hW (off_up (by decide) (by decide) (off_up (by decide) (by decide) (by assumption))) (drf_23 (by assumption) k21) k3 (r22 _ _ _ _)).2.1 (by assumption) (by assumption) | exact (mk_lf hG hW (off_up (by decide) (by decide) (off_up (by decide) (by decide) (by assumption))) (drf_23 (by assumption) k21) k3 (r22 _ _ _ _)).2.2 (by assumption) (by assumption) | exact h2 | exact h2 (by omega) | exact h3 | exact h3 (by omega) | omega | exact True.intro | (simp only [rI_rI, rJ_rJ, hI_rI, hJ_rI, hI_rJ, hJ_rJ, hR_rI, hR_rJ, hN_rI, hN_rJ, svH_63, svH_66, rfH_63, wvH_63, wvH_62, wvH_67, wvH_68, wvH_69, sc_63, sc_n62, sc_n67, sc_n68, sc_n69, sc_n70, reduceIte, Nat.reduceEqDiff, eq_self, up_up, up_self, up_ne, ne_eq, not_false_eq_true, Int.reduceEq, Int.reduceNeg]; omega))
      · rw [if_neg e13] at k3
        repeat' (first | apply And.intro | (with_reducible assumption) | (intro h9; first | (exfalso; omega) | (simp only [rI_rI, rJ_rJ, hI_rI, hJ_rI, hI_rJ, hJ_rJ, hR_rI, hR_rJ, hN_rI, hN_rJ, svH_63, svH_66, rfH_63, wvH_63, wvH_62, wvH_67, wvH_68, wvH_69, sc_63, sc_n62, sc_n67, sc_n68, sc_n69, sc_n70, reduceIte, Nat.reduceEqDiff, eq_self, up_up, up_self, up_ne, ne_eq, not_false_eq_true, Int.reduceEq, Int.reduceNeg] at h9; first | (exfalso; omega) | skip) | skip) | exact (mk_lf hG hW (off_up (by decide) (by decide) (off_up (by decide) (by decide) (by assumption))) (drf_23 (by assumption) k21) k3 (r22 _ _ _ _)).1 (by assumption) | exact (mk_lf hG hW (off_up (by decide) (by decide) (off_up (by decide) (by decide) (by assumption))) (drf_23 (by assumption) k21) k3 (r22 _ _ _ _)).2.1 (by assumption) (by assumption) | exact (mk_lf hG hW (off_up (by decide) (by decide) (off_up (by decide) (by decide) (by assumption))) (drf_23 (by assumption) k21) k3 (r22 _ _ _ _)).2.2 (by assumption) (by assumption) | exact h2 | exact h2 (by omega) | exact h3 | exact h3 (by omega) | omega | exact True.intro | (simp only [rI_rI, rJ_rJ, hI_rI, hJ_rI, hI_rJ, hJ_rJ, hR_rI, hR_rJ, hN_rI, hN_rJ, svH_63, svH_66, rfH_63, wvH_63, wvH_62, wvH_67, wvH_68, wvH_69, sc_63, sc_n62, sc_n67, sc_n68, sc_n69, sc_n70, reduceIte, Nat.reduceEqDiff, eq_self, up_up, up_self, up_ne, ne_eq, not_false_eq_true, Int.reduceEq, Int.reduceNeg]; omega))
  · repeat' (first | apply And.intro | (with_reducible assumption) | (intro h9; first | (exfalso; omega) | (simp only [rI_rI, rJ_rJ, hI_rI, hJ_rI, hI_rJ, hJ_rJ, hR_rI, hR_rJ, hN_rI, hN_rJ, svH_63, svH_66, rfH_63, wvH_63, wvH_62, wvH_67, wvH_68, wvH_69, sc_63, sc_n62, sc_n67, sc_n68, sc_n69, sc_n70, reduceIte, Nat.reduceEqDiff, eq_self, up_up, up_self, up_ne, ne_eq, not_false_eq_true, Int.reduceEq, Int.reduceNeg] at h9; first | (exfalso; omega) | skip) | skip) | exact h2 z | exact h2 | exact h2 (by omega) | exact h3 | exact h3 (by omega) | omega | exact True.intro | (simp only [rI_rI, rJ_rJ, hI_rI, hJ_rI, hI_rJ, hJ_rJ, hR_rI, hR_rJ, hN_rI, hN_rJ, svH_63, svH_66, rfH_63, wvH_63, wvH_62, wvH_67, wvH_68, wvH_69, sc_63, sc_n62, sc_n67, sc_n68, sc_n69, sc_n70, reduceIte, Nat.reduceEqDiff, eq_self, up_up, up_self, up_ne, ne_eq, not_false_eq_true, Int.reduceEq, Int.reduceNeg]; omega))
theorem m_X0_makeBinary : MM 12 s_X0_makeBinary := mm_of (own := 0) (by rfl) k_X0_makeBinary (cl := [(6, s_X0_width), (19, s_X0_binaryWidth), (20, s_X0_draft), (21, s_X0_put), (22, s_X0_keepDraft)]) ⟨m_X0_width, m_X0_binaryWidth, m_X0_draft, m_X0_put, m_X0_keepDraft, trivial⟩ o_X0_makeBinary

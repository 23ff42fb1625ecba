/-! ===== the class's methods: nodes made ===== -/
def mkC (h : Hp) (w ps : Int → Int) (s : Int) (r : Int × (Int → Int)) (Rt : Option AV → Hp → Prop) (X : Nat → Hp → Prop) : Prop := (r.1 = -1 → Go h w ps s (X 1)) ∧ (r.1 ≠ -1 → Go h r.2 (svPp ps s w) (svS s) (Rt (some (.inl r.1))))
theorem Kp.g21 (h : Hp) (f1 f2 : Int → Int) : Kp h (rI (rI h 2 f2) 1 f1) := Box.i ⟨Box.i fun a h1 h2 => ⟨by rw [hI_rI', hI_rI', if_neg (by omega), if_neg (by omega)], rfl, rfl⟩, rfl, rfl⟩
theorem mkC_ci {h : Hp} {w ps : Int → Int} {s : Int} (hC : CI h w ps s) {r : Int × (Int → Int)} (ho : MkO w r) {f1 f2 : Int → Int} (G : GR f1 f2 (hI h 3) (hI h 4) r.2) : CI (rI (rI h 2 f2) 1 f1) r.2 ps s := by
  obtain ⟨o1, o2, o3, o4⟩ := ho.o
  exact hC.gr o1 (fun a h1 h2 => by rw [hI_rI', hI_rI', if_neg (by omega), if_neg (by omega)]) rfl G (fun j a _ => o3 j a) (hC.sk.nx hC.wf o2 (Cx.e hC.wf fun j a _ _ => o3 j a)) hC.rn ⟨rfl, rfl⟩
theorem mkC_k {h : Hp} {w ps : Int → Int} {s : Int} (hC : CI h w ps s) {r : Int × (Int → Int)} (ho : MkO w r) {Rt : Option AV → Hp → Prop} {X : Nat → Hp → Prop} (K : mkC h w ps s r Rt X) {f1 f2 : Int → Int} (G : GR f1 f2 (hI h 3) (hI h 4) r.2) : (r.1 = -1 → X 1 (rI (rI h 2 f2) 1 f1)) ∧ (r.1 ≠ -1 → ∀ f q, HR f q (svPp ps s w) (svS s) → Rt (some (.inl r.1)) (hsH (rI (rI h 2 f2) 1 f1) f q)) := by
  have c := mkC_ci hC ho G
  refine ⟨fun e => ?_, fun e f q k => ?_⟩
  · rcases ho.o.2.2.2 with ⟨_, e2⟩ | ⟨e2, _⟩
    · rw [e2] at c
      exact K.1 e _ c (Kp.g21 _ _ _)
    · omega
  · exact K.2 e _ (c.hs k) ((Kp.g21 _ _ _).tr (Kp.hs _ _ _))
theorem mk_HR {h : Hp} {w ps : Int → Int} {s : Int} (hC : CI h w ps s) (f1 f2 : Int → Int) : HR (hI (rI (rI h 2 f2) 1 f1)) (hR (rI (rI h 2 f2) 1 f1) 12) ps s := HR.fc (fun q a b => by rw [hI_rI', hI_rI', if_neg (by omega), if_neg (by omega)]) hC.hr
theorem mk_St {h : Hp} {w ps : Int → Int} {s : Int} (hC : CI h w ps s) (f1 f2 : Int → Int) : St0 (hI (rI (rI h 2 f2) 1 f1)) 5 w := St0_fc (fun q a b => by rw [hI_rI', hI_rI', if_neg (by omega), if_neg (by omega)]) hC.st
theorem mk_HR0 {h : Hp} {w ps : Int → Int} {s : Int} (hC : CI h w ps s) : HR (hI h) (hR h 12) ps s := hC.hr
def s_X9_constant : CS := (xc 2 12 4, ap [(3, 0), (0, 0), (0, 0)] (fun wd v h Rt X =>
∃ w ps s, CI h w ps s ∧ (¬ (1 ≤ wd ∧ wd ≤ 8 ∧ 0 ≤ v ∧ v ≤ p2 wd - 1) → X 0 h) ∧ (1 ≤ wd ∧ wd ≤ 8 ∧ 0 ≤ v ∧ v ≤ p2 wd - 1 → mkC h w ps s (mk1 w 0 wd (-1) (-1) (-1) v (-1)) Rt X)))
set_option maxRecDepth 100000 in
set_option maxHeartbeats 4000000 in
theorem o_X9_constant : Obl true 1 4 (sp [(186, s_X9_isWord), (1, s_X0_count), (11, s_X0_makeConstant), (179, s_X9_keepMade)]) [] code_X9_constant s_X9_constant := by
  refine obl0x (by rfl) ?_
  intro wd r_wd v r_v h Rt X hh hf hs
  obtain ⟨w, ps, s, hC, h2, h3⟩ := hs
  have hW := hC.wf
  have hG := hC.gh
  have g0 := hG.n
  have nn := hW.nn
  by_cases z : 1 ≤ wd ∧ wd ≤ 8 ∧ 0 ≤ v ∧ v ≤ p2 wd - 1
  · have ho : MkO w (mk1 w 0 wd (-1) (-1) (-1) v (-1)) := mk1_ok hW (Box.i ⟨by omega, by omega, fun _ => by omega, fun _ => by omega, by omega, fun q => by omega, fun q => by omega, fun q => by omega, fun q => by omega, fun q => by omega, fun q => by omega, fun q => by omega, fun q => by omega, fun q => by omega, fun q => by omega, fun q => by omega, fun q => by omega, fun q => by omega⟩)
    have K := h3 z
    repeat' (first | refine gk_k ?_ | apply And.intro | (with_reducible assumption) | (intro h9; first | (exfalso; omega) | (simp only [rI_rI, rJ_rJ, hI_rI, hJ_rI, hI_rJ, hJ_rJ, hI_rR, hR_rI, hR_rJ, hN_rI, hN_rJ, svH_63, svH_66, rfH_63, wvH_63, wvH_62, wvH_67, wvH_68, wvH_69, sc_63, sc_n62, sc_n67, sc_n68, sc_n69, sc_n70, reduceIte, Nat.reduceEqDiff, eq_self, up_up, up_self, up_ne, ne_eq, not_false_eq_true, Int.reduceEq, Int.reduceNeg] at h9; first | (exfalso; omega) | skip) | skip) | exact ⟨w, ps, s, mk_HR hC _ _, mk_St hC _ _, hW.cts, g0, mkC_k hC ho K (by assumption)⟩ | refine Exists.intro w ?_ | exact hG | exact hW | exact h2 | exact h2 (by omega) | exact h3 | exact h3 (by omega) | omega | exact True.intro | (simp only [rI_rI, rJ_rJ, hI_rI, hJ_rI, hI_rJ, hJ_rJ, hI_rR, hR_rI, hR_rJ, hN_rI, hN_rJ, svH_63, svH_66, rfH_63, wvH_63, wvH_62, wvH_67, wvH_68, wvH_69, sc_63, sc_n62, sc_n67, sc_n68, sc_n69, sc_n70, reduceIte, Nat.reduceEqDiff, eq_self, up_up, up_self, up_ne, ne_eq, not_false_eq_true, Int.reduceEq, Int.reduceNeg]; omega))
  · have C := h2 z
    repeat' (first | apply And.intro | (with_reducible assumption) | (intro h9; first | (exfalso; omega) | (simp only [rI_rI, rJ_rJ, hI_rI, hJ_rI, hI_rJ, hJ_rJ, hI_rR, hR_rI, hR_rJ, hN_rI, hN_rJ, svH_63, svH_66, rfH_63, wvH_63, wvH_62, wvH_67, wvH_68, wvH_69, sc_63, sc_n62, sc_n67, sc_n68, sc_n69, sc_n70, reduceIte, Nat.reduceEqDiff, eq_self, up_up, up_self, up_ne, ne_eq, not_false_eq_true, Int.reduceEq, Int.reduceNeg] at h9; first | (exfalso; omega) | skip) | skip) | exact C | exact h2 | exact h2 (by omega) | exact h3 | exact h3 (by omega) | omega | exact True.intro | (simp only [rI_rI, rJ_rJ, hI_rI, hJ_rI, hI_rJ, hJ_rJ, hI_rR, hR_rI, hR_rJ, hN_rI, hN_rJ, svH_63, svH_66, rfH_63, wvH_63, wvH_62, wvH_67, wvH_68, wvH_69, sc_63, sc_n62, sc_n67, sc_n68, sc_n69, sc_n70, reduceIte, Nat.reduceEqDiff, eq_self, up_up, up_self, up_ne, ne_eq, not_false_eq_true, Int.reduceEq, Int.reduceNeg]; omega))
theorem m_X9_constant : MM 137 s_X9_constant := mm_of (own := 8) (by rfl) k_X9_constant (cl := [(186, s_X9_isWord), (1, s_X0_count), (11, s_X0_makeConstant), (179, s_X9_keepMade)]) ⟨m_X9_isWord, m_X0_count, m_X0_makeConstant, m_X9_keepMade, trivial⟩ o_X9_constant
def s_X9_unary : CS := (xc 3 18 4, ap [(3, 0), (0, 0), (0, 0)] (fun k a h Rt X =>
∃ w ps s, CI h w ps s ∧ (¬ (19 ≤ k ∧ k ≤ 20) → X 0 h) ∧ (19 ≤ k ∧ k ≤ 20 → ¬ (0 ≤ a ∧ a < w 0) → X 2 h) ∧ (19 ≤ k ∧ k ≤ 20 → 0 ≤ a ∧ a < w 0 → mkC h w ps s (mk1 w k (nd w a 1) a (-1) (-1) (-1) (-1)) Rt X)))
set_option maxRecDepth 100000 in
set_option maxHeartbeats 4000000 in
theorem o_X9_unary : Obl true 1 4 (sp [(181, s_X9_demandNode), (1, s_X0_count), (13, s_X0_makeUnary), (179, s_X9_keepMade)]) [] code_X9_unary s_X9_unary := by
  refine obl0x (by rfl) ?_
  intro k r_k a r_a h Rt X hh hf hs
  obtain ⟨w, ps, s, hC, h2, h3, h4⟩ := hs
  have hW := hC.wf
  have hG := hC.gh
  have g0 := hG.n
  have nn := hW.nn
  by_cases y : 19 ≤ k ∧ k ≤ 20
  · by_cases z : 0 ≤ a ∧ a < w 0
    · have wa := hW.wd z.1 z.2
      have ho : MkO w (mk1 w k (nd w a 1) a (-1) (-1) (-1) (-1)) := mk1_ok hW (Box.i ⟨by omega, by omega, fun _ => by omega, fun _ => by omega, by omega, fun q => by omega, fun q => by omega, fun q => by omega, fun q => by omega, fun q => by omega, fun q => by omega, fun q => by omega, fun q => by omega, fun q => by omega, fun q => by omega, fun q => by omega, fun q => by omega, fun q => by omega⟩)
      have K := h4 y z
      repeat' (first | refine gk_k ?_ | apply And.intro | (with_reducible assumption) | (intro h9; first | (exfalso; omega) | (simp only [rI_rI, rJ_rJ, hI_rI, hJ_rI, hI_rJ, hJ_rJ, hI_rR, hR_rI, hR_rJ, hN_rI, hN_rJ, svH_63, svH_66, rfH_63, wvH_63, wvH_62, wvH_67, wvH_68, wvH_69, sc_63, sc_n62, sc_n67, sc_n68, sc_n69, sc_n70, reduceIte, Nat.reduceEqDiff, eq_self, up_up, up_self, up_ne, ne_eq, not_false_eq_true, Int.reduceEq, Int.reduceNeg] at h9; first | (exfalso; omega) | skip) | skip) | exact ⟨w, ps, s, mk_HR hC _ _, mk_St hC _ _, hW.cts, g0, mkC_k hC ho K (by assumption)⟩ | refine Exists.intro w ?_ | exact hG | exact hW | exact h2 | exact h2 (by omega) | exact h3 | exact h3 (by omega) | exact h4 | exact h4 (by omega) | omega | exact True.intro | (simp only [rI_rI, rJ_rJ, hI_rI, hJ_rI, hI_rJ, hJ_rJ, hI_rR, hR_rI, hR_rJ, hN_rI, hN_rJ, svH_63, svH_66, rfH_63, wvH_63, wvH_62, wvH_67, wvH_68, wvH_69, sc_63, sc_n62, sc_n67, sc_n68, sc_n69, sc_n70, reduceIte, Nat.reduceEqDiff, eq_self, up_up, up_self, up_ne, ne_eq, not_false_eq_true, Int.reduceEq, Int.reduceNeg]; omega))
    · have C := h3 y z
      repeat' (first | apply And.intro | (with_reducible assumption) | (intro h9; first | (exfalso; omega) | (simp only [rI_rI, rJ_rJ, hI_rI, hJ_rI, hI_rJ, hJ_rJ, hI_rR, hR_rI, hR_rJ, hN_rI, hN_rJ, svH_63, svH_66, rfH_63, wvH_63, wvH_62, wvH_67, wvH_68, wvH_69, sc_63, sc_n62, sc_n67, sc_n68, sc_n69, sc_n70, reduceIte, Nat.reduceEqDiff, eq_self, up_up, up_self, up_ne, ne_eq, not_false_eq_true, Int.reduceEq, Int.reduceNeg] at h9; first | (exfalso; omega) | skip) | skip) | exact C | exact h2 | exact h2 (by omega) | exact h3 | exact h3 (by omega) | exact h4 | exact h4 (by omega) | omega | exact True.intro | (simp only [rI_rI, rJ_rJ, hI_rI, hJ_rI, hI_rJ, hJ_rJ, hI_rR, hR_rI, hR_rJ, hN_rI, hN_rJ, svH_63, svH_66, rfH_63, wvH_63, wvH_62, wvH_67, wvH_68, wvH_69, sc_63, sc_n62, sc_n67, sc_n68, sc_n69, sc_n70, reduceIte, Nat.reduceEqDiff, eq_self, up_up, up_self, up_ne, ne_eq, not_false_eq_true, Int.reduceEq, Int.reduceNeg]; omega))
  · have C := h2 y
    repeat' (first | apply And.intro | (with_reducible assumption) | (intro h9; first | (exfalso; omega) | (simp only [rI_rI, rJ_rJ, hI_rI, hJ_rI, hI_rJ, hJ_rJ, hI_rR, hR_rI, hR_rJ, hN_rI, hN_rJ, svH_63, svH_66, rfH_63, wvH_63, wvH_62, wvH_67, wvH_68, wvH_69, sc_63, sc_n62, sc_n67, sc_n68, sc_n69, sc_n70, reduceIte, Nat.reduceEqDiff, eq_self, up_up, up_self, up_ne, ne_eq, not_false_eq_true, Int.reduceEq, Int.reduceNeg] at h9; first | (exfalso; omega) | skip) | skip) | exact C | exact h2 | exact h2 (by omega) | exact h3 | exact h3 (by omega) | exact h4 | exact h4 (by omega) | omega | exact True.intro | (simp only [rI_rI, rJ_rJ, hI_rI, hJ_rI, hI_rJ, hJ_rJ, hI_rR, hR_rI, hR_rJ, hN_rI, hN_rJ, svH_63, svH_66, rfH_63, wvH_63, wvH_62, wvH_67, wvH_68, wvH_69, sc_63, sc_n62, sc_n67, sc_n68, sc_n69, sc_n70, reduceIte, Nat.reduceEqDiff, eq_self, up_up, up_self, up_ne, ne_eq, not_false_eq_true, Int.reduceEq, Int.reduceNeg]; omega))
theorem m_X9_unary : MM 139 s_X9_unary := mm_of (own := 8) (by rfl) k_X9_unary (cl := [(181, s_X9_demandNode), (1, s_X0_count), (13, s_X0_makeUnary), (179, s_X9_keepMade)]) ⟨m_X9_demandNode, m_X0_count, m_X0_makeUnary, m_X9_keepMade, trivial⟩ o_X9_unary
def s_X9_slice : CS := (xc 3 18 5, ap [(3, 0), (0, 0), (0, 0), (0, 0)] (fun a hi lo h Rt X =>
∃ w ps s, CI h w ps s ∧ (¬ (0 ≤ a ∧ a < w 0) → X 2 h) ∧ (0 ≤ a ∧ a < w 0 → ¬ (0 ≤ lo ∧ lo ≤ hi ∧ hi < nd w a 1) → X 0 h) ∧ (0 ≤ a ∧ a < w 0 → 0 ≤ lo ∧ lo ≤ hi ∧ hi < nd w a 1 → mkC h w ps s (mk1 w 21 (hi - lo + 1) a (-1) (-1) hi lo) Rt X)))
set_option maxRecDepth 100000 in
set_option maxHeartbeats 4000000 in
theorem o_X9_slice : Obl true 1 5 (sp [(181, s_X9_demandNode), (17, s_X0_canSlice), (1, s_X0_count), (14, s_X0_makeSlice), (179, s_X9_keepMade)]) [] code_X9_slice s_X9_slice := by
  refine obl0x (by rfl) ?_
  intro a r_a hi r_hi lo r_lo h Rt X hh hf hs
  obtain ⟨w, ps, s, hC, h2, h3, h4⟩ := hs
  have hW := hC.wf
  have hG := hC.gh
  have g0 := hG.n
  have nn := hW.nn
  by_cases z : 0 ≤ a ∧ a < w 0
  · have wa := hW.wd z.1 z.2
    have c1 := hG.k1 z.1 z.2
    by_cases y : 0 ≤ lo ∧ lo ≤ hi ∧ hi < nd w a 1
    · have ho : MkO w (mk1 w 21 (hi - lo + 1) a (-1) (-1) hi lo) := mk1_ok hW (Box.i ⟨by omega, by omega, fun _ => by omega, fun _ => by omega, by omega, fun q => by omega, fun q => by omega, fun q => by omega, fun q => by omega, fun q => by omega, fun q => by omega, fun q => by omega, fun q => by omega, fun q => by omega, fun q => by omega, fun q => by omega, fun q => by omega, fun q => by omega⟩)
      have K := h4 z y
      repeat' (first | refine gk_k ?_ | apply And.intro | (with_reducible assumption) | (intro h9; first | (exfalso; omega) | (simp only [rI_rI, rJ_rJ, hI_rI, hJ_rI, hI_rJ, hJ_rJ, hI_rR, hR_rI, hR_rJ, hN_rI, hN_rJ, svH_63, svH_66, rfH_63, wvH_63, wvH_62, wvH_67, wvH_68, wvH_69, sc_63, sc_n62, sc_n67, sc_n68, sc_n69, sc_n70, reduceIte, Nat.reduceEqDiff, eq_self, up_up, up_self, up_ne, ne_eq, not_false_eq_true, Int.reduceEq, Int.reduceNeg] at h9; first | (exfalso; omega) | skip) | skip) | exact ⟨w, ps, s, mk_HR hC _ _, mk_St hC _ _, hW.cts, g0, mkC_k hC ho K (by assumption)⟩ | refine Exists.intro w ?_ | exact hG | exact hW | exact h2 | exact h2 (by omega) | exact h3 | exact h3 (by omega) | exact h4 | exact h4 (by omega) | omega | exact True.intro | (simp only [rI_rI, rJ_rJ, hI_rI, hJ_rI, hI_rJ, hJ_rJ, hI_rR, hR_rI, hR_rJ, hN_rI, hN_rJ, svH_63, svH_66, rfH_63, wvH_63, wvH_62, wvH_67, wvH_68, wvH_69, sc_63, sc_n62, sc_n67, sc_n68, sc_n69, sc_n70, reduceIte, Nat.reduceEqDiff, eq_self, up_up, up_self, up_ne, ne_eq, not_false_eq_true, Int.reduceEq, Int.reduceNeg]; omega))
    · have C := h3 z y
      repeat' (first | apply And.intro | (with_reducible assumption) | (intro h9; first | (exfalso; omega) | (simp only [rI_rI, rJ_rJ, hI_rI, hJ_rI, hI_rJ, hJ_rJ, hI_rR, hR_rI, hR_rJ, hN_rI, hN_rJ, svH_63, svH_66, rfH_63, wvH_63, wvH_62, wvH_67, wvH_68, wvH_69, sc_63, sc_n62, sc_n67, sc_n68, sc_n69, sc_n70, reduceIte, Nat.reduceEqDiff, eq_self, up_up, up_self, up_ne, ne_eq, not_false_eq_true, Int.reduceEq, Int.reduceNeg] at h9; first | (exfalso; omega) | skip) | skip) | exact C | exact h2 | exact h2 (by omega) | exact h3 | exact h3 (by omega) | exact h4 | exact h4 (by omega) | omega | exact True.intro | (simp only [rI_rI, rJ_rJ, hI_rI, hJ_rI, hI_rJ, hJ_rJ, hI_rR, hR_rI, hR_rJ, hN_rI, hN_rJ, svH_63, svH_66, rfH_63, wvH_63, wvH_62, wvH_67, wvH_68, wvH_69, sc_63, sc_n62, sc_n67, sc_n68, sc_n69, sc_n70, reduceIte, Nat.reduceEqDiff, eq_self, up_up, up_self, up_ne, ne_eq, not_false_eq_true, Int.reduceEq, Int.reduceNeg]; omega))
  · have C := h2 z
    repeat' (first | apply And.intro | (with_reducible assumption) | (intro h9; first | (exfalso; omega) | (simp only [rI_rI, rJ_rJ, hI_rI, hJ_rI, hI_rJ, hJ_rJ, hI_rR, hR_rI, hR_rJ, hN_rI, hN_rJ, svH_63, svH_66, rfH_63, wvH_63, wvH_62, wvH_67, wvH_68, wvH_69, sc_63, sc_n62, sc_n67, sc_n68, sc_n69, sc_n70, reduceIte, Nat.reduceEqDiff, eq_self, up_up, up_self, up_ne, ne_eq, not_false_eq_true, Int.reduceEq, Int.reduceNeg] at h9; first | (exfalso; omega) | skip) | skip) | exact C | exact h2 | exact h2 (by omega) | exact h3 | exact h3 (by omega) | exact h4 | exact h4 (by omega) | omega | exact True.intro | (simp only [rI_rI, rJ_rJ, hI_rI, hJ_rI, hI_rJ, hJ_rJ, hI_rR, hR_rI, hR_rJ, hN_rI, hN_rJ, svH_63, svH_66, rfH_63, wvH_63, wvH_62, wvH_67, wvH_68, wvH_69, sc_63, sc_n62, sc_n67, sc_n68, sc_n69, sc_n70, reduceIte, Nat.reduceEqDiff, eq_self, up_up, up_self, up_ne, ne_eq, not_false_eq_true, Int.reduceEq, Int.reduceNeg]; omega))
theorem m_X9_slice : MM 140 s_X9_slice := mm_of (own := 8) (by rfl) k_X9_slice (cl := [(181, s_X9_demandNode), (17, s_X0_canSlice), (1, s_X0_count), (14, s_X0_makeSlice), (179, s_X9_keepMade)]) ⟨m_X9_demandNode, m_X0_canSlice, m_X0_count, m_X0_makeSlice, m_X9_keepMade, trivial⟩ o_X9_slice
def s_X9_extend : CS := (xc 3 18 5, ap [(3, 0), (0, 0), (0, 0), (0, 0)] (fun a wd g h Rt X =>
∃ w ps s, CI h w ps s ∧ (¬ (0 ≤ a ∧ a < w 0) → X 2 h) ∧ (0 ≤ a ∧ a < w 0 → ¬ (nd w a 1 < wd ∧ wd ≤ 8) → X 0 h) ∧ (0 ≤ a ∧ a < w 0 → nd w a 1 < wd ∧ wd ≤ 8 → mkC h w ps s (mk1 w (if g = 0 then 22 else 23) wd a (-1) (-1) (-1) (-1)) Rt X)))
set_option maxRecDepth 100000 in
set_option maxHeartbeats 4000000 in
theorem o_X9_extend : Obl true 1 5 (sp [(181, s_X9_demandNode), (18, s_X0_canExtend), (1, s_X0_count), (15, s_X0_makeExtended), (179, s_X9_keepMade)]) [] code_X9_extend s_X9_extend := by
  refine obl0x (by rfl) ?_
  intro a r_a wd r_wd g r_g h Rt X hh hf hs
  obtain ⟨w, ps, s, hC, h2, h3, h4⟩ := hs
  have hW := hC.wf
  have hG := hC.gh
  have g0 := hG.n
  have nn := hW.nn
  by_cases z : 0 ≤ a ∧ a < w 0
  · have wa := hW.wd z.1 z.2
    have c1 := hG.k1 z.1 z.2
    by_cases y : nd w a 1 < wd ∧ wd ≤ 8
    · have K := h4 z y
      by_cases x : g = 0
      · rw [if_pos x] at K
        have ho : MkO w (mk1 w 22 wd a (-1) (-1) (-1) (-1)) := mk1_ok hW (Box.i ⟨by omega, by omega, fun _ => by omega, fun _ => by omega, by omega, fun q => by omega, fun q => by omega, fun q => by omega, fun q => by omega, fun q => by omega, fun q => by omega, fun q => by omega, fun q => by omega, fun q => by omega, fun q => by omega, fun q => by omega, fun q => by omega, fun q => by omega⟩)
        repeat' (first | refine gk_k ?_ | apply And.intro | (with_reducible assumption) | (intro h9; first | (exfalso; omega) | (simp only [rI_rI, rJ_rJ, hI_rI, hJ_rI, hI_rJ, hJ_rJ, hI_rR, hR_rI, hR_rJ, hN_rI, hN_rJ, svH_63, svH_66, rfH_63, wvH_63, wvH_62, wvH_67, wvH_68, wvH_69, sc_63, sc_n62, sc_n67, sc_n68, sc_n69, sc_n70, reduceIte, Nat.reduceEqDiff, eq_self, up_up, up_self, up_ne, ne_eq, not_false_eq_true, Int.reduceEq, Int.reduceNeg] at h9; first | (exfalso; omega) | skip) | skip) | exact ⟨w, ps, s, mk_HR hC _ _, mk_St hC _ _, hW.cts, g0, mkC_k hC ho K (by assumption)⟩ | refine Exists.intro w ?_ | exact hG | exact hW | exact h2 | exact h2 (by omega) | exact h3 | exact h3 (by omega) | exact h4 | exact h4 (by omega) | omega | exact True.intro | (simp only [rI_rI, rJ_rJ, hI_rI, hJ_rI, hI_rJ, hJ_rJ, hI_rR, hR_rI, hR_rJ, hN_rI, hN_rJ, svH_63, svH_66, rfH_63, wvH_63, wvH_62, wvH_67, wvH_68, wvH_69, sc_63, sc_n62, sc_n67, sc_n68, sc_n69, sc_n70, reduceIte, Nat.reduceEqDiff, eq_self, up_up, up_self, up_ne, ne_eq, not_false_eq_true, Int.reduceEq, Int.reduceNeg]; omega))
      · rw [if_neg x] at K
        have ho : MkO w (mk1 w 23 wd a (-1) (-1) (-1) (-1)) := mk1_ok hW (Box.i ⟨by omega, by omega, fun _ => by omega, fun _ => by omega, by omega, fun q => by omega, fun q => by omega, fun q => by omega, fun q => by omega, fun q => by omega, fun q => by omega, fun q => by omega, fun q => by omega, fun q => by omega, fun q => by omega, fun q => by omega, fun q => by omega, fun q => by omega⟩)
        repeat' (first | refine gk_k ?_ | apply And.intro | (with_reducible assumption) | (intro h9; first | (exfalso; omega) | (simp only [rI_rI, rJ_rJ, hI_rI, hJ_rI, hI_rJ, hJ_rJ, hI_rR, hR_rI, hR_rJ, hN_rI, hN_rJ, svH_63, svH_66, rfH_63, wvH_63, wvH_62, wvH_67, wvH_68, wvH_69, sc_63, sc_n62, sc_n67, sc_n68, sc_n69, sc_n70, reduceIte, Nat.reduceEqDiff, eq_self, up_up, up_self, up_ne, ne_eq, not_false_eq_true, Int.reduceEq, Int.reduceNeg] at h9; first | (exfalso; omega) | skip) | skip) | exact ⟨w, ps, s, mk_HR hC _ _, mk_St hC _ _, hW.cts, g0, mkC_k hC ho K (by assumption)⟩ | refine Exists.intro w ?_ | exact hG | exact hW | exact h2 | exact h2 (by omega) | exact h3 | exact h3 (by omega) | exact h4 | exact h4 (by omega) | omega | exact True.intro | (simp only [rI_rI, rJ_rJ, hI_rI, hJ_rI, hI_rJ, hJ_rJ, hI_rR, hR_rI, hR_rJ, hN_rI, hN_rJ, svH_63, svH_66, rfH_63, wvH_63, wvH_62, wvH_67, wvH_68, wvH_69, sc_63, sc_n62, sc_n67, sc_n68, sc_n69, sc_n70, reduceIte, Nat.reduceEqDiff, eq_self, up_up, up_self, up_ne, ne_eq, not_false_eq_true, Int.reduceEq, Int.reduceNeg]; omega))
    · have C := h3 z y
      repeat' (first | apply And.intro | (with_reducible assumption) | (intro h9; first | (exfalso; omega) | (simp only [rI_rI, rJ_rJ, hI_rI, hJ_rI, hI_rJ, hJ_rJ, hI_rR, hR_rI, hR_rJ, hN_rI, hN_rJ, svH_63, svH_66, rfH_63, wvH_63, wvH_62, wvH_67, wvH_68, wvH_69, sc_63, sc_n62, sc_n67, sc_n68, sc_n69, sc_n70, reduceIte, Nat.reduceEqDiff, eq_self, up_up, up_self, up_ne, ne_eq, not_false_eq_true, Int.reduceEq, Int.reduceNeg] at h9; first | (exfalso; omega) | skip) | skip) | exact C | exact h2 | exact h2 (by omega) | exact h3 | exact h3 (by omega) | exact h4 | exact h4 (by omega) | omega | exact True.intro | (simp only [rI_rI, rJ_rJ, hI_rI, hJ_rI, hI_rJ, hJ_rJ, hI_rR, hR_rI, hR_rJ, hN_rI, hN_rJ, svH_63, svH_66, rfH_63, wvH_63, wvH_62, wvH_67, wvH_68, wvH_69, sc_63, sc_n62, sc_n67, sc_n68, sc_n69, sc_n70, reduceIte, Nat.reduceEqDiff, eq_self, up_up, up_self, up_ne, ne_eq, not_false_eq_true, Int.reduceEq, Int.reduceNeg]; omega))
  · have C := h2 z
    repeat' (first | apply And.intro | (with_reducible assumption) | (intro h9; first | (exfalso; omega) | (simp only [rI_rI, rJ_rJ, hI_rI, hJ_rI, hI_rJ, hJ_rJ, hI_rR, hR_rI, hR_rJ, hN_rI, hN_rJ, svH_63, svH_66, rfH_63, wvH_63, wvH_62, wvH_67, wvH_68, wvH_69, sc_63, sc_n62, sc_n67, sc_n68, sc_n69, sc_n70, reduceIte, Nat.reduceEqDiff, eq_self, up_up, up_self, up_ne, ne_eq, not_false_eq_true, Int.reduceEq, Int.reduceNeg] at h9; first | (exfalso; omega) | skip) | skip) | exact C | exact h2 | exact h2 (by omega) | exact h3 | exact h3 (by omega) | exact h4 | exact h4 (by omega) | omega | exact True.intro | (simp only [rI_rI, rJ_rJ, hI_rI, hJ_rI, hI_rJ, hJ_rJ, hI_rR, hR_rI, hR_rJ, hN_rI, hN_rJ, svH_63, svH_66, rfH_63, wvH_63, wvH_62, wvH_67, wvH_68, wvH_69, sc_63, sc_n62, sc_n67, sc_n68, sc_n69, sc_n70, reduceIte, Nat.reduceEqDiff, eq_self, up_up, up_self, up_ne, ne_eq, not_false_eq_true, Int.reduceEq, Int.reduceNeg]; omega))
theorem m_X9_extend : MM 141 s_X9_extend := mm_of (own := 8) (by rfl) k_X9_extend (cl := [(181, s_X9_demandNode), (18, s_X0_canExtend), (1, s_X0_count), (15, s_X0_makeExtended), (179, s_X9_keepMade)]) ⟨m_X9_demandNode, m_X0_canExtend, m_X0_count, m_X0_makeExtended, m_X9_keepMade, trivial⟩ o_X9_extend

/-! ===== the class's methods: its searches ===== -/
def fl (k gr sg : Int) : Int := bXor (if gr = 0 then p2 k - 1 else 0) (if sg = 0 then 0 else sShl 1 (k - 1))
def flV (k gr sg x : Int) : Int := if gr = 0 then (if sg = 0 then p2 k - 1 - x else p2 k - 1 - (sgn x k + p2 (k - 1))) else (if sg = 0 then x else sgn x k + p2 (k - 1))
def flC (k x a b : Int) : Bool := decide (bXor x (fl k a b) = flV k a b x) && decide (bXor (flV k a b x) (fl k a b) = x) && decide (0 ≤ fl k a b) && decide (fl k a b < p2 k)
def flT (k x : Nat) : Bool := decide (k = 0) || decide (p2 k ≤ x) || (flC k x 0 0 && flC k x 0 1 && flC k x 1 0 && flC k x 1 1)
theorem fl_tab : ∀ k : Nat, k < 9 → ∀ x : Nat, x < 256 → flT k x = true := by decide +kernel
theorem fl_all (k : Nat) (h : k < 9) (h1 : 1 ≤ k) (x : Nat) (hx : x < 256) (hp : (x : Int) < p2 k) (a : Nat) (ha : a < 2) (b : Nat) (hb : b < 2) : (bXor x (fl k a b) = flV k a b x ∧ bXor (flV k a b x) (fl k a b) = x) ∧ 0 ≤ fl k a b ∧ fl k a b < p2 k := by
  have e := fl_tab k h x hx
  unfold flT at e
  rw [decide_eq_false (by omega), decide_eq_false (by omega), Bool.false_or, Bool.false_or] at e
  simp only [Bool.and_eq_true] at e
  obtain ⟨⟨⟨e1, e2⟩, e3⟩, e4⟩ := e
  have q : flC k x a b = true := by
    rcases (by omega : a = 0 ∨ a = 1) with rfl | rfl <;> rcases (by omega : b = 0 ∨ b = 1) with rfl | rfl
    · exact e1
    · exact e2
    · exact e3
    · exact e4
  unfold flC at q
  simp only [Bool.and_eq_true, decide_eq_true_eq] at q
  exact ⟨⟨q.1.1.1, q.1.1.2⟩, q.1.2, q.2⟩
theorem fl_01 (k gr sg : Int) : ∃ a b : Nat, a < 2 ∧ b < 2 ∧ (gr = 0 ↔ (a : Int) = 0) ∧ (sg = 0 ↔ (b : Int) = 0) ∧ fl k gr sg = fl k a b ∧ ∀ x, flV k gr sg x = flV k a b x := by
  refine ⟨if gr = 0 then 0 else 1, if sg = 0 then 0 else 1, by split <;> omega, by split <;> omega, by split <;> simp [*], by split <;> simp [*], ?_, fun x => ?_⟩
  · unfold fl
    split <;> split <;> simp [*]
  · unfold flV
    split <;> split <;> simp [*]
theorem fl_x {k gr sg x : Int} (k1 : 1 ≤ k) (k8 : k ≤ 8) (x0 : 0 ≤ x) (x1 : x < p2 k) : bXor x (fl k gr sg) = flV k gr sg x ∧ bXor (flV k gr sg x) (fl k gr sg) = x ∧ 0 ≤ fl k gr sg ∧ fl k gr sg < p2 k := by
  obtain ⟨a, b, ha, hb, -, -, e, e'⟩ := fl_01 k gr sg
  obtain ⟨k', rfl⟩ : ∃ k' : Nat, k = k' := ⟨k.toNat, by omega⟩
  obtain ⟨x', rfl⟩ : ∃ x' : Nat, x = x' := ⟨x.toNat, by omega⟩
  have p8 := p2_le8 k8
  have r := fl_all k' (by omega) (by omega) x' (by omega) x1 a ha b hb
  rw [e, e']
  exact ⟨r.1.1, r.1.2, r.2.1, r.2.2⟩
theorem isB_mono {P : Int → Bool} {g g' : Int → Int} {m r : Int} (h : isB P g m r) (e : ∀ a b, P a = true → P b = true → (g a ≤ g b ↔ g' a ≤ g' b)) : isB P g' m r := by
  rcases h.o with q | ⟨h1, h2, h3, h4⟩
  · exact Box.i (Or.inl q)
  · refine Box.i (Or.inr ⟨h1, h2, h3, fun N a b c => ?_⟩)
    have q := h4 N a b c
    have e1 := e N r c h3
    have e2 := e r N h3 c
    exact ⟨e1.mp q.1, fun z => q.2 (by have := e2.mpr (by omega); omega)⟩
theorem ext_isB {w : Int → Int} (hW : WF w) {n gr sg r : Int} (n0 : 0 ≤ n) (n1 : n < w 0) (h : isB (mdl w) (goalV w 0 n (-1) (fl (nd w n 1) gr sg)) (tot w) r) : isB (mdl w) (gS w n gr sg) (tot w) r := by
  have wd := hW.wd n0 n1
  refine isB_mono h fun a b _ _ => ?_
  have ra := hW.vr (asg_ev w a) n0 n1
  have rb := hW.vr (asg_ev w b) n0 n1
  unfold goalV gS gV rd
  rw [if_pos rfl, if_pos rfl, (fl_x wd.1 wd.2 ra.1 ra.2).1, (fl_x wd.1 wd.2 rb.1 rb.2).1]
  unfold flV
  by_cases z : gr = 0 <;> by_cases y : sg = 0 <;> simp only [z, y, if_true, if_false, reduceIte] <;> omega
theorem ext_val {w : Int → Int} (hW : WF w) {n gr sg r : Int} (n0 : 0 ≤ n) (n1 : n < w 0) (hr : r ≠ -1) : bXor (bsv (goalV w 0 n (-1) (fl (nd w n 1) gr sg)) r) (fl (nd w n 1) gr sg) = vl w (asg w r) n ∧ bsv (goalV w 0 n (-1) (fl (nd w n 1) gr sg)) r ≠ -1 := by
  have wd := hW.wd n0 n1
  have ra := hW.vr (asg_ev w r) n0 n1
  have q := fl_x (gr := gr) (sg := sg) wd.1 wd.2 ra.1 ra.2
  have c : ClP w 0 n (-1) (fl (nd w n 1) gr sg) := Box.i (Or.inl ⟨rfl, n0, n1, rfl, q.2.2.1, q.2.2.2⟩)
  have g := goalV_rng hW c r
  have e : bsv (goalV w 0 n (-1) (fl (nd w n 1) gr sg)) r = goalV w 0 n (-1) (fl (nd w n 1) gr sg) r := if_neg hr
  rw [e]
  refine ⟨?_, by omega⟩
  unfold goalV
  rw [if_pos rfl, q.1]
  exact q.2.1
theorem gn_goal (w : Int → Int) : goalV w 2 (-1) (-1) 0 = gnA w := by
  funext N
  unfold goalV
  rw [if_neg (by decide), if_pos rfl]
theorem df_isB {w : Int → Int} {a b r : Int} (h : isB (mdl w) (goalV w 1 a b 0) (tot w) r) (t0 : 0 ≤ tot w) : (dfM w a b = -1 → bsv (goalV w 1 a b 0) r ≠ 1) ∧ (dfM w a b ≠ -1 → bsv (goalV w 1 a b 0) r = 1 ∧ r = dfM w a b) := by
  have G : ∀ N, goalV w 1 a b 0 N = if vl w (asg w N) a = vl w (asg w N) b then 0 else 1 := fun N => by
    unfold goalV
    rw [if_neg (by decide), if_neg (by decide)]
  refine ⟨fun d => ?_, fun d => ?_⟩
  · unfold bsv
    rcases h.o with ⟨rfl, -⟩ | ⟨h1, h2, h3, h4⟩
    · rw [if_pos rfl]; decide
    · have q := fst_none.mp d r.toNat (by omega)
      rw [if_neg (by omega), G]
      have e : ((r.toNat : Nat) : Int) = r := by omega
      rw [e, h3, Bool.true_and, decide_eq_false_iff_not, Decidable.not_not] at q
      rw [if_pos q]; decide
  · obtain ⟨d0, d1, d2, d3⟩ := fst_some d
    rw [Bool.and_eq_true, decide_eq_true_iff] at d2
    have e : fst (fun N => mdl w N && decide (vl w (asg w N) a ≠ vl w (asg w N) b)) (tot w).toNat = dfM w a b := rfl
    rw [e] at d0 d1 d2 d3
    rcases h.o with ⟨-, h1⟩ | ⟨h1, h2, h3, h4⟩
    · rw [h1 _ d0 (by omega)] at d2
      cases d2.1
    · have q := h4 _ d0 (by omega) d2.1
      rw [G, G, if_neg d2.2] at q
      by_cases z : vl w (asg w r) a = vl w (asg w r) b
      · rw [if_pos z] at q
        omega
      · rw [if_neg z] at q
        have e2 : r ≤ dfM w a b := q.2 rfl
        have e3 : r = dfM w a b := by
          by_cases y : r < dfM w a b
          · have k := d3 r h1 y
            rw [h3, Bool.true_and, decide_eq_false_iff_not] at k
            exact absurd z k
          · omega
        refine ⟨?_, e3⟩
        unfold bsv
        rw [if_neg (by omega), G, if_neg z]
def s_X9_satisfiable : CS := (zc 7, ap [(3, 0)] (fun  h Rt X =>
∃ w ps s, CI h w ps s ∧ (nxt w 0 = -1 → Go h w ps s (Rt (some (.inl 0)))) ∧ (nxt w 0 ≠ -1 → Go h w ps s (Rt (some (.inl 1))))))
set_option maxRecDepth 100000 in
set_option maxHeartbeats 4000000 in
theorem o_X9_satisfiable : Obl true 2 1 (sp [(97, s_X5_leastModel)]) [] code_X9_satisfiable s_X9_satisfiable := by
  refine obl0 (by rfl) ?_
  intro  h Rt X hh hf hs
  obtain ⟨w, ps, s, hC, h2, h3⟩ := hs
  have hW := hC.wf
  have hG := hC.gh
  have hS := hC.st
  have hK := hC.sk
  by_cases z : nxt w 0 = -1
  · have C : ∀ F R Q L, FM w (hI h 46) F L → Rt (some (.inl 0)) (se h F R Q L) := fun F R Q L hf => h2 z _ (hC.se hf.sk R Q) (Kp.se h F R Q L)
    repeat' (first | apply And.intro | (with_reducible assumption) | (intro h9; first | (exfalso; omega) | (simp only [rI_rI, rJ_rJ, hI_rI, hJ_rI, hI_rJ, hJ_rJ, hI_rR, hR_rI, hR_rJ, hN_rI, hN_rJ, svH_63, svH_66, rfH_63, wvH_63, wvH_62, wvH_67, wvH_68, wvH_69, sc_63, sc_n62, sc_n67, sc_n68, sc_n69, sc_n70, reduceIte, Nat.reduceEqDiff, eq_self, up_up, up_self, up_ne, ne_eq, not_false_eq_true, Int.reduceEq, Int.reduceNeg] at h9; first | (exfalso; omega) | skip) | skip) | refine Exists.intro w ?_ | exact hG | exact hW | exact hS | exact hK | exact C _ _ _ _ (by assumption) | exact h2 | exact h2 (by omega) | exact h3 | exact h3 (by omega) | omega | exact True.intro | (simp only [rI_rI, rJ_rJ, hI_rI, hJ_rI, hI_rJ, hJ_rJ, hI_rR, hR_rI, hR_rJ, hN_rI, hN_rJ, svH_63, svH_66, rfH_63, wvH_63, wvH_62, wvH_67, wvH_68, wvH_69, sc_63, sc_n62, sc_n67, sc_n68, sc_n69, sc_n70, reduceIte, Nat.reduceEqDiff, eq_self, up_up, up_self, up_ne, ne_eq, not_false_eq_true, Int.reduceEq, Int.reduceNeg]; omega))
  · have C : ∀ F R Q L, FM w (hI h 46) F L → Rt (some (.inl 1)) (se h F R Q L) := fun F R Q L hf => h3 z _ (hC.se hf.sk R Q) (Kp.se h F R Q L)
    repeat' (first | apply And.intro | (with_reducible assumption) | (intro h9; first | (exfalso; omega) | (simp only [rI_rI, rJ_rJ, hI_rI, hJ_rI, hI_rJ, hJ_rJ, hI_rR, hR_rI, hR_rJ, hN_rI, hN_rJ, svH_63, svH_66, rfH_63, wvH_63, wvH_62, wvH_67, wvH_68, wvH_69, sc_63, sc_n62, sc_n67, sc_n68, sc_n69, sc_n70, reduceIte, Nat.reduceEqDiff, eq_self, up_up, up_self, up_ne, ne_eq, not_false_eq_true, Int.reduceEq, Int.reduceNeg] at h9; first | (exfalso; omega) | skip) | skip) | refine Exists.intro w ?_ | exact hG | exact hW | exact hS | exact hK | exact C _ _ _ _ (by assumption) | exact h2 | exact h2 (by omega) | exact h3 | exact h3 (by omega) | omega | exact True.intro | (simp only [rI_rI, rJ_rJ, hI_rI, hJ_rI, hI_rJ, hJ_rJ, hI_rR, hR_rI, hR_rJ, hN_rI, hN_rJ, svH_63, svH_66, rfH_63, wvH_63, wvH_62, wvH_67, wvH_68, wvH_69, sc_63, sc_n62, sc_n67, sc_n68, sc_n69, sc_n70, reduceIte, Nat.reduceEqDiff, eq_self, up_up, up_self, up_ne, ne_eq, not_false_eq_true, Int.reduceEq, Int.reduceNeg]; omega))
theorem m_X9_satisfiable : MM 153 s_X9_satisfiable := mm_of (own := 8) (by rfl) k_X9_satisfiable (cl := [(97, s_X5_leastModel)]) ⟨m_X5_leastModel, trivial⟩ o_X9_satisfiable
def s_X9_witness : CS := (xc 1 6 7, ap [(3, 0), (0, 0)] (fun v h Rt X =>
∃ w ps s, CI h w ps s ∧ (¬ (0 ≤ v ∧ v < w 281) → X 2 h) ∧ (0 ≤ v ∧ v < w 281 → Go h w ps s (Rt (some (.inl (wrd w (nxt w 0) v)))))))
set_option maxRecDepth 100000 in
set_option maxHeartbeats 4000000 in
theorem o_X9_witness : Obl true 1 2 (sp [(182, s_X9_demandVariable), (97, s_X5_leastModel), (32, s_X0_variableWord)]) [] code_X9_witness s_X9_witness := by
  refine obl0x (by rfl) ?_
  intro v r_v h Rt X hh hf hs
  obtain ⟨w, ps, s, hC, h2, h3⟩ := hs
  have hW := hC.wf
  have hG := hC.gh
  have hS := hC.st
  have hK := hC.sk
  have g1 := hG.v
  have lt := nxt_lt hW 0
  by_cases z : 0 ≤ v ∧ v < w 281
  · have G : ∀ F R Q L, GH (se h F R Q L) w := fun F R Q L => by exact hG
    have C : ∀ F R Q L, FM w (hI h 46) F L → Rt (some (.inl (wrd w (nxt w 0) v))) (se h F R Q L) := fun F R Q L hf => h3 z _ (hC.se hf.sk R Q) (Kp.se h F R Q L)
    repeat' (first | apply And.intro | (with_reducible assumption) | (intro h9; first | (exfalso; omega) | (simp only [rI_rI, rJ_rJ, hI_rI, hJ_rI, hI_rJ, hJ_rJ, hI_rR, hR_rI, hR_rJ, hN_rI, hN_rJ, svH_63, svH_66, rfH_63, wvH_63, wvH_62, wvH_67, wvH_68, wvH_69, sc_63, sc_n62, sc_n67, sc_n68, sc_n69, sc_n70, reduceIte, Nat.reduceEqDiff, eq_self, up_up, up_self, up_ne, ne_eq, not_false_eq_true, Int.reduceEq, Int.reduceNeg] at h9; first | (exfalso; omega) | skip) | skip) | refine Exists.intro w ?_ | exact hG | exact hW | exact hS | exact hK | exact G _ _ _ _ | exact C _ _ _ _ (by assumption) | exact h2 | exact h2 (by omega) | exact h3 | exact h3 (by omega) | omega | exact True.intro | (simp only [rI_rI, rJ_rJ, hI_rI, hJ_rI, hI_rJ, hJ_rJ, hI_rR, hR_rI, hR_rJ, hN_rI, hN_rJ, svH_63, svH_66, rfH_63, wvH_63, wvH_62, wvH_67, wvH_68, wvH_69, sc_63, sc_n62, sc_n67, sc_n68, sc_n69, sc_n70, reduceIte, Nat.reduceEqDiff, eq_self, up_up, up_self, up_ne, ne_eq, not_false_eq_true, Int.reduceEq, Int.reduceNeg]; omega))
  · have C := h2 z
    repeat' (first | apply And.intro | (with_reducible assumption) | (intro h9; first | (exfalso; omega) | (simp only [rI_rI, rJ_rJ, hI_rI, hJ_rI, hI_rJ, hJ_rJ, hI_rR, hR_rI, hR_rJ, hN_rI, hN_rJ, svH_63, svH_66, rfH_63, wvH_63, wvH_62, wvH_67, wvH_68, wvH_69, sc_63, sc_n62, sc_n67, sc_n68, sc_n69, sc_n70, reduceIte, Nat.reduceEqDiff, eq_self, up_up, up_self, up_ne, ne_eq, not_false_eq_true, Int.reduceEq, Int.reduceNeg] at h9; first | (exfalso; omega) | skip) | skip) | exact C | exact h2 | exact h2 (by omega) | exact h3 | exact h3 (by omega) | omega | exact True.intro | (simp only [rI_rI, rJ_rJ, hI_rI, hJ_rI, hI_rJ, hJ_rJ, hI_rR, hR_rI, hR_rJ, hN_rI, hN_rJ, svH_63, svH_66, rfH_63, wvH_63, wvH_62, wvH_67, wvH_68, wvH_69, sc_63, sc_n62, sc_n67, sc_n68, sc_n69, sc_n70, reduceIte, Nat.reduceEqDiff, eq_self, up_up, up_self, up_ne, ne_eq, not_false_eq_true, Int.reduceEq, Int.reduceNeg]; omega))
theorem m_X9_witness : MM 154 s_X9_witness := mm_of (own := 8) (by rfl) k_X9_witness (cl := [(182, s_X9_demandVariable), (97, s_X5_leastModel), (32, s_X0_variableWord)]) ⟨m_X9_demandVariable, m_X5_leastModel, m_X0_variableWord, trivial⟩ o_X9_witness
def s_X9_models : CS := (xc 1 6 7, ap [(3, 0), (0, 0)] (fun l h Rt X =>
∃ w ps s, CI h w ps s ∧ (¬ (1 ≤ l ∧ l ≤ 200) → X 0 h) ∧ (1 ≤ l ∧ l ≤ 200 → Go h w ps s (Rt (some (.inl (if cntB (mdl w) (tot w).toNat < l then cntB (mdl w) (tot w).toNat else l)))))))
set_option maxRecDepth 100000 in
set_option maxHeartbeats 4000000 in
theorem o_X9_models : Obl true 1 2 (sp [(184, s_X9_demandLimit), (102, s_X5_countModels)]) [] code_X9_models s_X9_models := by
  refine obl0x (by rfl) ?_
  intro l r_l h Rt X hh hf hs
  obtain ⟨w, ps, s, hC, h2, h3⟩ := hs
  have hW := hC.wf
  have hG := hC.gh
  have hS := hC.st
  have hK := hC.sk
  by_cases z : 1 ≤ l ∧ l ≤ 200
  · have C : ∀ F R Q L, FM w (hI h 46) F L → Rt (some (.inl (if cntB (mdl w) (tot w).toNat < l then cntB (mdl w) (tot w).toNat else l))) (se h F R Q L) := fun F R Q L hf => h3 z _ (hC.se hf.sk R Q) (Kp.se h F R Q L)
    by_cases y : cntB (mdl w) (tot w).toNat < l
    · rw [if_pos y] at C
      repeat' (first | apply And.intro | (with_reducible assumption) | (intro h9; first | (exfalso; omega) | (simp only [rI_rI, rJ_rJ, hI_rI, hJ_rI, hI_rJ, hJ_rJ, hI_rR, hR_rI, hR_rJ, hN_rI, hN_rJ, svH_63, svH_66, rfH_63, wvH_63, wvH_62, wvH_67, wvH_68, wvH_69, sc_63, sc_n62, sc_n67, sc_n68, sc_n69, sc_n70, reduceIte, Nat.reduceEqDiff, eq_self, up_up, up_self, up_ne, ne_eq, not_false_eq_true, Int.reduceEq, Int.reduceNeg] at h9; first | (exfalso; omega) | skip) | skip) | refine Exists.intro w ?_ | exact hG | exact hW | exact hS | exact hK | exact C _ _ _ _ (by assumption) | exact h2 | exact h2 (by omega) | exact h3 | exact h3 (by omega) | omega | exact True.intro | (simp only [rI_rI, rJ_rJ, hI_rI, hJ_rI, hI_rJ, hJ_rJ, hI_rR, hR_rI, hR_rJ, hN_rI, hN_rJ, svH_63, svH_66, rfH_63, wvH_63, wvH_62, wvH_67, wvH_68, wvH_69, sc_63, sc_n62, sc_n67, sc_n68, sc_n69, sc_n70, reduceIte, Nat.reduceEqDiff, eq_self, up_up, up_self, up_ne, ne_eq, not_false_eq_true, Int.reduceEq, Int.reduceNeg]; omega))
    · rw [if_neg y] at C
      repeat' (first | apply And.intro | (with_reducible assumption) | (intro h9; first | (exfalso; omega) | (simp only [rI_rI, rJ_rJ, hI_rI, hJ_rI, hI_rJ, hJ_rJ, hI_rR, hR_rI, hR_rJ, hN_rI, hN_rJ, svH_63, svH_66, rfH_63, wvH_63, wvH_62, wvH_67, wvH_68, wvH_69, sc_63, sc_n62, sc_n67, sc_n68, sc_n69, sc_n70, reduceIte, Nat.reduceEqDiff, eq_self, up_up, up_self, up_ne, ne_eq, not_false_eq_true, Int.reduceEq, Int.reduceNeg] at h9; first | (exfalso; omega) | skip) | skip) | refine Exists.intro w ?_ | exact hG | exact hW | exact hS | exact hK | exact C _ _ _ _ (by assumption) | exact h2 | exact h2 (by omega) | exact h3 | exact h3 (by omega) | omega | exact True.intro | (simp only [rI_rI, rJ_rJ, hI_rI, hJ_rI, hI_rJ, hJ_rJ, hI_rR, hR_rI, hR_rJ, hN_rI, hN_rJ, svH_63, svH_66, rfH_63, wvH_63, wvH_62, wvH_67, wvH_68, wvH_69, sc_63, sc_n62, sc_n67, sc_n68, sc_n69, sc_n70, reduceIte, Nat.reduceEqDiff, eq_self, up_up, up_self, up_ne, ne_eq, not_false_eq_true, Int.reduceEq, Int.reduceNeg]; omega))
  · have C := h2 z
    repeat' (first | apply And.intro | (with_reducible assumption) | (intro h9; first | (exfalso; omega) | (simp only [rI_rI, rJ_rJ, hI_rI, hJ_rI, hI_rJ, hJ_rJ, hI_rR, hR_rI, hR_rJ, hN_rI, hN_rJ, svH_63, svH_66, rfH_63, wvH_63, wvH_62, wvH_67, wvH_68, wvH_69, sc_63, sc_n62, sc_n67, sc_n68, sc_n69, sc_n70, reduceIte, Nat.reduceEqDiff, eq_self, up_up, up_self, up_ne, ne_eq, not_false_eq_true, Int.reduceEq, Int.reduceNeg] at h9; first | (exfalso; omega) | skip) | skip) | exact C | exact h2 | exact h2 (by omega) | exact h3 | exact h3 (by omega) | omega | exact True.intro | (simp only [rI_rI, rJ_rJ, hI_rI, hJ_rI, hI_rJ, hJ_rJ, hI_rR, hR_rI, hR_rJ, hN_rI, hN_rJ, svH_63, svH_66, rfH_63, wvH_63, wvH_62, wvH_67, wvH_68, wvH_69, sc_63, sc_n62, sc_n67, sc_n68, sc_n69, sc_n70, reduceIte, Nat.reduceEqDiff, eq_self, up_up, up_self, up_ne, ne_eq, not_false_eq_true, Int.reduceEq, Int.reduceNeg]; omega))
theorem m_X9_models : MM 158 s_X9_models := mm_of (own := 8) (by rfl) k_X9_models (cl := [(184, s_X9_demandLimit), (102, s_X5_countModels)]) ⟨m_X9_demandLimit, m_X5_countModels, trivial⟩ o_X9_models
def s_X9_fixed : CS := (xc 1 6 7, ap [(3, 0), (0, 0), (0, 0)] (fun n g h Rt X =>
∃ w ps s, CI h w ps s ∧ (¬ (0 ≤ n ∧ n < w 0) → X 2 h) ∧ (0 ≤ n ∧ n < w 0 → nxt w 0 = -1 → Go h w ps s (Rt (some (.inl (-1))))) ∧ (0 ≤ n ∧ n < w 0 → nxt w 0 ≠ -1 → g ≠ 0 → Go h w ps s (Rt (some (.inl (fxA w n (tot w).toNat))))) ∧
(0 ≤ n ∧ n < w 0 → nxt w 0 ≠ -1 → g = 0 → Go h w ps s (Rt (some (.inl (bAnd (p2 (nd w n 1) - 1) (bXor (bXor (fxA w n (tot w).toNat) (fxO w n (tot w).toNat)) (-1)))))))))
set_option maxRecDepth 100000 in
set_option maxHeartbeats 4000000 in
theorem o_X9_fixed : Obl true 1 3 (sp [(181, s_X9_demandNode), (110, s_X5_fixedBits)]) [] code_X9_fixed s_X9_fixed := by
  refine obl0x (by rfl) ?_
  intro n r_n g r_g h Rt X hh hf hs
  obtain ⟨w, ps, s, hC, h2, h3, h4, h5⟩ := hs
  have hW := hC.wf
  have hG := hC.gh
  have hS := hC.st
  have hK := hC.sk
  have g0 := hG.n
  by_cases z : 0 ≤ n ∧ n < w 0
  · have S : ∀ F R Q L, FM w (hI h 46) F L → CI (se h F R Q L) w ps s := fun F R Q L hf => hC.se hf.sk R Q
    repeat' (first | apply And.intro | (with_reducible assumption) | (intro h9; first | (exfalso; omega) | (simp only [rI_rI, rJ_rJ, hI_rI, hJ_rI, hI_rJ, hJ_rJ, hI_rR, hR_rI, hR_rJ, hN_rI, hN_rJ, svH_63, svH_66, rfH_63, wvH_63, wvH_62, wvH_67, wvH_68, wvH_69, sc_63, sc_n62, sc_n67, sc_n68, sc_n69, sc_n70, reduceIte, Nat.reduceEqDiff, eq_self, up_up, up_self, up_ne, ne_eq, not_false_eq_true, Int.reduceEq, Int.reduceNeg] at h9; first | (exfalso; omega) | skip) | skip) | refine Exists.intro w ?_ | exact hG | exact hW | exact hS | exact hK | exact h3 z (by assumption) _ (S _ _ _ _ (by assumption)) (Kp.se _ _ _ _ _) | exact h4 z (by assumption) (by assumption) _ (S _ _ _ _ (by assumption)) (Kp.se _ _ _ _ _) | exact h5 z (by assumption) (by assumption) _ (S _ _ _ _ (by assumption)) (Kp.se _ _ _ _ _) | exact h2 | exact h2 (by omega) | exact h3 | exact h3 (by omega) | exact h4 | exact h4 (by omega) | exact h5 | exact h5 (by omega) | omega | exact True.intro | (simp only [rI_rI, rJ_rJ, hI_rI, hJ_rI, hI_rJ, hJ_rJ, hI_rR, hR_rI, hR_rJ, hN_rI, hN_rJ, svH_63, svH_66, rfH_63, wvH_63, wvH_62, wvH_67, wvH_68, wvH_69, sc_63, sc_n62, sc_n67, sc_n68, sc_n69, sc_n70, reduceIte, Nat.reduceEqDiff, eq_self, up_up, up_self, up_ne, ne_eq, not_false_eq_true, Int.reduceEq, Int.reduceNeg]; omega))
  · have C := h2 z
    repeat' (first | apply And.intro | (with_reducible assumption) | (intro h9; first | (exfalso; omega) | (simp only [rI_rI, rJ_rJ, hI_rI, hJ_rI, hI_rJ, hJ_rJ, hI_rR, hR_rI, hR_rJ, hN_rI, hN_rJ, svH_63, svH_66, rfH_63, wvH_63, wvH_62, wvH_67, wvH_68, wvH_69, sc_63, sc_n62, sc_n67, sc_n68, sc_n69, sc_n70, reduceIte, Nat.reduceEqDiff, eq_self, up_up, up_self, up_ne, ne_eq, not_false_eq_true, Int.reduceEq, Int.reduceNeg] at h9; first | (exfalso; omega) | skip) | skip) | exact C | exact h2 | exact h2 (by omega) | exact h3 | exact h3 (by omega) | exact h4 | exact h4 (by omega) | exact h5 | exact h5 (by omega) | omega | exact True.intro | (simp only [rI_rI, rJ_rJ, hI_rI, hJ_rI, hI_rJ, hJ_rJ, hI_rR, hR_rI, hR_rJ, hN_rI, hN_rJ, svH_63, svH_66, rfH_63, wvH_63, wvH_62, wvH_67, wvH_68, wvH_69, sc_63, sc_n62, sc_n67, sc_n68, sc_n69, sc_n70, reduceIte, Nat.reduceEqDiff, eq_self, up_up, up_self, up_ne, ne_eq, not_false_eq_true, Int.reduceEq, Int.reduceNeg]; omega))
theorem m_X9_fixed : MM 157 s_X9_fixed := mm_of (own := 8) (by rfl) k_X9_fixed (cl := [(181, s_X9_demandNode), (110, s_X5_fixedBits)]) ⟨m_X9_demandNode, m_X5_fixedBits, trivial⟩ o_X9_fixed

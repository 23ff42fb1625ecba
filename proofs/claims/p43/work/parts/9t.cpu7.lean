/-! ===== the class's methods: conflicts, texts, undo ===== -/
theorem und_ci {h : Hp} {w u ps : Int → Int} {s : Int} (hC : CI h w ps s) (hU : WF u) (e : ∀ j, 0 ≤ j → j < 349 → u j = rowP ps (s - 1) j) {f : Nat → Int → Int} (S : St0 (hI (nwH h f)) 5 (rowP ps (s - 1))) (k : HR (hI (nwH h f)) (hR h 12) ps (s - 1)) {x y : Int → Int} (G : GR x (hI h 2) (hI h 3) (hI h 4) u) (y4 : y 4 = 0) : CI (rI (rI (nwH h f) 1 x) 46 y) u ps (s - 1) ∧ Kp h (rI (rI (nwH h f) 1 x) 46 y) := by
  have q : ∀ a, hI (rI (rI (nwH h f) 1 x) 46 y) a = if a = 46 then y else if a = 1 then x else if 5 ≤ a ∧ a < 12 then f a else hI h a := fun a => rfl
  have nq : ∀ a, hI (nwH h f) a = if 5 ≤ a ∧ a < 12 then f a else hI h a := fun a => rfl
  refine ⟨Box.i ⟨G, hU, ?_, ?_, SK.no y4, hC.rn, hC.tl, hC.tx⟩, Box.i ⟨Box.i fun a h1 h2 => ⟨?_, rfl, rfl⟩, rfl, rfl⟩⟩
  · refine St0_fc (fun a a0 a1 => ?_) (St0_c2 (fun j j0 j1 => e j (by omega) j1) (Cts_c2 (fun j j0 j1 => (e j (by omega) j1).symm) hU.cts) S)
    rw [q, nq, if_neg (by omega), if_neg (by omega)]
  · refine HR.fc (fun a a0 a1 => ?_) k
    rw [q, nq, if_neg (by omega), if_neg (by omega)]
  · rw [q, if_neg (by omega), if_neg (by omega), if_neg (by omega)]
def s_X9_undo : CS := (xc 1 6 3, ap [(3, 0)] (fun  h Rt X =>
∃ w ps s, CI h w ps s ∧ (s = 0 → X 1 h) ∧ (s ≠ 0 → ∃ u, WF u ∧ Pfx u w ∧ (∀ j, 0 ≤ j → j < 349 → u j = rowP ps (s - 1) j) ∧ Go h u ps (s - 1) (Rt (some (.inl (s - 1)))))))
set_option maxRecDepth 100000 in
set_option maxHeartbeats 4000000 in
theorem o_X9_undo : Obl true 1 1 (sp [(34, s_X1_count), (37, s_X1_restore), (9, s_X0_cutTo), (96, s_X5_forget)]) [] code_X9_undo s_X9_undo := by
  refine obl0x (by rfl) ?_
  intro  h Rt X hh hf hs
  obtain ⟨w, ps, s, hC, h2, h3⟩ := hs
  have hW := hC.wf
  have hG := hC.gh
  obtain ⟨r1, r2, r3, _⟩ := hC.hr.o
  by_cases z : s = 0
  · have C := h2 z
    repeat' (first | apply And.intro | (with_reducible assumption) | (intro h9; first | (exfalso; omega) | (simp only [rI_rI, rJ_rJ, hI_rI, hJ_rI, hI_rJ, hJ_rJ, hI_rR, hR_rI, hR_rJ, hN_rI, hN_rJ, svH_63, svH_66, rfH_63, wvH_63, wvH_62, wvH_67, wvH_68, wvH_69, sc_63, sc_n62, sc_n67, sc_n68, sc_n69, sc_n70, reduceIte, Nat.reduceEqDiff, eq_self, up_up, up_self, up_ne, ne_eq, not_false_eq_true, Int.reduceEq, Int.reduceNeg] at h9; first | (exfalso; omega) | skip) | skip) | exact C | exact h2 | exact h2 (by omega) | exact h3 | exact h3 (by omega) | omega | exact True.intro | (simp only [rI_rI, rJ_rJ, hI_rI, hJ_rI, hI_rJ, hJ_rJ, hI_rR, hR_rI, hR_rJ, hN_rI, hN_rJ, svH_63, svH_66, rfH_63, wvH_63, wvH_62, wvH_67, wvH_68, wvH_69, sc_63, sc_n62, sc_n67, sc_n68, sc_n69, sc_n70, reduceIte, Nat.reduceEqDiff, eq_self, up_up, up_self, up_ne, ne_eq, not_false_eq_true, Int.reduceEq, Int.reduceNeg]; omega))
  · obtain ⟨u, hU, hP, e, K⟩ := h3 z
    have A : ∀ f, GH (nwH h f) w := fun f => hG
    have u0 : rowP ps (s - 1) 0 = u 0 := (e 0 (by decide) (by decide)).symm
    have C : ∀ f x y, St0 (hI (nwH h f)) 5 (rowP ps (s - 1)) → HR (hI (nwH h f)) (hR h 12) ps (s - 1) → GR x (hI h 2) (hI h 3) (hI h 4) u → y 4 = 0 → hI (rI (rI (nwH h f) 1 x) 46 y) 11 1 = s - 1 ∧ Rt (some (.inl (s - 1))) (rI (rI (nwH h f) 1 x) 46 y) := fun f x y S k G y4 => by
      have q := und_ci hC hU e S k G y4
      exact ⟨q.1.hr.o.1, K _ q.1 q.2⟩
    have C2 : ∀ f x y, St0 (hI (nwH h f)) 5 (rowP ps (s - 1)) → HR (hI (nwH h f)) (hR h 12) ps (s - 1) → GR x (hI h 2) (hI h 3) (hI h 4) u → y 4 = 0 → Rt (some (.inl (hI (rI (rI (nwH h f) 1 x) 46 y) 11 1))) (rI (rI (nwH h f) 1 x) 46 y) := fun f x y S k G y4 => by
      have q := C f x y S k G y4
      rw [q.1]
      exact q.2
    repeat' (first | apply And.intro | (with_reducible assumption) | (intro h9; first | (exfalso; omega) | (simp only [rI_rI, rJ_rJ, hI_rI, hJ_rI, hI_rJ, hJ_rJ, hI_rR, hR_rI, hR_rJ, hN_rI, hN_rJ, svH_63, svH_66, rfH_63, wvH_63, wvH_62, wvH_67, wvH_68, wvH_69, sc_63, sc_n62, sc_n67, sc_n68, sc_n69, sc_n70, reduceIte, Nat.reduceEqDiff, eq_self, up_up, up_self, up_ne, ne_eq, not_false_eq_true, Int.reduceEq, Int.reduceNeg] at h9; first | (exfalso; omega) | skip) | skip) | exact ⟨ps, s, hC.hr, by omega, fun _ _ _ _ => ?_⟩ | refine ⟨ps, s, hC.hr, by omega, fun f9 a9 b9 c9 => ?_⟩ | refine ⟨w, u, A _, hW, hP, b9.trans u0, fun x9 g9 => ?_⟩ | exact C2 _ _ _ (by assumption) (by assumption) (by assumption) (up_self _ 4 0) | exact h2 | exact h2 (by omega) | exact h3 | exact h3 (by omega) | omega | exact True.intro | (simp only [rI_rI, rJ_rJ, hI_rI, hJ_rI, hI_rJ, hJ_rJ, hI_rR, hR_rI, hR_rJ, hN_rI, hN_rJ, svH_63, svH_66, rfH_63, wvH_63, wvH_62, wvH_67, wvH_68, wvH_69, sc_63, sc_n62, sc_n67, sc_n68, sc_n69, sc_n70, reduceIte, Nat.reduceEqDiff, eq_self, up_up, up_self, up_ne, ne_eq, not_false_eq_true, Int.reduceEq, Int.reduceNeg]; omega))
theorem m_X9_undo : MM 174 s_X9_undo := mm_of (own := 8) (by rfl) k_X9_undo (cl := [(34, s_X1_count), (37, s_X1_restore), (9, s_X0_cutTo), (96, s_X5_forget)]) ⟨m_X1_count, m_X1_restore, m_X0_cutTo, m_X5_forget, trivial⟩ o_X9_undo
def s_X9_syntaxError : CS := (zc 13, ap [(3, 0)] (fun  h Rt X =>
∃ w ps s, CI h w ps s ∧ Go h w ps s (Rt (some (.inl (rdA (fin (stR (hI h)))))))))
set_option maxRecDepth 100000 in
set_option maxHeartbeats 4000000 in
theorem o_X9_syntaxError : Obl true 1 1 (sp [(79, s_X4_errorPosition)]) [] code_X9_syntaxError s_X9_syntaxError := by
  refine obl0 (by rfl) ?_
  intro  h Rt X hh hf hs
  obtain ⟨w, ps, s, hC, h3⟩ := hs
  have t := hC.tl
  have C : Rt (some (.inl (rdA (fin (stR (hI h)))))) (wI h (fin (stR (hI h)))) := h3 _ (hC.fo (Fo.all _)) (Kp.fo (Fo.all _))
  repeat' (first | apply And.intro | (with_reducible assumption) | (intro h9; first | (exfalso; omega) | (simp only [rI_rI, rJ_rJ, hI_rI, hJ_rI, hI_rJ, hJ_rJ, hI_rR, hR_rI, hR_rJ, hN_rI, hN_rJ, svH_63, svH_66, rfH_63, wvH_63, wvH_62, wvH_67, wvH_68, wvH_69, sc_63, sc_n62, sc_n67, sc_n68, sc_n69, sc_n70, reduceIte, Nat.reduceEqDiff, eq_self, up_up, up_self, up_ne, ne_eq, not_false_eq_true, Int.reduceEq, Int.reduceNeg] at h9; first | (exfalso; omega) | skip) | skip) | exact C | exact h3 | exact h3 (by omega) | omega | exact True.intro | (simp only [rI_rI, rJ_rJ, hI_rI, hJ_rI, hI_rJ, hJ_rJ, hI_rR, hR_rI, hR_rJ, hN_rI, hN_rJ, svH_63, svH_66, rfH_63, wvH_63, wvH_62, wvH_67, wvH_68, wvH_69, sc_63, sc_n62, sc_n67, sc_n68, sc_n69, sc_n70, reduceIte, Nat.reduceEqDiff, eq_self, up_up, up_self, up_ne, ne_eq, not_false_eq_true, Int.reduceEq, Int.reduceNeg]; omega))
theorem m_X9_syntaxError : MM 170 s_X9_syntaxError := mm_of (own := 8) (by rfl) k_X9_syntaxError (cl := [(79, s_X4_errorPosition)]) ⟨m_X4_errorPosition, trivial⟩ o_X9_syntaxError
def s_X9_core : CS := (yc 7, ap [(3, 0)] (fun  h Rt X =>
∃ w ps s, CI h w ps s ∧ (nxt w 0 ≠ -1 → Go h w ps s (Rt (some (.inl (-1))))) ∧ (nxt w 0 = -1 → Go h w ps s (Rt (some (.inl (coreF w (w 290).toNat)))))))
set_option maxRecDepth 100000 in
set_option maxHeartbeats 4000000 in
theorem o_X9_core : Obl true 1 1 (sp [(97, s_X5_leastModel), (115, s_X5_minimalConflict)]) [] code_X9_core s_X9_core := by
  refine oblY (by rfl) [] ?_
  intro  h Rt X hh hf hs
  obtain ⟨w, ps, s, hC, h2, h3⟩ := hs
  have hW := hC.wf
  have hG := hC.gh
  have hS := hC.st
  have hK := hC.sk
  have S : ∀ F R Q L, FM w (hI h 46) F L → CI (se h F R Q L) w ps s := fun F R Q L hf => hC.se hf.sk R Q
  obtain ⟨n, q⟩ := h
  rcases hC.rn.o with ⟨n9, e⟩ | ⟨n9, e⟩
  · obtain rfl : n = 62 := n9
    refine ⟨1, 20480, rfl, fun _ _ _ _ => False, ?_, fun k pc live vs h1 hl => by cases hl⟩
    by_cases z : nxt w 0 = -1
    · have C : ∀ F R Q L g, FM w (hI (62, q) 46) F L → CrH (se (62, q) F R Q L) g → Rt (some (.inl (coreF w (w 290).toNat))) g := fun F R Q L g hf c => h3 z _ ((S F R Q L hf).cr c) ((Kp.se _ _ _ _ _).tr (Kp.cr c))
      repeat' (first | apply And.intro | (with_reducible assumption) | (intro h9; first | (exfalso; omega) | (simp only [rI_rI, rJ_rJ, hI_rI, hJ_rI, hI_rJ, hJ_rJ, hI_rR, hR_rI, hR_rJ, hN_rI, hN_rJ, svH_63, svH_66, rfH_63, wvH_63, wvH_62, wvH_67, wvH_68, wvH_69, sc_63, sc_n62, sc_n67, sc_n68, sc_n69, sc_n70, reduceIte, Nat.reduceEqDiff, eq_self, up_up, up_self, up_ne, ne_eq, not_false_eq_true, Int.reduceEq, Int.reduceNeg] at h9; first | (exfalso; omega) | skip) | skip) | refine Exists.intro w ?_ | exact hG | exact hW | exact hS | exact hK | exact (S _ _ _ _ (by assumption)).gh | exact (S _ _ _ _ (by assumption)).st | exact (S _ _ _ _ (by assumption)).rn | exact C _ _ _ _ _ (by assumption) (by assumption) | exact h2 | exact h2 (by omega) | exact h3 | exact h3 (by omega) | omega | exact True.intro | (simp only [rI_rI, rJ_rJ, hI_rI, hJ_rI, hI_rJ, hJ_rJ, hI_rR, hR_rI, hR_rJ, hN_rI, hN_rJ, svH_63, svH_66, rfH_63, wvH_63, wvH_62, wvH_67, wvH_68, wvH_69, sc_63, sc_n62, sc_n67, sc_n68, sc_n69, sc_n70, reduceIte, Nat.reduceEqDiff, eq_self, up_up, up_self, up_ne, ne_eq, not_false_eq_true, Int.reduceEq, Int.reduceNeg]; omega))
    · have C : ∀ F R Q L, FM w (hI (62, q) 46) F L → Rt (some (.inl (-1))) (se (62, q) F R Q L) := fun F R Q L hf => h2 z _ (S F R Q L hf) (Kp.se _ _ _ _ _)
      repeat' (first | apply And.intro | (with_reducible assumption) | (intro h9; first | (exfalso; omega) | (simp only [rI_rI, rJ_rJ, hI_rI, hJ_rI, hI_rJ, hJ_rJ, hI_rR, hR_rI, hR_rJ, hN_rI, hN_rJ, svH_63, svH_66, rfH_63, wvH_63, wvH_62, wvH_67, wvH_68, wvH_69, sc_63, sc_n62, sc_n67, sc_n68, sc_n69, sc_n70, reduceIte, Nat.reduceEqDiff, eq_self, up_up, up_self, up_ne, ne_eq, not_false_eq_true, Int.reduceEq, Int.reduceNeg] at h9; first | (exfalso; omega) | skip) | skip) | refine Exists.intro w ?_ | exact hG | exact hW | exact hS | exact hK | exact C _ _ _ _ (by assumption) | exact h2 | exact h2 (by omega) | exact h3 | exact h3 (by omega) | omega | exact True.intro | (simp only [rI_rI, rJ_rJ, hI_rI, hJ_rI, hI_rJ, hJ_rJ, hI_rR, hR_rI, hR_rJ, hN_rI, hN_rJ, svH_63, svH_66, rfH_63, wvH_63, wvH_62, wvH_67, wvH_68, wvH_69, sc_63, sc_n62, sc_n67, sc_n68, sc_n69, sc_n70, reduceIte, Nat.reduceEqDiff, eq_self, up_up, up_self, up_ne, ne_eq, not_false_eq_true, Int.reduceEq, Int.reduceNeg]; omega))
  · obtain rfl : n = 63 := n9
    refine ⟨0, 0, rfl, fun _ _ _ _ => False, ?_, fun k pc live vs h1 hl => by cases hl⟩
    by_cases z : nxt w 0 = -1
    · have C : ∀ F R Q L g, FM w (hI (63, q) 46) F L → CrH (se (63, q) F R Q L) g → Rt (some (.inl (coreF w (w 290).toNat))) g := fun F R Q L g hf c => h3 z _ ((S F R Q L hf).cr c) ((Kp.se _ _ _ _ _).tr (Kp.cr c))
      repeat' (first | apply And.intro | (with_reducible assumption) | (intro h9; first | (exfalso; omega) | (simp only [rI_rI, rJ_rJ, hI_rI, hJ_rI, hI_rJ, hJ_rJ, hI_rR, hR_rI, hR_rJ, hN_rI, hN_rJ, svH_63, svH_66, rfH_63, wvH_63, wvH_62, wvH_67, wvH_68, wvH_69, sc_63, sc_n62, sc_n67, sc_n68, sc_n69, sc_n70, reduceIte, Nat.reduceEqDiff, eq_self, up_up, up_self, up_ne, ne_eq, not_false_eq_true, Int.reduceEq, Int.reduceNeg] at h9; first | (exfalso; omega) | skip) | skip) | refine Exists.intro w ?_ | exact hG | exact hW | exact hS | exact hK | exact (S _ _ _ _ (by assumption)).gh | exact (S _ _ _ _ (by assumption)).st | exact (S _ _ _ _ (by assumption)).rn | exact C _ _ _ _ _ (by assumption) (by assumption) | exact h2 | exact h2 (by omega) | exact h3 | exact h3 (by omega) | omega | exact True.intro | (simp only [rI_rI, rJ_rJ, hI_rI, hJ_rI, hI_rJ, hJ_rJ, hI_rR, hR_rI, hR_rJ, hN_rI, hN_rJ, svH_63, svH_66, rfH_63, wvH_63, wvH_62, wvH_67, wvH_68, wvH_69, sc_63, sc_n62, sc_n67, sc_n68, sc_n69, sc_n70, reduceIte, Nat.reduceEqDiff, eq_self, up_up, up_self, up_ne, ne_eq, not_false_eq_true, Int.reduceEq, Int.reduceNeg]; omega))
    · have C : ∀ F R Q L, FM w (hI (63, q) 46) F L → Rt (some (.inl (-1))) (se (63, q) F R Q L) := fun F R Q L hf => h2 z _ (S F R Q L hf) (Kp.se _ _ _ _ _)
      repeat' (first | apply And.intro | (with_reducible assumption) | (intro h9; first | (exfalso; omega) | (simp only [rI_rI, rJ_rJ, hI_rI, hJ_rI, hI_rJ, hJ_rJ, hI_rR, hR_rI, hR_rJ, hN_rI, hN_rJ, svH_63, svH_66, rfH_63, wvH_63, wvH_62, wvH_67, wvH_68, wvH_69, sc_63, sc_n62, sc_n67, sc_n68, sc_n69, sc_n70, reduceIte, Nat.reduceEqDiff, eq_self, up_up, up_self, up_ne, ne_eq, not_false_eq_true, Int.reduceEq, Int.reduceNeg] at h9; first | (exfalso; omega) | skip) | skip) | refine Exists.intro w ?_ | exact hG | exact hW | exact hS | exact hK | exact C _ _ _ _ (by assumption) | exact h2 | exact h2 (by omega) | exact h3 | exact h3 (by omega) | omega | exact True.intro | (simp only [rI_rI, rJ_rJ, hI_rI, hJ_rI, hI_rJ, hJ_rJ, hI_rR, hR_rI, hR_rJ, hN_rI, hN_rJ, svH_63, svH_66, rfH_63, wvH_63, wvH_62, wvH_67, wvH_68, wvH_69, sc_63, sc_n62, sc_n67, sc_n68, sc_n69, sc_n70, reduceIte, Nat.reduceEqDiff, eq_self, up_up, up_self, up_ne, ne_eq, not_false_eq_true, Int.reduceEq, Int.reduceNeg]; omega))
theorem m_X9_core : MM 163 s_X9_core := mm_of (own := 8) (by rfl) k_X9_core (cl := [(97, s_X5_leastModel), (115, s_X5_minimalConflict)]) ⟨m_X5_leastModel, m_X5_minimalConflict, trivial⟩ o_X9_core
def s_X9_write : CS := (xc 2 12 92, ap [(3, 0), (0, 0)] (fun n h Rt X =>
∃ w ps s, CI h w ps s ∧ (¬ (0 ≤ n ∧ n < w 0) → X 2 h) ∧ (0 ≤ n ∧ n < w 0 → 120 < (dsc w n).length → Go h w ps s (X 1)) ∧ (0 ≤ n ∧ n < w 0 → (dsc w n).length ≤ 120 → ∀ g, CI g w ps s → Ou h g → TxL (hI g) (dsc w n) → Rt (some (.inl ((dsc w n).length : Int))) g)))
set_option maxRecDepth 100000 in
set_option maxHeartbeats 4000000 in
theorem o_X9_write : Obl true 1 2 (sp [(181, s_X9_demandNode), (129, s_X8_lengthOf), (127, s_X7_empty), (131, s_X8_describe), (124, s_X7_length)]) [] code_X9_write s_X9_write := by
  refine obl0x (by rfl) ?_
  intro n r_n h Rt X hh hf hs
  obtain ⟨w, ps, s, hC, h2, h3, h4⟩ := hs
  have hW := hC.wf
  have hG := hC.gh
  have g0 := hG.n
  have nn := hW.nn
  have ld : lenC w n = if 121 ≤ ((dsc w n).length : Int) then 121 else ((dsc w n).length : Int) := rfl
  by_cases z : 0 ≤ n ∧ n < w 0
  · by_cases y : 120 < (dsc w n).length
    · have l : lenC w n = 121 := by rw [ld, if_pos (by omega)]
      have C : ∀ f, X 1 (rI h 61 f) := fun f => h3 z y _ (hC.fc (fun a a0 a1 => by rw [hI_rI', if_neg (by omega)]) rfl hC.sk hC.rn ⟨rfl, rfl⟩) (Kp.r (by decide) f)
      repeat' (first | apply And.intro | (with_reducible assumption) | (intro h9; first | (exfalso; omega) | (simp only [rI_rI, rJ_rJ, hI_rI, hJ_rI, hI_rJ, hJ_rJ, hI_rR, hR_rI, hR_rJ, hN_rI, hN_rJ, svH_63, svH_66, rfH_63, wvH_63, wvH_62, wvH_67, wvH_68, wvH_69, sc_63, sc_n62, sc_n67, sc_n68, sc_n69, sc_n70, reduceIte, Nat.reduceEqDiff, eq_self, up_up, up_self, up_ne, ne_eq, not_false_eq_true, Int.reduceEq, Int.reduceNeg] at h9; first | (exfalso; omega) | skip) | skip) | refine ⟨w, hG, hW, z, fun f9 => ?_⟩ | exact C _ | exact h2 | exact h2 (by omega) | exact h3 | exact h3 (by omega) | exact h4 | exact h4 (by omega) | omega | exact True.intro | (simp only [rI_rI, rJ_rJ, hI_rI, hJ_rI, hI_rJ, hJ_rJ, hI_rR, hR_rI, hR_rJ, hN_rI, hN_rJ, svH_63, svH_66, rfH_63, wvH_63, wvH_62, wvH_67, wvH_68, wvH_69, sc_63, sc_n62, sc_n67, sc_n68, sc_n69, sc_n70, reduceIte, Nat.reduceEqDiff, eq_self, up_up, up_self, up_ne, ne_eq, not_false_eq_true, Int.reduceEq, Int.reduceNeg]; omega))
    · have l : lenC w n = ((dsc w n).length : Int) := by rw [ld, if_neg (by omega)]
      have T0 : ∀ f, TxL (hI (rI (rI h 61 f) 49 (up (hI h 49) 1 0))) [] := fun f => Box.i ⟨up_self (hI h 49) 1 0, by decide, fun i hi => by cases hi⟩
      have T : ∀ f, TxL (tAs (hI (rI (rI h 61 f) 49 (up (hI h 49) 1 0))) (dsc w n)) (dsc w n) := fun f => (T0 f).adds (dsc w n) (by show 0 + _ ≤ 120; omega)
      have N : ∀ f a, a ≠ 49 → a ≠ 50 → a ≠ 61 → tAs (hI (rI (rI h 61 f) 49 (up (hI h 49) 1 0))) (dsc w n) a = hI h a := fun f a a1 a2 a3 => by
        rw [tAs_ne _ _ a1 a2, hI_rI', if_neg a1, hI_rI', if_neg a3]
      have L : ∀ f, hI (wI (rI (rI h 61 f) 49 (up (hI h 49) 1 0)) (tAs (hI (rI (rI h 61 f) 49 (up (hI h 49) 1 0))) (dsc w n))) 49 1 = ((dsc w n).length : Int) := fun f => (T f).o.1
      have C : ∀ f, Rt (some (.inl (hI (wI (rI (rI h 61 f) 49 (up (hI h 49) 1 0)) (tAs (hI (rI (rI h 61 f) 49 (up (hI h 49) 1 0))) (dsc w n))) 49 1))) (wI (rI (rI h 61 f) 49 (up (hI h 49) 1 0)) (tAs (hI (rI (rI h 61 f) 49 (up (hI h 49) 1 0))) (dsc w n))) := fun f => by
        rw [L f]
        refine h4 z (by omega) _ (hC.tn (fun a a0 a1 => N f a (by omega) (by omega) (by omega)) rfl rfl ?_ ((T f).ok (dsc_ch hW (w 0).toNat n z.1 z.2 (by omega)))) (Box.i fun a a0 a1 => ⟨N f a (by omega) (by omega) (by omega), rfl, rfl⟩) (T f)
        have q := L f
        unfold TL
        omega
      have G : ∀ f, GH (rI (rI h 61 f) 49 (up (hI h 49) 1 0)) w := fun f => hG
      have Z : ∀ f, TL (rI (rI h 61 f) 49 (up (hI h 49) 1 0)) := fun f => by
        have q : hI (rI (rI h 61 f) 49 (up (hI h 49) 1 0)) 49 1 = 0 := up_self (hI h 49) 1 0
        unfold TL
        omega
      repeat' (first | apply And.intro | (with_reducible assumption) | (intro h9; first | (exfalso; omega) | (simp only [rI_rI, rJ_rJ, hI_rI, hJ_rI, hI_rJ, hJ_rJ, hI_rR, hR_rI, hR_rJ, hN_rI, hN_rJ, svH_63, svH_66, rfH_63, wvH_63, wvH_62, wvH_67, wvH_68, wvH_69, sc_63, sc_n62, sc_n67, sc_n68, sc_n69, sc_n70, reduceIte, Nat.reduceEqDiff, eq_self, up_up, up_self, up_ne, ne_eq, not_false_eq_true, Int.reduceEq, Int.reduceNeg] at h9; first | (exfalso; omega) | skip) | skip) | refine ⟨w, hG, hW, z, fun f9 => ?_⟩ | refine Exists.intro w ?_ | exact G _ | exact hW | exact Z _ | exact C _ | exact h2 | exact h2 (by omega) | exact h3 | exact h3 (by omega) | exact h4 | exact h4 (by omega) | omega | exact True.intro | (simp only [rI_rI, rJ_rJ, hI_rI, hJ_rI, hI_rJ, hJ_rJ, hI_rR, hR_rI, hR_rJ, hN_rI, hN_rJ, svH_63, svH_66, rfH_63, wvH_63, wvH_62, wvH_67, wvH_68, wvH_69, sc_63, sc_n62, sc_n67, sc_n68, sc_n69, sc_n70, reduceIte, Nat.reduceEqDiff, eq_self, up_up, up_self, up_ne, ne_eq, not_false_eq_true, Int.reduceEq, Int.reduceNeg]; omega))
  · have C := h2 z
    repeat' (first | apply And.intro | (with_reducible assumption) | (intro h9; first | (exfalso; omega) | (simp only [rI_rI, rJ_rJ, hI_rI, hJ_rI, hI_rJ, hJ_rJ, hI_rR, hR_rI, hR_rJ, hN_rI, hN_rJ, svH_63, svH_66, rfH_63, wvH_63, wvH_62, wvH_67, wvH_68, wvH_69, sc_63, sc_n62, sc_n67, sc_n68, sc_n69, sc_n70, reduceIte, Nat.reduceEqDiff, eq_self, up_up, up_self, up_ne, ne_eq, not_false_eq_true, Int.reduceEq, Int.reduceNeg] at h9; first | (exfalso; omega) | skip) | skip) | exact C | exact h2 | exact h2 (by omega) | exact h3 | exact h3 (by omega) | exact h4 | exact h4 (by omega) | omega | exact True.intro | (simp only [rI_rI, rJ_rJ, hI_rI, hJ_rI, hI_rJ, hJ_rJ, hI_rR, hR_rI, hR_rJ, hN_rI, hN_rJ, svH_63, svH_66, rfH_63, wvH_63, wvH_62, wvH_67, wvH_68, wvH_69, sc_63, sc_n62, sc_n67, sc_n68, sc_n69, sc_n70, reduceIte, Nat.reduceEqDiff, eq_self, up_up, up_self, up_ne, ne_eq, not_false_eq_true, Int.reduceEq, Int.reduceNeg]; omega))
theorem m_X9_write : MM 172 s_X9_write := mm_of (own := 8) (by rfl) k_X9_write (cl := [(181, s_X9_demandNode), (129, s_X8_lengthOf), (127, s_X7_empty), (131, s_X8_describe), (124, s_X7_length)]) ⟨m_X9_demandNode, m_X8_lengthOf, m_X7_empty, m_X8_describe, m_X7_length, trivial⟩ o_X9_write

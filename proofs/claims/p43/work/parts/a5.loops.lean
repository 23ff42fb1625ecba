/-! ===== the law's loops over constraints and variables; the core, told with what it may make ===== -/
def ImQ (h : Hp) (w ps : Int → Int) (s : Int) (m : Nat) (vs : List AV) (g : Hp) : Prop := CI g w ps s ∧ Kp h g ∧ ∃ k : Nat, vs = [aX 0, .inl 1, .inl (k : Int)] ∧ (k : Int) ≤ w 290 ∧ m = 20 - k
def InQ (h : Hp) (w : Int → Int) (way n N : Int) (m : Nat) (vs : List AV) (g : Hp) : Prop := ∃ u ps s, CI g u ps s ∧ Kp h g ∧ Ipt w u ∧ ∃ k : Nat, vs = [aX 0, .inl way, .inl n, .inl (k : Int)] ∧ (k : Int) ≤ w 281 ∧ Ina w u N k ∧ m = 4 - k
def s_X9_core1 : CS := (xc 1 20480 7, ap [(3, 0)] (fun  h Rt X =>
∃ w ps s, CI h w ps s ∧ (nxt w 0 ≠ -1 → Go h w ps s (Rt (some (.inl (-1))))) ∧ (nxt w 0 = -1 → Go h w ps s (Rt (some (.inl (coreF w (w 290).toNat)))))))
set_option maxRecDepth 100000 in
set_option maxHeartbeats 4000000 in
theorem o_X9_core1 : Obl true 1 1 (sp [(97, s_X5_leastModel), (115, s_X5_minimalConflict)]) [] code_X9_core s_X9_core1 := by
  refine obl0x (by rfl) ?_
  intro  h Rt X hh hf hs
  obtain ⟨w, ps, s, hC, h2, h3⟩ := hs
  have hW := hC.wf
  have hG := hC.gh
  have hS := hC.st
  have hK := hC.sk
  have S : ∀ F R Q L, FM w (hI h 46) F L → CI (se h F R Q L) w ps s := fun F R Q L hf => hC.se hf.sk R Q
  obtain ⟨n, q⟩ := h
  rcases hC.rn.o with ⟨n9, e⟩ | ⟨n9, e⟩
  · obtain rfl : n = 62 := n9
    by_cases z : nxt w 0 = -1
    · have C : ∀ F R Q L g, FM w (hI (62, q) 46) F L → CrH (se (62, q) F R Q L) g → Rt (some (.inl (coreF w (w 290).toNat))) g := fun F R Q L g hf c => h3 z _ ((S F R Q L hf).cr c) ((Kp.se _ _ _ _ _).tr (Kp.cr c))
      repeat' (first | apply And.intro | (with_reducible assumption) | (intro h9; first | (exfalso; omega) | (simp only [rI_rI, rJ_rJ, hI_rI, hJ_rI, hI_rJ, hJ_rJ, hI_rR, hR_rI, hR_rJ, hN_rI, hN_rJ, svH_63, svH_66, rfH_63, wvH_63, wvH_62, wvH_67, wvH_68, wvH_69, sc_63, sc_n62, sc_n67, sc_n68, sc_n69, sc_n70, reduceIte, Nat.reduceEqDiff, eq_self, up_up, up_self, up_ne, ne_eq, not_false_eq_true, Int.reduceEq, Int.reduceNeg] at h9; first | (exfalso; omega) | skip) | skip) | refine Exists.intro w ?_ | exact hG | exact hW | exact hS | exact hK | exact (S _ _ _ _ (by assumption)).gh | exact (S _ _ _ _ (by assumption)).st | exact (S _ _ _ _ (by assumption)).rn | exact C _ _ _ _ _ (by assumption) (by assumption) | exact h2 | exact h2 (by omega) | exact h3 | exact h3 (by omega) | omega | exact True.intro | (simp only [rI_rI, rJ_rJ, hI_rI, hJ_rI, hI_rJ, hJ_rJ, hI_rR, hR_rI, hR_rJ, hN_rI, hN_rJ, svH_63, svH_66, rfH_63, wvH_63, wvH_62, wvH_67, wvH_68, wvH_69, sc_63, sc_n62, sc_n67, sc_n68, sc_n69, sc_n70, reduceIte, Nat.reduceEqDiff, eq_self, up_up, up_self, up_ne, ne_eq, not_false_eq_true, Int.reduceEq, Int.reduceNeg]; omega))
    · have C : ∀ F R Q L, FM w (hI (62, q) 46) F L → Rt (some (.inl (-1))) (se (62, q) F R Q L) := fun F R Q L hf => h2 z _ (S F R Q L hf) (Kp.se _ _ _ _ _)
      repeat' (first | apply And.intro | (with_reducible assumption) | (intro h9; first | (exfalso; omega) | (simp only [rI_rI, rJ_rJ, hI_rI, hJ_rI, hI_rJ, hJ_rJ, hI_rR, hR_rI, hR_rJ, hN_rI, hN_rJ, svH_63, svH_66, rfH_63, wvH_63, wvH_62, wvH_67, wvH_68, wvH_69, sc_63, sc_n62, sc_n67, sc_n68, sc_n69, sc_n70, reduceIte, Nat.reduceEqDiff, eq_self, up_up, up_self, up_ne, ne_eq, not_false_eq_true, Int.reduceEq, Int.reduceNeg] at h9; first | (exfalso; omega) | skip) | skip) | refine Exists.intro w ?_ | exact hG | exact hW | exact hS | exact hK | exact C _ _ _ _ (by assumption) | exact h2 | exact h2 (by omega) | exact h3 | exact h3 (by omega) | omega | exact True.intro | (simp only [rI_rI, rJ_rJ, hI_rI, hJ_rI, hI_rJ, hJ_rJ, hI_rR, hR_rI, hR_rJ, hN_rI, hN_rJ, svH_63, svH_66, rfH_63, wvH_63, wvH_62, wvH_67, wvH_68, wvH_69, sc_63, sc_n62, sc_n67, sc_n68, sc_n69, sc_n70, reduceIte, Nat.reduceEqDiff, eq_self, up_up, up_self, up_ne, ne_eq, not_false_eq_true, Int.reduceEq, Int.reduceNeg]; omega))
  · obtain rfl : n = 63 := n9
    by_cases z : nxt w 0 = -1
    · have C : ∀ F R Q L g, FM w (hI (63, q) 46) F L → CrH (se (63, q) F R Q L) g → Rt (some (.inl (coreF w (w 290).toNat))) g := fun F R Q L g hf c => h3 z _ ((S F R Q L hf).cr c) ((Kp.se _ _ _ _ _).tr (Kp.cr c))
      repeat' (first | apply And.intro | (with_reducible assumption) | (intro h9; first | (exfalso; omega) | (simp only [rI_rI, rJ_rJ, hI_rI, hJ_rI, hI_rJ, hJ_rJ, hI_rR, hR_rI, hR_rJ, hN_rI, hN_rJ, svH_63, svH_66, rfH_63, wvH_63, wvH_62, wvH_67, wvH_68, wvH_69, sc_63, sc_n62, sc_n67, sc_n68, sc_n69, sc_n70, reduceIte, Nat.reduceEqDiff, eq_self, up_up, up_self, up_ne, ne_eq, not_false_eq_true, Int.reduceEq, Int.reduceNeg] at h9; first | (exfalso; omega) | skip) | skip) | refine Exists.intro w ?_ | exact hG | exact hW | exact hS | exact hK | exact (S _ _ _ _ (by assumption)).gh | exact (S _ _ _ _ (by assumption)).st | exact (S _ _ _ _ (by assumption)).rn | exact C _ _ _ _ _ (by assumption) (by assumption) | exact h2 | exact h2 (by omega) | exact h3 | exact h3 (by omega) | omega | exact True.intro | (simp only [rI_rI, rJ_rJ, hI_rI, hJ_rI, hI_rJ, hJ_rJ, hI_rR, hR_rI, hR_rJ, hN_rI, hN_rJ, svH_63, svH_66, rfH_63, wvH_63, wvH_62, wvH_67, wvH_68, wvH_69, sc_63, sc_n62, sc_n67, sc_n68, sc_n69, sc_n70, reduceIte, Nat.reduceEqDiff, eq_self, up_up, up_self, up_ne, ne_eq, not_false_eq_true, Int.reduceEq, Int.reduceNeg]; omega))
    · have C : ∀ F R Q L, FM w (hI (63, q) 46) F L → Rt (some (.inl (-1))) (se (63, q) F R Q L) := fun F R Q L hf => h2 z _ (S F R Q L hf) (Kp.se _ _ _ _ _)
      repeat' (first | apply And.intro | (with_reducible assumption) | (intro h9; first | (exfalso; omega) | (simp only [rI_rI, rJ_rJ, hI_rI, hJ_rI, hI_rJ, hJ_rJ, hI_rR, hR_rI, hR_rJ, hN_rI, hN_rJ, svH_63, svH_66, rfH_63, wvH_63, wvH_62, wvH_67, wvH_68, wvH_69, sc_63, sc_n62, sc_n67, sc_n68, sc_n69, sc_n70, reduceIte, Nat.reduceEqDiff, eq_self, up_up, up_self, up_ne, ne_eq, not_false_eq_true, Int.reduceEq, Int.reduceNeg] at h9; first | (exfalso; omega) | skip) | skip) | refine Exists.intro w ?_ | exact hG | exact hW | exact hS | exact hK | exact C _ _ _ _ (by assumption) | exact h2 | exact h2 (by omega) | exact h3 | exact h3 (by omega) | omega | exact True.intro | (simp only [rI_rI, rJ_rJ, hI_rI, hJ_rI, hI_rJ, hJ_rJ, hI_rR, hR_rI, hR_rJ, hN_rI, hN_rJ, svH_63, svH_66, rfH_63, wvH_63, wvH_62, wvH_67, wvH_68, wvH_69, sc_63, sc_n62, sc_n67, sc_n68, sc_n69, sc_n70, reduceIte, Nat.reduceEqDiff, eq_self, up_up, up_self, up_ne, ne_eq, not_false_eq_true, Int.reduceEq, Int.reduceNeg]; omega))
theorem m_X9_core1 : MM 163 s_X9_core1 := mm_of (own := 8) (by rfl) k_X9_core (cl := [(97, s_X5_leastModel), (115, s_X5_minimalConflict)]) ⟨m_X5_leastModel, m_X5_minimalConflict, trivial⟩ o_X9_core1
def s_L_isModel : CS := (zc 6, ap [(3, 0)] (fun  h Rt X =>
∃ w ps s, CI h w ps s ∧ (∀ k, 0 ≤ k → k < w 290 → vl w (fun v => w (286 + v)) (w (291 + k)) = 1) ∧ Go h w ps s (Rt (some (.inl 1)))))
set_option maxRecDepth 100000 in
set_option maxHeartbeats 4000000 in
theorem o_L_isModel : Obl true 2 3 (sp [(151, s_X9_constraints), (152, s_X9_constraint0), (147, s_X9_value0)]) [] code_L_isModel s_L_isModel := by
  refine oblL (by rfl) [(4, [0, 1, 2])] ?_
  intro  h Rt X hh hf hs
  obtain ⟨w, ps, s, hC, z, K⟩ := hs
  have hW := hC.wf
  have cn := hW.cn
  refine ⟨fun m pc vs g => ImQ h w ps s m vs g, ?_, ?_⟩
  · have C : ∃ k, ImQ h w ps s k [aX 0, .inl 1, .inl 0] h := ⟨20, hC, Kp.rf h, 0, rfl, cn.1, rfl⟩
    repeat' (first | apply And.intro | (with_reducible assumption) | (intro h9; first | (exfalso; omega) | (simp only [rI_rI, rJ_rJ, hI_rI, hJ_rI, hI_rJ, hJ_rJ, hI_rR, hR_rI, hR_rJ, hN_rI, hN_rJ, svH_63, svH_66, rfH_63, wvH_63, wvH_62, wvH_67, wvH_68, wvH_69, sc_63, sc_n62, sc_n67, sc_n68, sc_n69, sc_n70, reduceIte, Nat.reduceEqDiff, eq_self, up_up, up_self, up_ne, ne_eq, not_false_eq_true, Int.reduceEq, Int.reduceNeg] at h9; first | (exfalso; omega) | skip) | skip) | exact C | exact hs | omega | exact True.intro | (simp only [rI_rI, rJ_rJ, hI_rI, hJ_rI, hI_rJ, hJ_rJ, hI_rR, hR_rI, hR_rJ, hN_rI, hN_rJ, svH_63, svH_66, rfH_63, wvH_63, wvH_62, wvH_67, wvH_68, wvH_69, sc_63, sc_n62, sc_n67, sc_n68, sc_n69, sc_n70, reduceIte, Nat.reduceEqDiff, eq_self, up_up, up_self, up_ne, ne_eq, not_false_eq_true, Int.reduceEq, Int.reduceNeg]; omega))
  · rintro m pc live vs g hl ⟨cg, kg, k, rfl, i1, rfl⟩ hv1 hh1 hf1
    obtain ⟨rfl, rfl⟩ := look1 hl
    by_cases y : (k : Int) < w 290
    · have q := hW.con (k := (k : Int)) (by omega) y
      have e := z k (by omega) y
      have C : ∀ f, CI f w ps s → Kp g f → ∃ k', k' < 20 - k ∧ ImQ h w ps s k' [aX 0, .inl 1, .inl ((k : Int) + 1)] f := fun f a b => ⟨20 - (k + 1), by omega, a, kg.tr b, k + 1, rfl, by omega, rfl⟩
      repeat' (first | apply And.intro | (with_reducible assumption) | (intro h9; first | (exfalso; omega) | (simp only [rI_rI, rJ_rJ, hI_rI, hJ_rI, hI_rJ, hJ_rJ, hI_rR, hR_rI, hR_rJ, hN_rI, hN_rJ, svH_63, svH_66, rfH_63, wvH_63, wvH_62, wvH_67, wvH_68, wvH_69, sc_63, sc_n62, sc_n67, sc_n68, sc_n69, sc_n70, reduceIte, Nat.reduceEqDiff, eq_self, up_up, up_self, up_ne, ne_eq, not_false_eq_true, Int.reduceEq, Int.reduceNeg] at h9; first | (exfalso; omega) | skip) | skip) | refine Exists.intro w (Exists.intro ps (Exists.intro s (And.intro cg ?_))) | exact C _ (by assumption) (by assumption) | exact hs | omega | exact True.intro | (simp only [rI_rI, rJ_rJ, hI_rI, hJ_rI, hI_rJ, hJ_rJ, hI_rR, hR_rI, hR_rJ, hN_rI, hN_rJ, svH_63, svH_66, rfH_63, wvH_63, wvH_62, wvH_67, wvH_68, wvH_69, sc_63, sc_n62, sc_n67, sc_n68, sc_n69, sc_n70, reduceIte, Nat.reduceEqDiff, eq_self, up_up, up_self, up_ne, ne_eq, not_false_eq_true, Int.reduceEq, Int.reduceNeg]; omega))
    · have C := K g cg kg
      repeat' (first | apply And.intro | (with_reducible assumption) | (intro h9; first | (exfalso; omega) | (simp only [rI_rI, rJ_rJ, hI_rI, hJ_rI, hI_rJ, hJ_rJ, hI_rR, hR_rI, hR_rJ, hN_rI, hN_rJ, svH_63, svH_66, rfH_63, wvH_63, wvH_62, wvH_67, wvH_68, wvH_69, sc_63, sc_n62, sc_n67, sc_n68, sc_n69, sc_n70, reduceIte, Nat.reduceEqDiff, eq_self, up_up, up_self, up_ne, ne_eq, not_false_eq_true, Int.reduceEq, Int.reduceNeg] at h9; first | (exfalso; omega) | skip) | skip) | refine Exists.intro w (Exists.intro ps (Exists.intro s (And.intro cg ?_))) | exact C | exact hs | omega | exact True.intro | (simp only [rI_rI, rJ_rJ, hI_rI, hJ_rI, hI_rJ, hJ_rJ, hI_rR, hR_rI, hR_rJ, hN_rI, hN_rJ, svH_63, svH_66, rfH_63, wvH_63, wvH_62, wvH_67, wvH_68, wvH_69, sc_63, sc_n62, sc_n67, sc_n68, sc_n69, sc_n70, reduceIte, Nat.reduceEqDiff, eq_self, up_up, up_self, up_ne, ne_eq, not_false_eq_true, Int.reduceEq, Int.reduceNeg]; omega))
theorem m_L_isModel : MM 340 s_L_isModel := mm_of (own := 11) (by rfl) k_L_isModel (cl := [(151, s_X9_constraints), (152, s_X9_constraint0), (147, s_X9_value0)]) ⟨m_X9_constraints, m_X9_constraint0, m_X9_value0, trivial⟩ o_L_isModel
def s_L_inputs : CS := (zc 8, ap [(3, 0), (0, 0), (0, 0)] (fun way n h Rt X =>
∃ w ps s N, CI h w ps s ∧ (0 ≤ n ∧ n < w 0) ∧ (0 ≤ way ∧ way ≤ 3) ∧ WyB w way n N ∧ N ≠ -1 ∧ ∀ g u ps s, CI g u ps s → Kp h g → Ipt w u → Ina w u N (w 281) → Rt none g))
set_option maxRecDepth 100000 in
set_option maxHeartbeats 4000000 in
theorem o_L_inputs : Obl true 0 4 (sp [(144, s_X9_variables), (154, s_X9_witness0), (167, s_X9_bestWitness0), (156, s_X9_extremeWitness0), (146, s_X9_input0)]) [] code_L_inputs s_L_inputs := by
  refine oblL (by rfl) [(2, [0, 1, 2, 3])] ?_
  intro way r_way n r_n h Rt X hh hf hs
  obtain ⟨w, ps, s, N, hC, ⟨n0, n1⟩, ⟨y0, y1⟩, hB, hN, K⟩ := hs
  have hW := hC.wf
  have vn := hW.vn
  refine ⟨fun m pc vs g => InQ h w way n N m vs g, ?_, ?_⟩
  · have C : ∃ k, InQ h w way n N k [aX 0, .inl way, .inl n, .inl 0] h := ⟨4, w, ps, s, hC, Kp.rf h, Ipt.rf w, 0, rfl, vn.1, Ina.z w w N, rfl⟩
    repeat' (first | apply And.intro | (with_reducible assumption) | (intro h9; first | (exfalso; omega) | (simp only [rI_rI, rJ_rJ, hI_rI, hJ_rI, hI_rJ, hJ_rJ, hI_rR, hR_rI, hR_rJ, hN_rI, hN_rJ, svH_63, svH_66, rfH_63, wvH_63, wvH_62, wvH_67, wvH_68, wvH_69, sc_63, sc_n62, sc_n67, sc_n68, sc_n69, sc_n70, reduceIte, Nat.reduceEqDiff, eq_self, up_up, up_self, up_ne, ne_eq, not_false_eq_true, Int.reduceEq, Int.reduceNeg] at h9; first | (exfalso; omega) | skip) | skip) | exact C | exact hs | omega | exact True.intro | (simp only [rI_rI, rJ_rJ, hI_rI, hJ_rI, hI_rJ, hJ_rJ, hI_rR, hR_rI, hR_rJ, hN_rI, hN_rJ, svH_63, svH_66, rfH_63, wvH_63, wvH_62, wvH_67, wvH_68, wvH_69, sc_63, sc_n62, sc_n67, sc_n68, sc_n69, sc_n70, reduceIte, Nat.reduceEqDiff, eq_self, up_up, up_self, up_ne, ne_eq, not_false_eq_true, Int.reduceEq, Int.reduceNeg]; omega))
  · rintro m pc live vs g hl ⟨u, ps', s', cg, kg, ip, k, rfl, i1, i2, rfl⟩ hv1 hh1 hf1
    obtain ⟨rfl, rfl⟩ := look1 hl
    have e0 := (ip.nx hW).2.1
    have e1 := (ip.nx hW).2.2
    by_cases y : (k : Int) < w 281
    · obtain ⟨b0, b1, b2, b3⟩ := (hB.ip hW ip n0 n1).o
      have ex : ∀ r, r = N → wrd u r k = asg w N k := fun r hr => by rw [hr, wrd_in hN, ip.asg hW N (by omega) y]
      have rx : ∀ r, r = N → 0 ≤ wrd u r k ∧ wrd u r k < p2 (nd u (u (282 + (k : Int))) 1) := fun r hr => by rw [hr, wrd_in hN]; exact asg_rng u N k
      have C : ∀ r f p t, r = N → CI f (inW u k (wrd u r k)) p t → Kp h f → ∃ k', k' < 4 - k ∧ InQ h w way n N k' [aX 0, .inl way, .inl n, .inl ((k : Int) + 1)] f := fun r f p t hr a b => ⟨4 - (k + 1), by omega, _, p, t, a, b, ip.in (by omega) (by omega) _, k + 1, rfl, by omega, i2.st (ex r hr), rfl⟩
      by_cases w0 : way = 0
      · subst w0
        have r0 := (b0 rfl).symm
        have rx := rx _ r0
        repeat' (first | apply And.intro | (with_reducible assumption) | (intro h9; first | (exfalso; omega) | (simp only [rI_rI, rJ_rJ, hI_rI, hJ_rI, hI_rJ, hJ_rJ, hI_rR, hR_rI, hR_rJ, hN_rI, hN_rJ, svH_63, svH_66, rfH_63, wvH_63, wvH_62, wvH_67, wvH_68, wvH_69, sc_63, sc_n62, sc_n67, sc_n68, sc_n69, sc_n70, reduceIte, Nat.reduceEqDiff, eq_self, up_up, up_self, up_ne, ne_eq, not_false_eq_true, Int.reduceEq, Int.reduceNeg] at h9; first | (exfalso; omega) | skip) | skip) | refine Exists.intro u (Exists.intro ps' (Exists.intro s' (And.intro cg ?_))) | refine Exists.intro u (Exists.intro ps' (Exists.intro s' (And.intro (by assumption) ?_))) | exact C _ _ _ _ r0 (by assumption) ((kg.tr (by assumption)).tr (by assumption)) | exact hs | omega | exact True.intro | (simp only [rI_rI, rJ_rJ, hI_rI, hJ_rI, hI_rJ, hJ_rJ, hI_rR, hR_rI, hR_rJ, hN_rI, hN_rJ, svH_63, svH_66, rfH_63, wvH_63, wvH_62, wvH_67, wvH_68, wvH_69, sc_63, sc_n62, sc_n67, sc_n68, sc_n69, sc_n70, reduceIte, Nat.reduceEqDiff, eq_self, up_up, up_self, up_ne, ne_eq, not_false_eq_true, Int.reduceEq, Int.reduceNeg]; omega))
      · by_cases w1 : way = 1
        · subst w1
          have r1 := b1 rfl
          have rx := rx _ rfl
          repeat' (first | apply And.intro | (with_reducible assumption) | (intro h9; first | (exfalso; omega) | (simp only [rI_rI, rJ_rJ, hI_rI, hJ_rI, hI_rJ, hJ_rJ, hI_rR, hR_rI, hR_rJ, hN_rI, hN_rJ, svH_63, svH_66, rfH_63, wvH_63, wvH_62, wvH_67, wvH_68, wvH_69, sc_63, sc_n62, sc_n67, sc_n68, sc_n69, sc_n70, reduceIte, Nat.reduceEqDiff, eq_self, up_up, up_self, up_ne, ne_eq, not_false_eq_true, Int.reduceEq, Int.reduceNeg] at h9; first | (exfalso; omega) | skip) | skip) | refine Exists.intro u (Exists.intro ps' (Exists.intro s' (Exists.intro N (And.intro cg ?_)))) | refine Exists.intro u (Exists.intro ps' (Exists.intro s' (And.intro cg ?_))) | refine Exists.intro u (Exists.intro ps' (Exists.intro s' (And.intro (by assumption) ?_))) | exact C _ _ _ _ rfl (by assumption) ((kg.tr (by assumption)).tr (by assumption)) | exact hs | omega | exact True.intro | (simp only [rI_rI, rJ_rJ, hI_rI, hJ_rI, hI_rJ, hJ_rJ, hI_rR, hR_rI, hR_rJ, hN_rI, hN_rJ, svH_63, svH_66, rfH_63, wvH_63, wvH_62, wvH_67, wvH_68, wvH_69, sc_63, sc_n62, sc_n67, sc_n68, sc_n69, sc_n70, reduceIte, Nat.reduceEqDiff, eq_self, up_up, up_self, up_ne, ne_eq, not_false_eq_true, Int.reduceEq, Int.reduceNeg]; omega))
        · by_cases w2 : way = 2
          · subst w2
            have r1 := b2 rfl
            have rx := rx _ rfl
            repeat' (first | apply And.intro | (with_reducible assumption) | (intro h9; first | (exfalso; omega) | (simp only [rI_rI, rJ_rJ, hI_rI, hJ_rI, hI_rJ, hJ_rJ, hI_rR, hR_rI, hR_rJ, hN_rI, hN_rJ, svH_63, svH_66, rfH_63, wvH_63, wvH_62, wvH_67, wvH_68, wvH_69, sc_63, sc_n62, sc_n67, sc_n68, sc_n69, sc_n70, reduceIte, Nat.reduceEqDiff, eq_self, up_up, up_self, up_ne, ne_eq, not_false_eq_true, Int.reduceEq, Int.reduceNeg] at h9; first | (exfalso; omega) | skip) | skip) | refine Exists.intro u (Exists.intro ps' (Exists.intro s' (Exists.intro N (And.intro cg ?_)))) | refine Exists.intro u (Exists.intro ps' (Exists.intro s' (And.intro cg ?_))) | refine Exists.intro u (Exists.intro ps' (Exists.intro s' (And.intro (by assumption) ?_))) | exact C _ _ _ _ rfl (by assumption) ((kg.tr (by assumption)).tr (by assumption)) | exact hs | omega | exact True.intro | (simp only [rI_rI, rJ_rJ, hI_rI, hJ_rI, hI_rJ, hJ_rJ, hI_rR, hR_rI, hR_rJ, hN_rI, hN_rJ, svH_63, svH_66, rfH_63, wvH_63, wvH_62, wvH_67, wvH_68, wvH_69, sc_63, sc_n62, sc_n67, sc_n68, sc_n69, sc_n70, reduceIte, Nat.reduceEqDiff, eq_self, up_up, up_self, up_ne, ne_eq, not_false_eq_true, Int.reduceEq, Int.reduceNeg]; omega))
          · obtain rfl : way = 3 := by omega
            have r1 := b3 rfl
            have rx := rx _ rfl
            repeat' (first | apply And.intro | (with_reducible assumption) | (intro h9; first | (exfalso; omega) | (simp only [rI_rI, rJ_rJ, hI_rI, hJ_rI, hI_rJ, hJ_rJ, hI_rR, hR_rI, hR_rJ, hN_rI, hN_rJ, svH_63, svH_66, rfH_63, wvH_63, wvH_62, wvH_67, wvH_68, wvH_69, sc_63, sc_n62, sc_n67, sc_n68, sc_n69, sc_n70, reduceIte, Nat.reduceEqDiff, eq_self, up_up, up_self, up_ne, ne_eq, not_false_eq_true, Int.reduceEq, Int.reduceNeg] at h9; first | (exfalso; omega) | skip) | skip) | refine Exists.intro u (Exists.intro ps' (Exists.intro s' (Exists.intro N (And.intro cg ?_)))) | refine Exists.intro u (Exists.intro ps' (Exists.intro s' (And.intro cg ?_))) | refine Exists.intro u (Exists.intro ps' (Exists.intro s' (And.intro (by assumption) ?_))) | exact C _ _ _ _ rfl (by assumption) ((kg.tr (by assumption)).tr (by assumption)) | exact hs | omega | exact True.intro | (simp only [rI_rI, rJ_rJ, hI_rI, hJ_rI, hI_rJ, hJ_rJ, hI_rR, hR_rI, hR_rJ, hN_rI, hN_rJ, svH_63, svH_66, rfH_63, wvH_63, wvH_62, wvH_67, wvH_68, wvH_69, sc_63, sc_n62, sc_n67, sc_n68, sc_n69, sc_n70, reduceIte, Nat.reduceEqDiff, eq_self, up_up, up_self, up_ne, ne_eq, not_false_eq_true, Int.reduceEq, Int.reduceNeg]; omega))
    · have e : (k : Int) = w 281 := by omega
      have C := K g u ps' s' cg kg ip (by rw [← e]; exact i2)
      repeat' (first | apply And.intro | (with_reducible assumption) | (intro h9; first | (exfalso; omega) | (simp only [rI_rI, rJ_rJ, hI_rI, hJ_rI, hI_rJ, hJ_rJ, hI_rR, hR_rI, hR_rJ, hN_rI, hN_rJ, svH_63, svH_66, rfH_63, wvH_63, wvH_62, wvH_67, wvH_68, wvH_69, sc_63, sc_n62, sc_n67, sc_n68, sc_n69, sc_n70, reduceIte, Nat.reduceEqDiff, eq_self, up_up, up_self, up_ne, ne_eq, not_false_eq_true, Int.reduceEq, Int.reduceNeg] at h9; first | (exfalso; omega) | skip) | skip) | refine Exists.intro u (Exists.intro ps' (Exists.intro s' (And.intro cg ?_))) | exact C | exact hs | omega | exact True.intro | (simp only [rI_rI, rJ_rJ, hI_rI, hJ_rI, hI_rJ, hJ_rJ, hI_rR, hR_rI, hR_rJ, hN_rI, hN_rJ, svH_63, svH_66, rfH_63, wvH_63, wvH_62, wvH_67, wvH_68, wvH_69, sc_63, sc_n62, sc_n67, sc_n68, sc_n69, sc_n70, reduceIte, Nat.reduceEqDiff, eq_self, up_up, up_self, up_ne, ne_eq, not_false_eq_true, Int.reduceEq, Int.reduceNeg]; omega))
theorem m_L_inputs : MM 341 s_L_inputs := mm_of (own := 11) (by rfl) k_L_inputs (cl := [(144, s_X9_variables), (154, s_X9_witness0), (167, s_X9_bestWitness0), (156, s_X9_extremeWitness0), (146, s_X9_input0)]) ⟨m_X9_variables, m_X9_witness0, m_X9_bestWitness0, m_X9_extremeWitness0, m_X9_input0, trivial⟩ o_L_inputs

/-! ===== the law: what its cases need ===== -/
/-- a contract that may be used with weaker ends -/
def wk (cs : CS) : CS := (cs.1, fun as h Rt X => ∃ (R0 : Option AV → Hp → Prop) (X0 : Nat → Hp → Prop), cs.2 as h R0 X0 ∧ (∀ r g, R0 r g → hN h ≤ hN g → Rt r g) ∧ ∀ E g, X0 E g → X E g)
theorem MetS.wk {l : Launch} {D : va_G} {ca : Nat → ClassId} {lb sa sv : Nat} {mr : MR} {fx : Bool} {cs : CS} (H : MetS l D ca lb sa sv mr fx cs) : MetS l D ca lb sa sv mr fx (CWordSolverLaw_law_r9643_f7b4c7.wk cs) := by
  intro ad sz as h Rt X hv hh hf e1 h0
  obtain ⟨R0, X0, h0, k1, k2⟩ := h0
  have M := H ad sz as h R0 X0 hv hh hf e1 h0
  intro p e ha hc hk s m args below hfr happ hP _
  obtain ⟨n, o, a1, a2, a3, a4⟩ := M p e ha hc hk s m args below hfr happ hP trivial
  refine ⟨n, o, a1, a2, a3, ?_⟩
  rcases a4 with ⟨⟨⟨r, h1, ad1, b1, b2, b3, b4⟩, b5⟩, b6⟩ | ⟨q, b1, E, ce, L, ⟨⟨k, h1, ad1, c1, c2, c3, c4⟩, c5⟩, c6⟩
  · exact Or.inl ⟨⟨⟨r, h1, ad1, b1, k1 r h1 b2 b4.2.2.2.2.2, b3, b4⟩, b5⟩, b6⟩
  · exact Or.inr ⟨q, b1, E, ce, L, ⟨⟨k, h1, ad1, c1, c2, k2 k h1 c3, c4⟩, c5⟩, c6⟩
theorem mm_wk {n : Nat} {cs : CS} (H : MM n cs) : MM n (wk cs) := fun hl => (H hl).wk
theorem oblC {sh : List (Nat × Nat)} {f : Fn sh} {co : List AV → Hp → Nat × (Nat × Nat)} {rk nL HT : Nat} {S : Nat → CS} {code : List (Nat × Row)} (hcat : (Nat.ble (catSh sh) nL && Nat.blt 0 HT) = true)
    (H : AllA sh f (fun as g => ∀ (h : Hp) (Rt : Option AV → Hp → Prop) (X : Nat → Hp → Prop), hok h → fixed h → g h Rt X → ∃ mc ms, co as h = (mc, (ms, HT)) ∧ aw true rk mc ms HT S [] Rt X none (fun _ => 0) code [] (fun _ _ _ _ _ => False) 4000 code 0 (lpad (lent as) nL) [] h 0 0)) : Obl true rk nL S [] code (co, ap sh f) := by
  intro as h Rt X hv hh hf ha
  obtain ⟨e, g, h1, h2⟩ := allA_el H hv ha
  rw [e]
  obtain ⟨mc, ms, e2, g1⟩ := h1 h Rt X hh (hf rfl) h2
  show (Nat.ble (catSh sh) nL && Nat.blt 0 (co as h).2.2) = true ∧ ∃ (cut : List (Nat × List Nat)) (I : Nat → AKK) (F : Nat),
      aw true rk (co as h).1 (co as h).2.1 (co as h).2.2 S [] Rt X none (fun _ => 0) code cut (fun pc vs h u v => ∃ k, I k pc vs h u v) F code 0 (lpad (lent as) nL) [] h 0 0 ∧
      ∀ k pc live vs h1 u v, look cut pc = some live → I k pc vs h1 u v → (∀ x ∈ vs, vok (hN h1) x) → hok h1 → (true = true → fixed h1) →
        aw true rk (co as h).1 (co as h).2.1 (co as h).2.2 S [] Rt X none (fun _ => 0) code cut (fun pc vs h u v => ∃ k', k' < k ∧ I k' pc vs h u v) F code pc (lmk 0 nL live vs) [] h1 u v
  rw [e2]
  refine ⟨hcat, [], fun _ _ _ _ _ _ => False, 4000, ?_, fun k pc live vs h1 u v hl => by cases hl⟩
  have e9 : (fun (pc : Nat) (vs : List AV) (h : Hp) (u v : Nat) => ∃ k : Nat, (fun (_ : Nat) (_ : Nat) (_ : List AV) (_ : Hp) (_ _ : Nat) => False) k pc vs h u v) = (fun _ _ _ _ _ => False) := by
    funext a b c d e
    exact propext ⟨fun ⟨_, q⟩ => q, fun q => q.elim⟩
  show aw true rk mc ms HT S [] Rt X none (fun _ => 0) code [] (fun pc vs h u v => ∃ k : Nat, (fun (_ : Nat) (_ : Nat) (_ : List AV) (_ : Hp) (_ _ : Nat) => False) k pc vs h u v) 4000 code 0 (lpad (lent as) nL) [] h 0 0
  rw [e9]
  exact g1
/-- the core, with what it makes told more closely: rows only where there is no model and none were made before -/
def s_X9_coreL : CS := (fun _ h => cond (Nat.beq (hN h) 78 && decide (nxt (hI h 63) 0 = -1)) (1, (20480, 7)) (0, (0, 7)), ap [(3, 0)] (fun h Rt X =>
  ∃ ps s, CI h (hI h 63) ps s ∧ (nxt (hI h 63) 0 ≠ -1 → Go h (hI h 63) ps s (Rt (some (.inl (-1))))) ∧ (nxt (hI h 63) 0 = -1 → ∀ g, CI g (hI h 63) ps s → Kp h g → hN g = 79 → Rt (some (.inl (coreF (hI h 63) (hI h 63 290).toNat))) g)))
set_option maxRecDepth 100000 in
set_option maxHeartbeats 4000000 in
theorem o_X9_coreL : Obl true 1 1 (sp [(97, s_X5_leastModel), (115, s_X5_minimalConflict)]) [] code_X9_core s_X9_coreL := by
  refine oblC (HT := 7) (by rfl) ?_
  intro  h Rt X hh hf hs
  obtain ⟨ps, s, hC, h2, h3⟩ := hs
  obtain ⟨w, hw⟩ : ∃ w, w = hI h 63 := ⟨_, rfl⟩
  rw [← hw] at hC h2 h3
  have hW := hC.wf
  have hG := hC.gh
  have hS := hC.st
  have hK := hC.sk
  have S : ∀ F R Q L, FM w (hI h 46) F L → CI (se h F R Q L) w ps s := fun F R Q L hf => hC.se hf.sk R Q
  obtain ⟨n, q⟩ := h
  rcases hC.rn.o with ⟨n9, e⟩ | ⟨n9, e⟩
  · obtain rfl : n = 78 := n9
    by_cases z : nxt w 0 = -1
    · refine ⟨1, 20480, by show cond (Nat.beq 78 78 && decide (nxt (hI (78, q) 63) 0 = -1)) _ _ = _; rw [← hw, decide_eq_true z]; rfl, ?_⟩
      have C : ∀ F R Q L g, FM w (hI (78, q) 46) F L → CrH (se (78, q) F R Q L) g → Rt (some (.inl (coreF w (w 290).toNat))) g := fun F R Q L g hf c => h3 z _ ((S F R Q L hf).cr c) ((Kp.se _ _ _ _ _).tr (Kp.cr c)) c.o.1
      repeat' (first | apply And.intro | (with_reducible assumption) | (intro h9; first | (exfalso; omega) | (simp only [rI_rI, rJ_rJ, hI_rI, hJ_rI, hI_rJ, hJ_rJ, hI_rR, hR_rI, hR_rJ, hN_rI, hN_rJ, svH_63, svH_66, rfH_63, wvH_63, wvH_62, wvH_67, wvH_68, wvH_69, sc_63, sc_n62, sc_n67, sc_n68, sc_n69, sc_n70, reduceIte, Nat.reduceEqDiff, eq_self, up_up, up_self, up_ne, ne_eq, not_false_eq_true, Int.reduceEq, Int.reduceNeg] at h9; first | (exfalso; omega) | skip) | skip) | refine Exists.intro w ?_ | exact hG | exact hW | exact hS | exact hK | exact (S _ _ _ _ (by assumption)).gh | exact (S _ _ _ _ (by assumption)).st | exact (S _ _ _ _ (by assumption)).rn | exact C _ _ _ _ _ (by assumption) (by assumption) | exact h2 | exact h2 (by omega) | exact h3 | exact h3 (by omega) | omega | exact True.intro | (simp only [rI_rI, rJ_rJ, hI_rI, hJ_rI, hI_rJ, hJ_rJ, hI_rR, hR_rI, hR_rJ, hN_rI, hN_rJ, svH_63, svH_66, rfH_63, wvH_63, wvH_62, wvH_67, wvH_68, wvH_69, sc_63, sc_n62, sc_n67, sc_n68, sc_n69, sc_n70, reduceIte, Nat.reduceEqDiff, eq_self, up_up, up_self, up_ne, ne_eq, not_false_eq_true, Int.reduceEq, Int.reduceNeg]; omega))
    · refine ⟨0, 0, by show cond (Nat.beq 78 78 && decide (nxt (hI (78, q) 63) 0 = -1)) _ _ = _; rw [← hw, decide_eq_false z]; rfl, ?_⟩
      have C : ∀ F R Q L, FM w (hI (78, q) 46) F L → Rt (some (.inl (-1))) (se (78, q) F R Q L) := fun F R Q L hf => h2 z _ (S F R Q L hf) (Kp.se _ _ _ _ _)
      repeat' (first | apply And.intro | (with_reducible assumption) | (intro h9; first | (exfalso; omega) | (simp only [rI_rI, rJ_rJ, hI_rI, hJ_rI, hI_rJ, hJ_rJ, hI_rR, hR_rI, hR_rJ, hN_rI, hN_rJ, svH_63, svH_66, rfH_63, wvH_63, wvH_62, wvH_67, wvH_68, wvH_69, sc_63, sc_n62, sc_n67, sc_n68, sc_n69, sc_n70, reduceIte, Nat.reduceEqDiff, eq_self, up_up, up_self, up_ne, ne_eq, not_false_eq_true, Int.reduceEq, Int.reduceNeg] at h9; first | (exfalso; omega) | skip) | skip) | refine Exists.intro w ?_ | exact hG | exact hW | exact hS | exact hK | exact C _ _ _ _ (by assumption) | exact h2 | exact h2 (by omega) | exact h3 | exact h3 (by omega) | omega | exact True.intro | (simp only [rI_rI, rJ_rJ, hI_rI, hJ_rI, hI_rJ, hJ_rJ, hI_rR, hR_rI, hR_rJ, hN_rI, hN_rJ, svH_63, svH_66, rfH_63, wvH_63, wvH_62, wvH_67, wvH_68, wvH_69, sc_63, sc_n62, sc_n67, sc_n68, sc_n69, sc_n70, reduceIte, Nat.reduceEqDiff, eq_self, up_up, up_self, up_ne, ne_eq, not_false_eq_true, Int.reduceEq, Int.reduceNeg]; omega))
  · obtain rfl : n = 79 := n9
    refine ⟨0, 0, rfl, ?_⟩
    by_cases z : nxt w 0 = -1
    · have C : ∀ F R Q L g, FM w (hI (79, q) 46) F L → CrH (se (79, q) F R Q L) g → Rt (some (.inl (coreF w (w 290).toNat))) g := fun F R Q L g hf c => h3 z _ ((S F R Q L hf).cr c) ((Kp.se _ _ _ _ _).tr (Kp.cr c)) c.o.1
      repeat' (first | apply And.intro | (with_reducible assumption) | (intro h9; first | (exfalso; omega) | (simp only [rI_rI, rJ_rJ, hI_rI, hJ_rI, hI_rJ, hJ_rJ, hI_rR, hR_rI, hR_rJ, hN_rI, hN_rJ, svH_63, svH_66, rfH_63, wvH_63, wvH_62, wvH_67, wvH_68, wvH_69, sc_63, sc_n62, sc_n67, sc_n68, sc_n69, sc_n70, reduceIte, Nat.reduceEqDiff, eq_self, up_up, up_self, up_ne, ne_eq, not_false_eq_true, Int.reduceEq, Int.reduceNeg] at h9; first | (exfalso; omega) | skip) | skip) | refine Exists.intro w ?_ | exact hG | exact hW | exact hS | exact hK | exact (S _ _ _ _ (by assumption)).gh | exact (S _ _ _ _ (by assumption)).st | exact (S _ _ _ _ (by assumption)).rn | exact C _ _ _ _ _ (by assumption) (by assumption) | exact h2 | exact h2 (by omega) | exact h3 | exact h3 (by omega) | omega | exact True.intro | (simp only [rI_rI, rJ_rJ, hI_rI, hJ_rI, hI_rJ, hJ_rJ, hI_rR, hR_rI, hR_rJ, hN_rI, hN_rJ, svH_63, svH_66, rfH_63, wvH_63, wvH_62, wvH_67, wvH_68, wvH_69, sc_63, sc_n62, sc_n67, sc_n68, sc_n69, sc_n70, reduceIte, Nat.reduceEqDiff, eq_self, up_up, up_self, up_ne, ne_eq, not_false_eq_true, Int.reduceEq, Int.reduceNeg]; omega))
    · have C : ∀ F R Q L, FM w (hI (79, q) 46) F L → Rt (some (.inl (-1))) (se (79, q) F R Q L) := fun F R Q L hf => h2 z _ (S F R Q L hf) (Kp.se _ _ _ _ _)
      repeat' (first | apply And.intro | (with_reducible assumption) | (intro h9; first | (exfalso; omega) | (simp only [rI_rI, rJ_rJ, hI_rI, hJ_rI, hI_rJ, hJ_rJ, hI_rR, hR_rI, hR_rJ, hN_rI, hN_rJ, svH_63, svH_66, rfH_63, wvH_63, wvH_62, wvH_67, wvH_68, wvH_69, sc_63, sc_n62, sc_n67, sc_n68, sc_n69, sc_n70, reduceIte, Nat.reduceEqDiff, eq_self, up_up, up_self, up_ne, ne_eq, not_false_eq_true, Int.reduceEq, Int.reduceNeg] at h9; first | (exfalso; omega) | skip) | skip) | refine Exists.intro w ?_ | exact hG | exact hW | exact hS | exact hK | exact C _ _ _ _ (by assumption) | exact h2 | exact h2 (by omega) | exact h3 | exact h3 (by omega) | omega | exact True.intro | (simp only [rI_rI, rJ_rJ, hI_rI, hJ_rI, hI_rJ, hJ_rJ, hI_rR, hR_rI, hR_rJ, hN_rI, hN_rJ, svH_63, svH_66, rfH_63, wvH_63, wvH_62, wvH_67, wvH_68, wvH_69, sc_63, sc_n62, sc_n67, sc_n68, sc_n69, sc_n70, reduceIte, Nat.reduceEqDiff, eq_self, up_up, up_self, up_ne, ne_eq, not_false_eq_true, Int.reduceEq, Int.reduceNeg]; omega))

theorem m_X9_coreL : MM 163 s_X9_coreL := mm_of (own := 8) (by rfl) k_X9_core (cl := [(97, s_X5_leastModel), (115, s_X5_minimalConflict)]) ⟨m_X5_leastModel, m_X5_minimalConflict, trivial⟩ o_X9_coreL
theorem rwN_n {h : Hp} (r : RwN h) : 78 ≤ hN h ∧ hN h ≤ 79 := by
  rcases r.o with ⟨a, -⟩ | ⟨a, -⟩ <;> omega
theorem c_coreL {h : Hp} (L : LI h) : s_X9_coreL.2 [aX 0] h (Pq fun x g => ((78 ≤ hN g ∧ hN g ≤ 79) ∧ (nxt (hI h 63) 0 = -1 → hN g = 79)) ∧ s_X10_core.2 [aX 62] g (Ee x) NoX) NoX := by
  refine Exists.intro (hI h 64) (Exists.intro (hI h 62 3) (And.intro L.ci (And.intro (fun z g c k9 => ?_) (fun z g c k9 n9 => ?_))))
  · have M := Md.k c k9
    have e63 := M.i (a := 63) (by decide)
    exact ⟨⟨rwN_n c.rn, fun y => absurd y z⟩, (L.wf' M).1, (L.wf' M).2, fun _ F a b d fz fr => ⟨(L.scz (a := a) (b := b) M fz fr).1, rfl⟩, fun q => absurd (by rw [e63] at q; exact q) z⟩
  · have M := Md.k c k9
    have e63 := M.i (a := 63) (by decide)
    exact ⟨⟨rwN_n c.rn, fun _ => n9⟩, (L.wf' M).1, (L.wf' M).2, fun q => absurd z (by rw [e63] at q; exact q), fun _ F a b d fz fr => ⟨(L.scz (a := a) (b := b) M fz fr).1, by rw [e63]⟩⟩
/-- what has been made up to the round i: 4 cells and 24 slots a round, once the rows of conflicts -/
def Bg (i : Int) (h : Hp) (u v : Nat) : Prop := Box (78 ≤ hN h ∧ hN h ≤ 79 ∧ (u : Int) ≤ 100 + i + ((hN h : Int) - 78) ∧ (v : Int) ≤ 80000 + 6 * i + 20480 * ((hN h : Int) - 78))
theorem Bg.bd {i n : Int} {h : Hp} {u v : Nat} (B : Bg i h u v) (i0 : 0 ≤ i) (i4 : i + 4 ≤ n) (hn : n ≤ 2048) : u ≤ 600000 ∧ v ≤ 7000000 := by
  obtain ⟨b1, b2, b3, b4⟩ := B.o
  constructor <;> omega
theorem LI.n {h : Hp} (L : LI h) : 78 ≤ hN h ∧ hN h ≤ 79 := rwN_n L.ci.rn
theorem Bg.st {i : Int} {h g : Hp} {u v u9 v9 : Nat} (B : Bg i h u v) (n : hN h ≤ hN g) (L : LI g) (hu : u9 ≤ u + 4) (hv : v9 ≤ v + 24) : Bg (i + 4) g u9 v9 := by
  obtain ⟨b1, b2, b3, b4⟩ := B.o
  obtain ⟨n1, n2⟩ := L.n
  refine Box.i ⟨n1, n2, ?_, ?_⟩ <;> omega
def EnB (x : Int) : Option AV → Hp → Prop := fun r g => En x r g ∧ (r = some (.inl 0) ∨ r = some (.inl 1))
theorem c_equivalentB {h : Hp} (L : LI h) (p q : Int) : s_L_equivalent.2 [aX 0, .inl p, .inl q, aX 77] h (Pq fun c g => s_X10_equivalent.2 [aX 62, .inl p, .inl q] g (EnB c) NoX) NoX := by
  refine Exists.intro (hI h 63) (Exists.intro (hI h 64) (Exists.intro (hI h 62 3) (And.intro L.ci (And.intro (fun z => ?_) (And.intro (fun z y => ?_) (And.intro (fun z y u g c k9 => ?_) (fun z y u g c k9 => ?_)))))))
  · have M := Md.rf L.ci
    exact ⟨(L.wf' M).1, (L.wf' M).2, fun _ => ⟨En.rf L M (by decide), Or.inl rfl⟩, fun a => absurd a z, fun a => absurd a z⟩
  · have M := Md.rf L.ci
    exact ⟨(L.wf' M).1, (L.wf' M).2, fun a => absurd z a, fun _ _ => ⟨En.rf L M (by decide), Or.inl rfl⟩, fun _ a => absurd a y⟩
  · obtain ⟨M, hb⟩ := Md.x77 c k9 1
    have e63 := M.i (a := 63) (by decide)
    exact ⟨(L.wf' M).1, (L.wf' M).2, fun a => absurd z (by rw [e63] at a; exact a), fun _ a => absurd y (by rw [e63] at a; exact a), fun _ _ F a b d fz fr => ⟨fun _ => ⟨En.sc L M fz fr (by rw [hb, dc_1]), Or.inr rfl⟩, fun a => absurd u (by rw [e63] at a; exact a)⟩⟩
  · obtain ⟨M, hb⟩ := Md.x77 c k9 0
    have e63 := M.i (a := 63) (by decide)
    exact ⟨(L.wf' M).1, (L.wf' M).2, fun a => absurd z (by rw [e63] at a; exact a), fun _ a => absurd y (by rw [e63] at a; exact a), fun _ _ F a b d fz fr => ⟨fun a => absurd (by rw [e63] at a; exact a) u, fun _ => ⟨En.sc L M fz fr (by rw [hb, dc_0]), Or.inl rfl⟩⟩⟩
def clW : List (Nat × CS) := [(302, wk s_L_variable), (205, wk s_X10_variable), (190, wk s_X10_thrown), (303, wk s_L_constant), (207, wk s_X10_constant), (304, wk s_L_binary), (210, wk s_X10_binary), (305, wk s_L_unary), (211, wk s_X10_unary), (306, wk s_L_slice), (213, wk s_X10_slice), (307, wk s_L_extend), (215, wk s_X10_extend), (308, wk s_L_choice), (217, wk s_X10_choice), (143, wk s_X9_nodes), (218, wk s_X10_nodes), (144, wk s_X9_variables), (219, wk s_X10_variables), (309, wk s_L_info), (222, wk s_X10_info), (310, wk s_L_input), (223, wk s_X10_input), (311, wk s_L_value), (231, wk s_X10_value), (312, wk s_L_require), (232, wk s_X10_require), (313, wk s_L_push), (233, wk s_X10_push), (314, wk s_L_pop), (234, wk s_X10_pop), (151, wk s_X9_constraints), (235, wk s_X10_constraints), (315, wk s_L_constraint), (236, wk s_X10_constraint), (153, wk s_X9_satisfiable), (240, wk s_X10_satisfiable), (316, wk s_L_witness), (241, wk s_X10_witness), (317, wk s_L_extreme), (243, wk s_X10_extreme), (318, wk s_L_extremeWitness), (244, wk s_X10_extremeWitness), (319, wk s_L_fixed), (245, wk s_X10_fixed), (320, wk s_L_models), (246, wk s_X10_models), (321, wk s_L_values), (248, wk s_X10_values), (322, wk s_L_valueAt), (249, wk s_X10_valueAt), (323, wk s_L_equivalent), (251, wk s_X10_equivalent), (324, wk s_L_counterexample), (252, wk s_X10_counterexample), (163, wk s_X9_coreL), (254, wk s_X10_core), (325, wk s_L_wish), (255, wk s_X10_wish), (165, wk s_X9_clearWishes), (256, wk s_X10_clearWishes), (166, wk s_X9_gain), (258, wk s_X10_gain), (326, wk s_L_bestWitness), (259, wk s_X10_bestWitness), (327, wk s_L_append), (260, wk s_X10_append), (169, wk s_X9_clearText), (261, wk s_X10_clearText), (170, wk s_X9_syntaxError), (277, wk s_X10_syntaxError), (328, wk s_L_read), (280, wk s_X10_read), (329, wk s_L_write), (285, wk s_X10_write), (173, wk s_X9_character), (262, wk s_X10_character), (330, wk s_L_undo), (195, wk s_X10_undo), (175, wk s_X9_digest), (287, wk s_X10_digest)]
theorem mm_clW : allMM clW := ⟨mm_wk m_L_variable, mm_wk m_X10_variable, mm_wk m_X10_thrown, mm_wk m_L_constant, mm_wk m_X10_constant, mm_wk m_L_binary, mm_wk m_X10_binary, mm_wk m_L_unary, mm_wk m_X10_unary, mm_wk m_L_slice, mm_wk m_X10_slice, mm_wk m_L_extend, mm_wk m_X10_extend, mm_wk m_L_choice, mm_wk m_X10_choice, mm_wk m_X9_nodes, mm_wk m_X10_nodes, mm_wk m_X9_variables, mm_wk m_X10_variables, mm_wk m_L_info, mm_wk m_X10_info, mm_wk m_L_input, mm_wk m_X10_input, mm_wk m_L_value, mm_wk m_X10_value, mm_wk m_L_require, mm_wk m_X10_require, mm_wk m_L_push, mm_wk m_X10_push, mm_wk m_L_pop, mm_wk m_X10_pop, mm_wk m_X9_constraints, mm_wk m_X10_constraints, mm_wk m_L_constraint, mm_wk m_X10_constraint, mm_wk m_X9_satisfiable, mm_wk m_X10_satisfiable, mm_wk m_L_witness, mm_wk m_X10_witness, mm_wk m_L_extreme, mm_wk m_X10_extreme, mm_wk m_L_extremeWitness, mm_wk m_X10_extremeWitness, mm_wk m_L_fixed, mm_wk m_X10_fixed, mm_wk m_L_models, mm_wk m_X10_models, mm_wk m_L_values, mm_wk m_X10_values, mm_wk m_L_valueAt, mm_wk m_X10_valueAt, mm_wk m_L_equivalent, mm_wk m_X10_equivalent, mm_wk m_L_counterexample, mm_wk m_X10_counterexample, mm_wk m_X9_coreL, mm_wk m_X10_core, mm_wk m_L_wish, mm_wk m_X10_wish, mm_wk m_X9_clearWishes, mm_wk m_X10_clearWishes, mm_wk m_X9_gain, mm_wk m_X10_gain, mm_wk m_L_bestWitness, mm_wk m_X10_bestWitness, mm_wk m_L_append, mm_wk m_X10_append, mm_wk m_X9_clearText, mm_wk m_X10_clearText, mm_wk m_X9_syntaxError, mm_wk m_X10_syntaxError, mm_wk m_L_read, mm_wk m_X10_read, mm_wk m_L_write, mm_wk m_X10_write, mm_wk m_X9_character, mm_wk m_X10_character, mm_wk m_L_undo, mm_wk m_X10_undo, mm_wk m_X9_digest, mm_wk m_X10_digest, trivial⟩
def RtW : Option AV → Hp → Prop := fun r _ => r = some (.inl 1)
def XW : Nat → Hp → Prop := fun _ _ => False
def cutW : List (Nat × List Nat) := [(23, [0, 1, 2, 3, 4]), (2363, [0, 1, 2, 3, 4])]
theorem cmpL_z {x y : Int64} (h : x = y) : cmpL x y = 0 := by
  subst h
  unfold cmpL
  rw [if_neg (Int64.lt_irrefl), if_pos rfl]
section Dc
variable {MC MS HT : Nat} {S : Nat → CS} {hd : List (Nat × (Nat × (Nat × Nat)))} {X : Nat → Hp → Prop} {k : AK} {pc nx : Nat} {ls : LSt} {h : Hp} {c s n : Nat} {as rest : List AV} {cs : CS} {mc ms ht : Nat}
theorem dcR {R0 : Option AV → Hp → Prop} (hS : S n = wk cs) (e : cs.1 as h = (mc, (ms, ht))) (hb : Nat.ble (catS rest) 8 = true ∧ c + mc ≤ MC ∧ s + ms ≤ MS ∧ Nat.blt ht HT = true) (h0 : cs.2 as h R0 NoX)
    (h1 : ∀ r g, R0 r g → hN h ≤ hN g → k nx ls (putR r rest) g (c + mc) (s + ms)) : doC MC MS HT S hd X k pc nx ls h c s n as rest := by
  unfold doC
  rw [hS]
  have e2 : (wk cs).1 as h = (mc, (ms, ht)) := e
  rw [e2]
  refine ob_i ?_ ⟨R0, NoX, h0, h1, fun E g q => q.elim⟩
  rw [hb.1, Nat.ble_eq_true_of_le hb.2.1, Nat.ble_eq_true_of_le hb.2.2.1, hb.2.2.2]
  rfl
theorem dcI {P : Int → Hp → Prop} (hS : S n = wk cs) (e : cs.1 as h = (mc, (ms, ht))) (hb : Nat.ble (catS rest) 8 = true ∧ c + mc ≤ MC ∧ s + ms ≤ MS ∧ Nat.blt ht HT = true) (h0 : cs.2 as h (Pq P) NoX)
    (h1 : ∀ x g, P x g → hN h ≤ hN g → k nx ls (.inl x :: rest) g (c + mc) (s + ms)) : doC MC MS HT S hd X k pc nx ls h c s n as rest :=
  dcR hS e hb h0 fun r g q hn => by
    rcases r with _ | x | x | x
    · exact q.elim
    · exact h1 x g q hn
    · exact q.elim
    · exact q.elim
theorem dcIl {P : Int64 → Hp → Prop} (hS : S n = wk cs) (e : cs.1 as h = (mc, (ms, ht))) (hb : Nat.ble (catS rest) 8 = true ∧ c + mc ≤ MC ∧ s + ms ≤ MS ∧ Nat.blt ht HT = true) (h0 : cs.2 as h (Pql P) NoX)
    (h1 : ∀ x g, P x g → hN h ≤ hN g → k nx ls (.inr (.inl x) :: rest) g (c + mc) (s + ms)) : doC MC MS HT S hd X k pc nx ls h c s n as rest :=
  dcR hS e hb h0 fun r g q hn => by
    rcases r with _ | x | x | x
    · exact q.elim
    · exact q.elim
    · exact h1 x g q hn
    · exact q.elim
theorem dcE {x : Int} (hS : S n = wk cs) (e : cs.1 as h = (0, (0, ht))) (hb : Nat.ble (catS rest) 8 = true ∧ c ≤ MC ∧ s ≤ MS ∧ Nat.blt ht HT = true) (h0 : cs.2 as h (En x) NoX)
    (h1 : ∀ b g, LI g → hI g 62 4 = x → (x = 0 → hJ g 77 0 = i2L b) → hN h ≤ hN g → k nx ls (.inl b :: rest) g c s) : doC MC MS HT S hd X k pc nx ls h c s n as rest :=
  dcR hS e hb h0 fun r g q hn => by
    rcases r with _ | b | b | b
    · exact q.elim
    · exact h1 b g q.1 q.2.1 q.2.2 hn
    · exact q.elim
    · exact q.elim
theorem dcEB {x : Int} (hS : S n = wk cs) (e : cs.1 as h = (0, (0, ht))) (hb : Nat.ble (catS rest) 8 = true ∧ c ≤ MC ∧ s ≤ MS ∧ Nat.blt ht HT = true) (h0 : cs.2 as h (EnB x) NoX)
    (h1 : ∀ b g, LI g → hI g 62 4 = x → (x = 0 → hJ g 77 0 = i2L b) → (b = 0 ∨ b = 1) → hN h ≤ hN g → k nx ls (.inl b :: rest) g c s) : doC MC MS HT S hd X k pc nx ls h c s n as rest :=
  dcR hS e hb h0 fun r g q hn => by
    rcases r with _ | b | b | b
    · exact q.1.elim
    · exact h1 b g q.1.1 q.1.2.1 q.1.2.2 (by rcases q.2 with z | z <;> cases z <;> simp) hn
    · exact q.1.elim
    · exact q.1.elim
theorem dcF {x : Int} (hS : S n = wk cs) (e : cs.1 as h = (0, (0, ht))) (hb : Nat.ble (catS rest) 8 = true ∧ c ≤ MC ∧ s ≤ MS ∧ Nat.blt ht HT = true) (h0 : cs.2 as h (Ee x) NoX)
    (h1 : ∀ g, LI g → hN h ≤ hN g → k nx ls (.inl x :: rest) g c s) : doC MC MS HT S hd X k pc nx ls h c s n as rest :=
  dcR hS e hb h0 fun r g q hn => by
    rcases r with _ | b | b | b
    · exact q.elim
    · obtain ⟨q1, rfl⟩ := q; exact h1 g q1 hn
    · exact q.elim
    · exact q.elim
theorem dcG {x : Int64} (hS : S n = wk cs) (e : cs.1 as h = (0, (0, ht))) (hb : Nat.ble (catS rest) 8 = true ∧ c ≤ MC ∧ s ≤ MS ∧ Nat.blt ht HT = true) (h0 : cs.2 as h (El x) NoX)
    (h1 : ∀ g, LI g → hN h ≤ hN g → k nx ls (.inr (.inl x) :: rest) g c s) : doC MC MS HT S hd X k pc nx ls h c s n as rest :=
  dcR hS e hb h0 fun r g q hn => by
    rcases r with _ | b | b | b
    · exact q.elim
    · exact q.elim
    · obtain ⟨q1, rfl⟩ := q; exact h1 g q1 hn
    · exact q.elim
theorem dcT (hS : S n = wk s_X10_thrown) (ha : as = [aX 62]) (hb : Nat.ble (catS rest) 8 = true ∧ c ≤ MC ∧ s ≤ MS ∧ Nat.blt 1 HT = true)
    (h1 : k nx ls (.inl (hI h 62 4) :: rest) h c s) : doC MC MS HT S hd X k pc nx ls h c s n as rest :=
  dcR (cs := s_X10_thrown) (R0 := fun r g => r = some (.inl (hI h 62 4)) ∧ g = h) hS (mc := 0) (ms := 0) (ht := 1) rfl hb (by rw [ha]; exact ⟨rfl, rfl⟩) fun r g q hn => by
    obtain ⟨rfl, rfl⟩ := q
    exact h1
theorem dcC {i nn : Int} (hS : S n = wk s_X9_coreL) (ha : as = [aX 0]) (i0 : 0 ≤ i) (i4 : i + 4 ≤ nn) (hnn : nn ≤ 2048) (B : Bg i h c s) (L : LI h) (hr : rest = []) (hM : MC = 601024 ∧ MS = 7293034 ∧ HT = 100)
    (h1 : ∀ x g c9 s9, Bg i g c9 s9 → s_X10_core.2 [aX 62] g (Ee x) NoX → k nx ls [.inl x] g c9 s9) : doC MC MS HT S hd X k pc nx ls h c s n as rest := by
  subst hr
  subst ha
  obtain ⟨rfl, rfl, rfl⟩ := hM
  have bd := B.bd i0 i4 hnn
  obtain ⟨b1, b2, b3, b4⟩ := B.o
  cases z : (Nat.beq (hN h) 78 && decide (nxt (hI h 63) 0 = -1)) with
  | true =>
    have e : s_X9_coreL.1 [aX 0] h = (1, (20480, 7)) := by
      show cond _ _ _ = _
      rw [z]
      rfl
    rw [Bool.and_eq_true] at z
    have z1 := Nat.eq_of_beq_eq_true z.1
    have z2 := of_decide_eq_true z.2
    refine dcI hS e ⟨rfl, by omega, by omega, rfl⟩ (c_coreL L) fun x g q n9 => h1 x g _ _ ?_ q.2
    have n2 := q.1.2 z2
    exact Box.i ⟨by omega, by omega, by omega, by omega⟩
  | false =>
    have e : s_X9_coreL.1 [aX 0] h = (0, (0, 7)) := by
      show cond _ _ _ = _
      rw [z]
      rfl
    refine dcI hS e ⟨rfl, by omega, by omega, rfl⟩ (c_coreL L) fun x g q n9 => h1 x g _ _ ?_ q.2
    have n2 := q.1.1
    exact Box.i ⟨by omega, by omega, by omega, by omega⟩
end Dc

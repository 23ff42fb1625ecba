/-! ===== the reference: what the calls tell of the models ===== -/
theorem sc_rI62 (h : Hp) (X F a b c : Int → Int) : sc (rI h 62 X) F a b c = sc h F a b c := by
  rw [sc_of_62, sc_sc]
theorem sc_rf (h : Hp) (x : Int) (F a b c : Int → Int) : sc (rfH h x) F a b c = sc h F a b c := sc_rI62 h _ F a b c
theorem rt_v {Rt : Option AV → Hp → Prop} {x x' : Int} {h h' : Hp} (hs : Rt (some (.inl x')) h') (e1 : x' = x) (e2 : h' = h) : Rt (some (.inl x)) h := e1 ▸ e2 ▸ hs
theorem sc_x3 (h : Hp) (F a b c X F' a' b' c' a2 b2 : Int → Int) : sc h F' a2 b2 c' = wvH (sc (rI (sc h F a b c) 62 X) F' a' b' c') a2 b2 := by rw [sc_62, sc_sc, sc_wv]
def wrd (w : Int → Int) (N v : Int) : Int := if N = -1 then -1 else asg w N v
theorem FR.rf {w F c : Int → Int} {x : Int} (h : FR w F c) : FR w (up F 4 x) c := h
def s_X10_satisfiable : CS := (zc 8, ap [(3, 62)] (fun  h Rt X =>
WF (hI h 63) ∧ FR (hI h 63) (hI h 62) (hI h 69) ∧ (nxt (hI h 63) 0 = -1 → ∀ F a b c, Fz (up (hI h 62) 4 0) F → FR (hI h 63) F c → Rt (some (.inl 0)) (sc (rfH h 0) F a b c)) ∧ (nxt (hI h 63) 0 ≠ -1 → ∀ F a b c, Fz (up (hI h 62) 4 0) F → FR (hI h 63) F c → Rt (some (.inl 1)) (sc (rfH h 0) F a b c))))
set_option maxRecDepth 100000 in
set_option maxHeartbeats 4000000 in
theorem o_X10_satisfiable : Obl true 2 1 (sp [(238, s_X10_model)]) [] code_X10_satisfiable s_X10_satisfiable := by
  refine obl0 (by rfl) ?_
  intro  h Rt X hh hf hs
  obtain ⟨h1, h2, h3, h4⟩ := hs
  have k2 := h2.rf (x := 0)
  repeat' (first | apply And.intro | (with_reducible assumption) | (intro h9; first | (exfalso; omega) | (simp only [rI_rI, rJ_rJ, hI_rI, hJ_rI, hI_rJ, hJ_rJ, hR_rI, hR_rJ, hN_rI, hN_rJ, svH_63, svH_66, rfH_63, wvH_63, wvH_62, wvH_67, wvH_68, wvH_69, sc_63, sc_n62, sc_n67, sc_n68, sc_n69, sc_n70, reduceIte, Nat.reduceEqDiff, eq_self, up_up, up_self, up_ne, ne_eq, not_false_eq_true, Int.reduceEq, Int.reduceNeg] at h9; first | (exfalso; omega) | skip) | skip) | exact h1 | exact k2 | exact h3 (by omega) _ _ _ _ (by assumption) (by assumption) | exact h4 (by omega) _ _ _ _ (by assumption) (by assumption) | exact h1 | exact h1 (by omega) | exact h2 | exact h2 (by omega) | exact h3 | exact h3 (by omega) | exact h4 | exact h4 (by omega) | omega | exact True.intro | (simp only [rI_rI, rJ_rJ, hI_rI, hJ_rI, hI_rJ, hJ_rJ, hR_rI, hR_rJ, hN_rI, hN_rJ, svH_63, svH_66, rfH_63, wvH_63, wvH_62, wvH_67, wvH_68, wvH_69, sc_63, sc_n62, sc_n67, sc_n68, sc_n69, sc_n70, reduceIte, Nat.reduceEqDiff, eq_self, up_up, up_self, up_ne, ne_eq, not_false_eq_true, Int.reduceEq, Int.reduceNeg]; omega))
theorem m_X10_satisfiable : MM 240 s_X10_satisfiable := mm_of (own := 9) (by rfl) k_X10_satisfiable (cl := [(238, s_X10_model)]) ⟨m_X10_model, trivial⟩ o_X10_satisfiable
def s_X10_witness : CS := (zc 8, ap [(3, 62), (0, 0)] (fun v h Rt X =>
WF (hI h 63) ∧ FR (hI h 63) (hI h 62) (hI h 69) ∧ (¬ (0 ≤ v ∧ v < hI h 63 281) → Rt (some (.inl 0)) (rfH h 1)) ∧ (0 ≤ v ∧ v < hI h 63 281 → ∀ F a b c, Fz (up (hI h 62) 4 0) F → FR (hI h 63) F c → Rt (some (.inl (wrd (hI h 63) (nxt (hI h 63) 0) v))) (sc (rfH h 0) F a b c))))
set_option maxRecDepth 100000 in
set_option maxHeartbeats 4000000 in
theorem o_X10_witness : Obl true 1 2 (sp [(200, s_X10_isVariable), (193, s_X10_need), (191, s_X10_refused), (238, s_X10_model), (239, s_X10_wordOf)]) [] code_X10_witness s_X10_witness := by
  refine obl0 (by rfl) ?_
  intro v r_v h Rt X hh hf hs
  obtain ⟨h1, h2, h3, h4⟩ := hs
  have k2 := h2.rf (x := 0)
  have vn := h1.vn
  have n0 := nxt_lt h1 0
  by_cases c : 0 ≤ v ∧ v < hI h 63 281
  · have k4 := h4 c
    unfold wrd at k4
    by_cases z : nxt (hI h 63) 0 = -1
    · rw [if_pos z] at k4
      repeat' (first | apply And.intro | (with_reducible assumption) | (intro h9; first | (exfalso; omega) | (simp only [rI_rI, rJ_rJ, hI_rI, hJ_rI, hI_rJ, hJ_rJ, hR_rI, hR_rJ, hN_rI, hN_rJ, svH_63, svH_66, rfH_63, wvH_63, wvH_62, wvH_67, wvH_68, wvH_69, sc_63, sc_n62, sc_n67, sc_n68, sc_n69, sc_n70, reduceIte, Nat.reduceEqDiff, eq_self, up_up, up_self, up_ne, ne_eq, not_false_eq_true, Int.reduceEq, Int.reduceNeg] at h9; first | (exfalso; omega) | skip) | skip) | exact h1 | exact k2 | exact k4 _ _ _ _ (by assumption) (by assumption) | exact h1 | exact h1 (by omega) | exact h2 | exact h2 (by omega) | exact h3 | exact h3 (by omega) | exact h4 | exact h4 (by omega) | omega | exact True.intro | (simp only [rI_rI, rJ_rJ, hI_rI, hJ_rI, hI_rJ, hJ_rJ, hR_rI, hR_rJ, hN_rI, hN_rJ, svH_63, svH_66, rfH_63, wvH_63, wvH_62, wvH_67, wvH_68, wvH_69, sc_63, sc_n62, sc_n67, sc_n68, sc_n69, sc_n70, reduceIte, Nat.reduceEqDiff, eq_self, up_up, up_self, up_ne, ne_eq, not_false_eq_true, Int.reduceEq, Int.reduceNeg]; omega))
    · rw [if_neg z] at k4
      repeat' (first | apply And.intro | (with_reducible assumption) | (intro h9; first | (exfalso; omega) | (simp only [rI_rI, rJ_rJ, hI_rI, hJ_rI, hI_rJ, hJ_rJ, hR_rI, hR_rJ, hN_rI, hN_rJ, svH_63, svH_66, rfH_63, wvH_63, wvH_62, wvH_67, wvH_68, wvH_69, sc_63, sc_n62, sc_n67, sc_n68, sc_n69, sc_n70, reduceIte, Nat.reduceEqDiff, eq_self, up_up, up_self, up_ne, ne_eq, not_false_eq_true, Int.reduceEq, Int.reduceNeg] at h9; first | (exfalso; omega) | skip) | skip) | exact h1 | exact k2 | exact rt_eq (Rt := Rt) (k4 _ _ _ _ (by assumption) (by assumption)) rfl (sc_wv' _ _ _ _ _ _ _) | exact h1 | exact h1 (by omega) | exact h2 | exact h2 (by omega) | exact h3 | exact h3 (by omega) | exact h4 | exact h4 (by omega) | omega | exact True.intro | (simp only [rI_rI, rJ_rJ, hI_rI, hJ_rI, hI_rJ, hJ_rJ, hR_rI, hR_rJ, hN_rI, hN_rJ, svH_63, svH_66, rfH_63, wvH_63, wvH_62, wvH_67, wvH_68, wvH_69, sc_63, sc_n62, sc_n67, sc_n68, sc_n69, sc_n70, reduceIte, Nat.reduceEqDiff, eq_self, up_up, up_self, up_ne, ne_eq, not_false_eq_true, Int.reduceEq, Int.reduceNeg]; omega))
  · repeat' (first | apply And.intro | (with_reducible assumption) | (intro h9; first | (exfalso; omega) | (simp only [rI_rI, rJ_rJ, hI_rI, hJ_rI, hI_rJ, hJ_rJ, hR_rI, hR_rJ, hN_rI, hN_rJ, svH_63, svH_66, rfH_63, wvH_63, wvH_62, wvH_67, wvH_68, wvH_69, sc_63, sc_n62, sc_n67, sc_n68, sc_n69, sc_n70, reduceIte, Nat.reduceEqDiff, eq_self, up_up, up_self, up_ne, ne_eq, not_false_eq_true, Int.reduceEq, Int.reduceNeg] at h9; first | (exfalso; omega) | skip) | skip) | exact h3 c | exact h1 | exact h1 (by omega) | exact h2 | exact h2 (by omega) | exact h3 | exact h3 (by omega) | exact h4 | exact h4 (by omega) | omega | exact True.intro | (simp only [rI_rI, rJ_rJ, hI_rI, hJ_rI, hI_rJ, hJ_rJ, hR_rI, hR_rJ, hN_rI, hN_rJ, svH_63, svH_66, rfH_63, wvH_63, wvH_62, wvH_67, wvH_68, wvH_69, sc_63, sc_n62, sc_n67, sc_n68, sc_n69, sc_n70, reduceIte, Nat.reduceEqDiff, eq_self, up_up, up_self, up_ne, ne_eq, not_false_eq_true, Int.reduceEq, Int.reduceNeg]; omega))
theorem isB_ex {w g : Int → Int} {r : Int} (h : isB (mdl w) g (tot w) r) (e : nxt w 0 ≠ -1) : r ≠ -1 := by
  rcases h.o with ⟨rfl, h1⟩ | ⟨h1, -⟩
  · obtain ⟨a, -, b, c, -⟩ := nxt_some e
    rw [h1 _ a b] at c
    cases c
  · omega
theorem isB_no {w g : Int → Int} {r : Int} (h : isB (mdl w) g (tot w) r) (e : nxt w 0 = -1) : r = -1 := by
  rcases h.o with ⟨q, -⟩ | ⟨h1, h2, h3, -⟩
  · exact q
  · rw [nxt_none e _ h1 h1 h2] at h3
    cases h3
theorem m_X10_witness : MM 241 s_X10_witness := mm_of (own := 9) (by rfl) k_X10_witness (cl := [(200, s_X10_isVariable), (193, s_X10_need), (191, s_X10_refused), (238, s_X10_model), (239, s_X10_wordOf)]) ⟨m_X10_isVariable, m_X10_need, m_X10_refused, m_X10_model, m_X10_wordOf, trivial⟩ o_X10_witness
def s_X10_extreme : CS := (zc 9, ap [(3, 62), (0, 0), (0, 0), (0, 0)] (fun n gr sg h Rt X =>
WF (hI h 63) ∧ FR (hI h 63) (hI h 62) (hI h 69) ∧ (¬ (0 ≤ n ∧ n < hI h 63 0) → Rt (some (.inl 0)) (rfH h 1)) ∧ (0 ≤ n ∧ n < hI h 63 0 → nxt (hI h 63) 0 = -1 → ∀ F a b c, Fz (hI h 62) F → FR (hI h 63) F c → Rt (some (.inl 0)) (sc h (up F 4 2) a b c)) ∧
(0 ≤ n ∧ n < hI h 63 0 → nxt (hI h 63) 0 ≠ -1 → ∀ r F a b c, isB (mdl (hI h 63)) (gS (hI h 63) n gr sg) (tot (hI h 63)) r → Fz (up (hI h 62) 4 0) F → FR (hI h 63) F c → Rt (some (.inl (gV (hI h 63) n sg r))) (sc h F a b c))))
set_option maxRecDepth 100000 in
set_option maxHeartbeats 4000000 in
theorem o_X10_extreme : Obl true 1 4 (sp [(199, s_X10_isNode), (238, s_X10_model), (191, s_X10_refused), (242, s_X10_extremeModel), (230, s_X10_laysAssignment), (198, s_X10_width), (224, s_X10_signed)]) [] code_X10_extreme s_X10_extreme := by
  refine obl0 (by rfl) ?_
  intro n r_n gr r_gr sg r_sg h Rt X hh hf hs
  obtain ⟨h1, h2, h3, h4, h5⟩ := hs
  have nn := h1.nn
  have tt := tot_rng h1
  have n0 := nxt_lt h1 0
  by_cases c : 0 ≤ n ∧ n < hI h 63 0
  · have wd := h1.wd c.1 c.2
    by_cases z : nxt (hI h 63) 0 = -1
    · repeat' (first | apply And.intro | (with_reducible assumption) | (intro h9; first | (exfalso; omega) | (simp only [rI_rI, rJ_rJ, hI_rI, hJ_rI, hI_rJ, hJ_rJ, hR_rI, hR_rJ, hN_rI, hN_rJ, svH_63, svH_66, rfH_63, wvH_63, wvH_62, wvH_67, wvH_68, wvH_69, sc_63, sc_n62, sc_n67, sc_n68, sc_n69, sc_n70, reduceIte, Nat.reduceEqDiff, eq_self, up_up, up_self, up_ne, ne_eq, not_false_eq_true, Int.reduceEq, Int.reduceNeg] at h9; first | (exfalso; omega) | skip) | skip) | exact h1 | exact h2 | exact rt_eq (Rt := Rt) (h4 c z _ _ _ _ (by assumption) (by assumption)) rfl (sc_62 _ _ _ _ _ _).symm | exact h1 | exact h1 (by omega) | exact h2 | exact h2 (by omega) | exact h3 | exact h3 (by omega) | exact h4 | exact h4 (by omega) | exact h5 | exact h5 (by omega) | omega | exact True.intro | (simp only [rI_rI, rJ_rJ, hI_rI, hJ_rI, hI_rJ, hJ_rJ, hR_rI, hR_rJ, hN_rI, hN_rJ, svH_63, svH_66, rfH_63, wvH_63, wvH_62, wvH_67, wvH_68, wvH_69, sc_63, sc_n62, sc_n67, sc_n68, sc_n69, sc_n70, reduceIte, Nat.reduceEqDiff, eq_self, up_up, up_self, up_ne, ne_eq, not_false_eq_true, Int.reduceEq, Int.reduceNeg]; omega))
    · have i1 : ∀ r, isB (mdl (hI h 63)) (gS (hI h 63) n gr sg) (tot (hI h 63)) r → 0 ≤ r ∧ r < 2147483648 := fun r hr => by
        have := isB_some hr (isB_ex hr z)
        omega
      have fr : ∀ F b, FR (hI h 63) F b → FR (hI h 63) (up F 4 0) b := fun F b hf => hf
      have fz : ∀ F G, Fz (hI h 62) F → Fz (up F 4 0) G → Fz (up (hI h 62) 4 0) G := fun F G a b => (Fz.up4 a).tr b
      by_cases s : sg = 0
      · have e0 : ∀ r f, Vls (hI h 63) (asg (hI h 63) r) f → f n = gV (hI h 63) n sg r := fun r f hf => gV_0 c.1 c.2 hf s
        repeat' (first | apply And.intro | (with_reducible assumption) | (intro h9; first | (exfalso; omega) | (simp only [rI_rI, rJ_rJ, hI_rI, hJ_rI, hI_rJ, hJ_rJ, hR_rI, hR_rJ, hN_rI, hN_rJ, svH_63, svH_66, rfH_63, wvH_63, wvH_62, wvH_67, wvH_68, wvH_69, sc_63, sc_n62, sc_n67, sc_n68, sc_n69, sc_n70, reduceIte, Nat.reduceEqDiff, eq_self, up_up, up_self, up_ne, ne_eq, not_false_eq_true, Int.reduceEq, Int.reduceNeg] at h9; first | (exfalso; omega) | skip) | skip) | exact h1 | exact h2 | exact fr _ _ (by assumption) | exact (i1 _ (by assumption)).1 | exact (i1 _ (by assumption)).2 | exact rt_v (Rt := Rt) (h5 c z _ _ _ _ _ (by assumption) (fz _ _ (by assumption) (by assumption)) (by assumption)) (e0 _ _ (by assumption)).symm (sc_x3 _ _ _ _ _ _ _ _ _ _ _ _) | exact h1 | exact h1 (by omega) | exact h2 | exact h2 (by omega) | exact h3 | exact h3 (by omega) | exact h4 | exact h4 (by omega) | exact h5 | exact h5 (by omega) | omega | exact True.intro | (simp only [rI_rI, rJ_rJ, hI_rI, hJ_rI, hI_rJ, hJ_rJ, hR_rI, hR_rJ, hN_rI, hN_rJ, svH_63, svH_66, rfH_63, wvH_63, wvH_62, wvH_67, wvH_68, wvH_69, sc_63, sc_n62, sc_n67, sc_n68, sc_n69, sc_n70, reduceIte, Nat.reduceEqDiff, eq_self, up_up, up_self, up_ne, ne_eq, not_false_eq_true, Int.reduceEq, Int.reduceNeg]; omega))
      · have e0 : ∀ r f, Vls (hI h 63) (asg (hI h 63) r) f → sgn (f n) (nd (hI h 63) n 1) = gV (hI h 63) n sg r := fun r f hf => gV_1 c.1 c.2 hf s
        have e1 : ∀ r f, Vls (hI h 63) (asg (hI h 63) r) f → 0 ≤ f n ∧ f n < p2 (nd (hI h 63) n 1) := fun r f hf => vls_rng h1 c.1 c.2 hf
        repeat' (first | apply And.intro | (with_reducible assumption) | (intro h9; first | (exfalso; omega) | (simp only [rI_rI, rJ_rJ, hI_rI, hJ_rI, hI_rJ, hJ_rJ, hR_rI, hR_rJ, hN_rI, hN_rJ, svH_63, svH_66, rfH_63, wvH_63, wvH_62, wvH_67, wvH_68, wvH_69, sc_63, sc_n62, sc_n67, sc_n68, sc_n69, sc_n70, reduceIte, Nat.reduceEqDiff, eq_self, up_up, up_self, up_ne, ne_eq, not_false_eq_true, Int.reduceEq, Int.reduceNeg] at h9; first | (exfalso; omega) | skip) | skip) | exact h1 | exact h2 | exact fr _ _ (by assumption) | exact (i1 _ (by assumption)).1 | exact (i1 _ (by assumption)).2 | exact (e1 _ _ (by assumption)).1 | exact (e1 _ _ (by assumption)).2 | exact rt_v (Rt := Rt) (h5 c z _ _ _ _ _ (by assumption) (fz _ _ (by assumption) (by assumption)) (by assumption)) (e0 _ _ (by assumption)).symm (sc_x3 _ _ _ _ _ _ _ _ _ _ _ _) | exact h1 | exact h1 (by omega) | exact h2 | exact h2 (by omega) | exact h3 | exact h3 (by omega) | exact h4 | exact h4 (by omega) | exact h5 | exact h5 (by omega) | omega | exact True.intro | (simp only [rI_rI, rJ_rJ, hI_rI, hJ_rI, hI_rJ, hJ_rJ, hR_rI, hR_rJ, hN_rI, hN_rJ, svH_63, svH_66, rfH_63, wvH_63, wvH_62, wvH_67, wvH_68, wvH_69, sc_63, sc_n62, sc_n67, sc_n68, sc_n69, sc_n70, reduceIte, Nat.reduceEqDiff, eq_self, up_up, up_self, up_ne, ne_eq, not_false_eq_true, Int.reduceEq, Int.reduceNeg]; omega))
  · repeat' (first | apply And.intro | (with_reducible assumption) | (intro h9; first | (exfalso; omega) | (simp only [rI_rI, rJ_rJ, hI_rI, hJ_rI, hI_rJ, hJ_rJ, hR_rI, hR_rJ, hN_rI, hN_rJ, svH_63, svH_66, rfH_63, wvH_63, wvH_62, wvH_67, wvH_68, wvH_69, sc_63, sc_n62, sc_n67, sc_n68, sc_n69, sc_n70, reduceIte, Nat.reduceEqDiff, eq_self, up_up, up_self, up_ne, ne_eq, not_false_eq_true, Int.reduceEq, Int.reduceNeg] at h9; first | (exfalso; omega) | skip) | skip) | exact h3 c | exact h1 | exact h1 (by omega) | exact h2 | exact h2 (by omega) | exact h3 | exact h3 (by omega) | exact h4 | exact h4 (by omega) | exact h5 | exact h5 (by omega) | omega | exact True.intro | (simp only [rI_rI, rJ_rJ, hI_rI, hJ_rI, hI_rJ, hJ_rJ, hR_rI, hR_rJ, hN_rI, hN_rJ, svH_63, svH_66, rfH_63, wvH_63, wvH_62, wvH_67, wvH_68, wvH_69, sc_63, sc_n62, sc_n67, sc_n68, sc_n69, sc_n70, reduceIte, Nat.reduceEqDiff, eq_self, up_up, up_self, up_ne, ne_eq, not_false_eq_true, Int.reduceEq, Int.reduceNeg]; omega))
theorem m_X10_extreme : MM 243 s_X10_extreme := mm_of (own := 9) (by rfl) k_X10_extreme (cl := [(199, s_X10_isNode), (238, s_X10_model), (191, s_X10_refused), (242, s_X10_extremeModel), (230, s_X10_laysAssignment), (198, s_X10_width), (224, s_X10_signed)]) ⟨m_X10_isNode, m_X10_model, m_X10_refused, m_X10_extremeModel, m_X10_laysAssignment, m_X10_width, m_X10_signed, trivial⟩ o_X10_extreme
def s_X10_extremeWitness : CS := (zc 9, ap [(3, 62), (0, 0), (0, 0), (0, 0)] (fun n gr v h Rt X =>
WF (hI h 63) ∧ FR (hI h 63) (hI h 62) (hI h 69) ∧ (¬ (0 ≤ n ∧ n < hI h 63 0 ∧ 0 ≤ v ∧ v < hI h 63 281) → Rt (some (.inl 0)) (rfH h 1)) ∧
(0 ≤ n ∧ n < hI h 63 0 ∧ 0 ≤ v ∧ v < hI h 63 281 → ∀ r F a b c, isB (mdl (hI h 63)) (gS (hI h 63) n gr 0) (tot (hI h 63)) r → Fz (up (hI h 62) 4 0) F → FR (hI h 63) F c → Rt (some (.inl (wrd (hI h 63) r v))) (sc (rfH h 0) F a b c))))
set_option maxRecDepth 100000 in
set_option maxHeartbeats 4000000 in
theorem o_X10_extremeWitness : Obl true 1 4 (sp [(199, s_X10_isNode), (200, s_X10_isVariable), (193, s_X10_need), (191, s_X10_refused), (242, s_X10_extremeModel), (239, s_X10_wordOf)]) [] code_X10_extremeWitness s_X10_extremeWitness := by
  refine obl0 (by rfl) ?_
  intro n r_n gr r_gr v r_v h Rt X hh hf hs
  obtain ⟨h1, h2, h3, h4⟩ := hs
  have nn := h1.nn
  have vn := h1.vn
  have tt := tot_rng h1
  have k2 := h2.rf (x := 0)
  by_cases c : 0 ≤ n ∧ n < hI h 63 0 ∧ 0 ≤ v ∧ v < hI h 63 281
  · have i1 : ∀ r, isB (mdl (hI h 63)) (gS (hI h 63) n gr 0) (tot (hI h 63)) r → -1 ≤ r ∧ r ≤ 65536 := fun r hr => by
      have := isB_lo hr
      omega
    have k4 : ∀ r F a b d, isB (mdl (hI h 63)) (gS (hI h 63) n gr 0) (tot (hI h 63)) r → Fz (up (hI h 62) 4 0) F → FR (hI h 63) F d → r = -1 → Rt (some (.inl (-1))) (sc (rfH h 0) F a b d) := fun r F a b d z1 z2 z3 z4 => by
      have := h4 c r F a b d z1 z2 z3
      unfold wrd at this
      rw [if_pos z4] at this
      exact this
    have k5 : ∀ r F a b d, isB (mdl (hI h 63)) (gS (hI h 63) n gr 0) (tot (hI h 63)) r → Fz (up (hI h 62) 4 0) F → FR (hI h 63) F d → r ≠ -1 → Rt (some (.inl (asg (hI h 63) r v))) (sc (rfH h 0) F a b d) := fun r F a b d z1 z2 z3 z4 => by
      have := h4 c r F a b d z1 z2 z3
      unfold wrd at this
      rw [if_neg z4] at this
      exact this
    repeat' (first | apply And.intro | (with_reducible assumption) | (intro h9; first | (exfalso; omega) | (simp only [rI_rI, rJ_rJ, hI_rI, hJ_rI, hI_rJ, hJ_rJ, hR_rI, hR_rJ, hN_rI, hN_rJ, svH_63, svH_66, rfH_63, wvH_63, wvH_62, wvH_67, wvH_68, wvH_69, sc_63, sc_n62, sc_n67, sc_n68, sc_n69, sc_n70, reduceIte, Nat.reduceEqDiff, eq_self, up_up, up_self, up_ne, ne_eq, not_false_eq_true, Int.reduceEq, Int.reduceNeg] at h9; first | (exfalso; omega) | skip) | skip) | exact h1 | exact k2 | exact (i1 _ (by assumption)).1 | exact (i1 _ (by assumption)).2 | exact k4 _ _ _ _ _ (by assumption) (by assumption) (by assumption) (by omega) | exact rt_eq (Rt := Rt) (k5 _ _ _ _ _ (by assumption) (by assumption) (by assumption) (by omega)) rfl (sc_wv' _ _ _ _ _ _ _) | exact h1 | exact h1 (by omega) | exact h2 | exact h2 (by omega) | exact h3 | exact h3 (by omega) | exact h4 | exact h4 (by omega) | omega | exact True.intro | (simp only [rI_rI, rJ_rJ, hI_rI, hJ_rI, hI_rJ, hJ_rJ, hR_rI, hR_rJ, hN_rI, hN_rJ, svH_63, svH_66, rfH_63, wvH_63, wvH_62, wvH_67, wvH_68, wvH_69, sc_63, sc_n62, sc_n67, sc_n68, sc_n69, sc_n70, reduceIte, Nat.reduceEqDiff, eq_self, up_up, up_self, up_ne, ne_eq, not_false_eq_true, Int.reduceEq, Int.reduceNeg]; omega))
  · repeat' (first | apply And.intro | (with_reducible assumption) | (intro h9; first | (exfalso; omega) | (simp only [rI_rI, rJ_rJ, hI_rI, hJ_rI, hI_rJ, hJ_rJ, hR_rI, hR_rJ, hN_rI, hN_rJ, svH_63, svH_66, rfH_63, wvH_63, wvH_62, wvH_67, wvH_68, wvH_69, sc_63, sc_n62, sc_n67, sc_n68, sc_n69, sc_n70, reduceIte, Nat.reduceEqDiff, eq_self, up_up, up_self, up_ne, ne_eq, not_false_eq_true, Int.reduceEq, Int.reduceNeg] at h9; first | (exfalso; omega) | skip) | skip) | exact h3 c | exact h1 | exact h1 (by omega) | exact h2 | exact h2 (by omega) | exact h3 | exact h3 (by omega) | exact h4 | exact h4 (by omega) | omega | exact True.intro | (simp only [rI_rI, rJ_rJ, hI_rI, hJ_rI, hI_rJ, hJ_rJ, hR_rI, hR_rJ, hN_rI, hN_rJ, svH_63, svH_66, rfH_63, wvH_63, wvH_62, wvH_67, wvH_68, wvH_69, sc_63, sc_n62, sc_n67, sc_n68, sc_n69, sc_n70, reduceIte, Nat.reduceEqDiff, eq_self, up_up, up_self, up_ne, ne_eq, not_false_eq_true, Int.reduceEq, Int.reduceNeg]; omega))
theorem m_X10_extremeWitness : MM 244 s_X10_extremeWitness := mm_of (own := 9) (by rfl) k_X10_extremeWitness (cl := [(199, s_X10_isNode), (200, s_X10_isVariable), (193, s_X10_need), (191, s_X10_refused), (242, s_X10_extremeModel), (239, s_X10_wordOf)]) ⟨m_X10_isNode, m_X10_isVariable, m_X10_need, m_X10_refused, m_X10_extremeModel, m_X10_wordOf, trivial⟩ o_X10_extremeWitness

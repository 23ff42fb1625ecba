/-! ===== the reference: searches among the models ===== -/
theorem tot_nn {w : Int → Int} (h : WF w) : ¬ tot w ≤ 0 := by have := tot_rng h; omega
theorem nxt_lt {w : Int → Int} (h : WF w) (m : Int) : -1 ≤ nxt w m ∧ nxt w m < 65536 := by
  have := tot_rng h
  by_cases e : nxt w m = -1
  · omega
  · have := nxt_some e
    omega
theorem meas_dn {w : Int → Int} {n : Int} (h0 : 0 ≤ n) (h : n < tot w) : meas w (nxt w (n + 1)) < meas w n := by
  unfold meas
  rw [if_neg (show ¬ n = -1 by omega)]
  by_cases e : nxt w (n + 1) = -1
  · rw [if_pos e]; omega
  · rw [if_neg e]
    have := nxt_some e
    omega
/-- a number of the loop over the models: the first model from m on -/
def atM (w : Int → Int) (m n : Int) : Prop := Box (n = nxt w m ∧ 0 ≤ m ∧ m ≤ 65536)
theorem atM.at {w : Int → Int} {m n : Int} (h : atM w m n) (e : n ≠ -1) : 0 ≤ n ∧ m ≤ n ∧ n < tot w ∧ mdl w n = true ∧ ∀ N, 0 ≤ N → m ≤ N → N < n → mdl w N = false := by
  obtain ⟨rfl, -⟩ := h.o
  exact nxt_some e
theorem atM.end {w : Int → Int} {m n : Int} (h : atM w m n) (e : n = -1) : ∀ N, 0 ≤ N → m ≤ N → N < tot w → mdl w N = false := by
  obtain ⟨rfl, -⟩ := h.o
  exact nxt_none e
theorem atM.nx {w : Int → Int} (hw : WF w) {m n : Int} (h : atM w m n) (e : n ≠ -1) : atM w (n + 1) (nxt w (n + 1)) := by
  have := h.at e
  have := tot_rng hw
  exact Box.i ⟨rfl, by omega, by omega⟩
theorem atM.to {w g : Int → Int} {m n r : Int} (h : atM w m n) (e : n ≠ -1) (hb : isB (mdl w) g m r) : isB (mdl w) g n r := by
  have := h.at e
  exact isB_gap hb this.2.1 fun N a b c => this.2.2.2.2 N a b c
theorem atM.fin {w g : Int → Int} (hw : WF w) {m n r : Int} (h : atM w m n) (e : n = -1) (hm : m ≤ tot w) (hb : isB (mdl w) g m r) : isB (mdl w) g (tot w) r :=
  isB_gap hb hm fun N a b c => h.end e N a b c
/-- the value of a node by which the models are searched -/
def gV (w : Int → Int) (n sg N : Int) : Int := rd w n sg (vl w (asg w N) n)
def gS (w : Int → Int) (n gr sg N : Int) : Int := if gr = 0 then -(gV w n sg N) else gV w n sg N
theorem gV_0 {w f : Int → Int} {n sg N : Int} (h0 : 0 ≤ n) (h1 : n < w 0) (hf : Vls w (asg w N) f) (z : sg = 0) : f n = gV w n sg N := by
  unfold gV rd
  rw [if_pos z, hf.o n h0 h1]
theorem gV_1 {w f : Int → Int} {n sg N : Int} (h0 : 0 ≤ n) (h1 : n < w 0) (hf : Vls w (asg w N) f) (z : sg ≠ 0) : sgn (f n) (nd w n 1) = gV w n sg N := by
  unfold gV rd
  rw [if_neg z, hf.o n h0 h1]
theorem vls_rng {w f : Int → Int} {n N : Int} (hw : WF w) (h0 : 0 ≤ n) (h1 : n < w 0) (hf : Vls w (asg w N) f) : 0 ≤ f n ∧ f n < p2 (nd w n 1) := by
  rw [hf.o n h0 h1]
  exact hw.vr (asg_ev w N) h0 h1
theorem ex_new {w : Int → Int} {n gr sg N r its v : Int} (hb : isB (mdl w) (gS w n gr sg) N r) (h0 : 0 ≤ N) (hp : mdl w N = true) (hv : v = gV w n sg N) (hi : r = -1 ∨ its = gV w n sg r) (c : r = -1 ∨ (gr ≠ 0 ∧ its < v) ∨ (gr = 0 ∧ v < its)) : isB (mdl w) (gS w n gr sg) (N + 1) N := by
  refine isB_new hb h0 hp ?_
  by_cases e : r = -1
  · exact Or.inl e
  · refine Or.inr ?_
    unfold gS
    by_cases g : gr = 0
    · rw [if_pos g, if_pos g]; omega
    · rw [if_neg g, if_neg g]; omega
theorem ex_keep {w : Int → Int} {n gr sg N r its v : Int} (hb : isB (mdl w) (gS w n gr sg) N r) (h0 : 0 ≤ N) (hv : v = gV w n sg N) (hi : r = -1 ∨ its = gV w n sg r) (c : r ≠ -1) (c2 : (gr ≠ 0 ∧ v ≤ its) ∨ (gr = 0 ∧ its ≤ v)) : isB (mdl w) (gS w n gr sg) (N + 1) r := by
  refine isB_keep hb h0 c ?_
  unfold gS
  by_cases g : gr = 0
  · rw [if_pos g, if_pos g]; omega
  · rw [if_neg g, if_neg g]; omega
def s_X10_extremeModel : CS := (zc 8, ap [(3, 62), (0, 0), (0, 0), (0, 0)] (fun n gr sg h Rt X =>
(0 ≤ n ∧ n < hI h 63 0) ∧ WF (hI h 63) ∧ FR (hI h 63) (hI h 62) (hI h 69) ∧ ∀ r F a b c, isB (mdl (hI h 63)) (gS (hI h 63) n gr sg) (tot (hI h 63)) r → Fz (hI h 62) F → FR (hI h 63) F c → Rt (some (.inl r)) (sc h F a b c)))
set_option maxRecDepth 100000 in
set_option maxHeartbeats 4000000 in
theorem o_X10_extremeModel : Obl true 1 8 (sp [(238, s_X10_model), (230, s_X10_laysAssignment), (198, s_X10_width), (224, s_X10_signed)]) [] code_X10_extremeModel s_X10_extremeModel := by
  refine oblL (by rfl) [(13, [0, 1, 2, 3, 4, 5, 6])] ?_
  intro n r_n gr r_gr sg r_sg h Rt X hh hf hs
  obtain ⟨⟨a1, a2⟩, h1, h2, h3⟩ := hs
  have nn := h1.nn
  have wd := h1.wd a1 a2
  have tt := tot_rng h1
  have n0 := nxt_lt h1 0
  refine ⟨fun k pc vs g => ∃ (r its N m : Int) (F a b c : Int → Int), g = sc h F a b c ∧ vs = [.inr (.inr (some 62)), .inl n, .inl gr, .inl sg, .inl r, .inl its, .inl N] ∧ Fz (hI h 62) F ∧ FR (hI h 63) F c ∧ atM (hI h 63) m N ∧ m ≤ tot (hI h 63) ∧ isB (mdl (hI h 63)) (gS (hI h 63) n gr sg) m r ∧ (r = -1 ∨ its = gV (hI h 63) n sg r) ∧ k = meas (hI h 63) N, ?_, ?_⟩
  · repeat' (first | apply And.intro | (with_reducible assumption) | (intro h9; first | (exfalso; omega) | (simp only [rI_rI, rJ_rJ, hI_rI, hJ_rI, hI_rJ, hJ_rJ, hR_rI, hR_rJ, hN_rI, hN_rJ, svH_63, svH_66, rfH_63, wvH_63, wvH_62, wvH_67, wvH_68, wvH_69, sc_63, sc_n62, sc_n67, sc_n68, sc_n69, sc_n70, reduceIte, Nat.reduceEqDiff, eq_self, up_up, up_self, up_ne, ne_eq, not_false_eq_true, Int.reduceEq, Int.reduceNeg] at h9; first | (exfalso; omega) | skip) | skip) | exact h1 | exact h2 | exact Exists.intro _ ⟨-1, 0, _, 0, _, _, _, _, rfl, rfl, by assumption, by assumption, Box.i ⟨rfl, by omega, by omega⟩, by omega, isB_0 _ _, Or.inl rfl, rfl⟩ | exact h1 | exact h1 (by omega) | exact h2 | exact h2 (by omega) | exact h3 | exact h3 (by omega) | omega | exact True.intro | (simp only [rI_rI, rJ_rJ, hI_rI, hJ_rI, hI_rJ, hJ_rJ, hR_rI, hR_rJ, hN_rI, hN_rJ, svH_63, svH_66, rfH_63, wvH_63, wvH_62, wvH_67, wvH_68, wvH_69, sc_63, sc_n62, sc_n67, sc_n68, sc_n69, sc_n70, reduceIte, Nat.reduceEqDiff, eq_self, up_up, up_self, up_ne, ne_eq, not_false_eq_true, Int.reduceEq, Int.reduceNeg]; omega))
  · rintro k pc live vs g hl ⟨r, its, N, m, F, a, b, c, rfl, rfl, i1, i2, i3, i6, i4, i5, rfl⟩ hv hh1 hf1
    obtain ⟨rfl, rfl⟩ := look1 hl
    have i7 := isB_lo i4
    by_cases q : N = -1
    · have r3 := h3 r F a b c (i3.fin h1 q i6 i4) i1 i2
      repeat' (first | apply And.intro | (with_reducible assumption) | (intro h9; first | (exfalso; omega) | (simp only [rI_rI, rJ_rJ, hI_rI, hJ_rI, hI_rJ, hJ_rJ, hR_rI, hR_rJ, hN_rI, hN_rJ, svH_63, svH_66, rfH_63, wvH_63, wvH_62, wvH_67, wvH_68, wvH_69, sc_63, sc_n62, sc_n67, sc_n68, sc_n69, sc_n70, reduceIte, Nat.reduceEqDiff, eq_self, up_up, up_self, up_ne, ne_eq, not_false_eq_true, Int.reduceEq, Int.reduceNeg] at h9; first | (exfalso; omega) | skip) | skip) | exact r3 | exact h1 | exact h1 (by omega) | exact h2 | exact h2 (by omega) | exact h3 | exact h3 (by omega) | omega | exact True.intro | (simp only [rI_rI, rJ_rJ, hI_rI, hJ_rI, hI_rJ, hJ_rJ, hR_rI, hR_rJ, hN_rI, hN_rJ, svH_63, svH_66, rfH_63, wvH_63, wvH_62, wvH_67, wvH_68, wvH_69, sc_63, sc_n62, sc_n67, sc_n68, sc_n69, sc_n70, reduceIte, Nat.reduceEqDiff, eq_self, up_up, up_self, up_ne, ne_eq, not_false_eq_true, Int.reduceEq, Int.reduceNeg]; omega))
    · obtain ⟨q1, q2, q3, q4, q5⟩ := i3.at q
      have q6 := i3.to q i4
      have q7 := i3.nx h1 q
      have q8 := meas_dn q1 q3
      have s1 : ∀ v, v = gV (hI h 63) n sg N → (r = -1 ∨ (gr ≠ 0 ∧ its < v) ∨ (gr = 0 ∧ v < its)) → isB (mdl (hI h 63)) (gS (hI h 63) n gr sg) (N + 1) N := fun v z1 z2 => ex_new q6 q1 q4 z1 i5 z2
      have s2 : ∀ v, v = gV (hI h 63) n sg N → (r ≠ -1) → ((gr ≠ 0 ∧ v ≤ its) ∨ (gr = 0 ∧ its ≤ v)) → isB (mdl (hI h 63)) (gS (hI h 63) n gr sg) (N + 1) r := fun v z1 z2 z3 => ex_keep q6 q1 z1 i5 z2 z3
      by_cases z : sg = 0
      · have e0 : ∀ f, Vls (hI h 63) (asg (hI h 63) N) f → f n = gV (hI h 63) n sg N := fun f hf => gV_0 a1 a2 hf z
        repeat' (first | apply And.intro | (with_reducible assumption) | (intro h9; first | (exfalso; omega) | (simp only [rI_rI, rJ_rJ, hI_rI, hJ_rI, hI_rJ, hJ_rJ, hR_rI, hR_rJ, hN_rI, hN_rJ, svH_63, svH_66, rfH_63, wvH_63, wvH_62, wvH_67, wvH_68, wvH_69, sc_63, sc_n62, sc_n67, sc_n68, sc_n69, sc_n70, reduceIte, Nat.reduceEqDiff, eq_self, up_up, up_self, up_ne, ne_eq, not_false_eq_true, Int.reduceEq, Int.reduceNeg] at h9; first | (exfalso; omega) | skip) | skip) | exact h1 | exact i2 | exact Exists.intro _ ⟨q8, N, _, _, N + 1, _, _, _, _, (by rw [sc_wv, sc_sc]), rfl, (by refine i1.tr ?_; assumption), (by assumption), q7, by omega, s1 _ (e0 _ (by assumption)) (by omega), Or.inr (e0 _ (by assumption)), rfl⟩ | exact Exists.intro _ ⟨q8, r, its, _, N + 1, _, _, _, _, (by rw [sc_wv, sc_sc]), rfl, (by refine i1.tr ?_; assumption), (by assumption), q7, by omega, s2 _ (e0 _ (by assumption)) (by omega) (by omega), i5, rfl⟩ | exact h1 | exact h1 (by omega) | exact h2 | exact h2 (by omega) | exact h3 | exact h3 (by omega) | omega | exact True.intro | (simp only [rI_rI, rJ_rJ, hI_rI, hJ_rI, hI_rJ, hJ_rJ, hR_rI, hR_rJ, hN_rI, hN_rJ, svH_63, svH_66, rfH_63, wvH_63, wvH_62, wvH_67, wvH_68, wvH_69, sc_63, sc_n62, sc_n67, sc_n68, sc_n69, sc_n70, reduceIte, Nat.reduceEqDiff, eq_self, up_up, up_self, up_ne, ne_eq, not_false_eq_true, Int.reduceEq, Int.reduceNeg]; omega))
      · have e0 : ∀ f, Vls (hI h 63) (asg (hI h 63) N) f → sgn (f n) (nd (hI h 63) n 1) = gV (hI h 63) n sg N := fun f hf => gV_1 a1 a2 hf z
        have e1 : ∀ f, Vls (hI h 63) (asg (hI h 63) N) f → 0 ≤ f n ∧ f n < p2 (nd (hI h 63) n 1) := fun f hf => vls_rng h1 a1 a2 hf
        repeat' (first | apply And.intro | (with_reducible assumption) | (intro h9; first | (exfalso; omega) | (simp only [rI_rI, rJ_rJ, hI_rI, hJ_rI, hI_rJ, hJ_rJ, hR_rI, hR_rJ, hN_rI, hN_rJ, svH_63, svH_66, rfH_63, wvH_63, wvH_62, wvH_67, wvH_68, wvH_69, sc_63, sc_n62, sc_n67, sc_n68, sc_n69, sc_n70, reduceIte, Nat.reduceEqDiff, eq_self, up_up, up_self, up_ne, ne_eq, not_false_eq_true, Int.reduceEq, Int.reduceNeg] at h9; first | (exfalso; omega) | skip) | skip) | exact h1 | exact i2 | exact (e1 _ (by assumption)).1 | exact (e1 _ (by assumption)).2 | exact Exists.intro _ ⟨q8, N, _, _, N + 1, _, _, _, _, (by rw [sc_wv, sc_sc]), rfl, (by refine i1.tr ?_; assumption), (by assumption), q7, by omega, s1 _ (e0 _ (by assumption)) (by omega), Or.inr (e0 _ (by assumption)), rfl⟩ | exact Exists.intro _ ⟨q8, r, its, _, N + 1, _, _, _, _, (by rw [sc_wv, sc_sc]), rfl, (by refine i1.tr ?_; assumption), (by assumption), q7, by omega, s2 _ (e0 _ (by assumption)) (by omega) (by omega), i5, rfl⟩ | exact h1 | exact h1 (by omega) | exact h2 | exact h2 (by omega) | exact h3 | exact h3 (by omega) | omega | exact True.intro | (simp only [rI_rI, rJ_rJ, hI_rI, hJ_rI, hI_rJ, hJ_rJ, hR_rI, hR_rJ, hN_rI, hN_rJ, svH_63, svH_66, rfH_63, wvH_63, wvH_62, wvH_67, wvH_68, wvH_69, sc_63, sc_n62, sc_n67, sc_n68, sc_n69, sc_n70, reduceIte, Nat.reduceEqDiff, eq_self, up_up, up_self, up_ne, ne_eq, not_false_eq_true, Int.reduceEq, Int.reduceNeg]; omega))
theorem m_X10_extremeModel : MM 242 s_X10_extremeModel := mm_of (own := 9) (by rfl) k_X10_extremeModel (cl := [(238, s_X10_model), (230, s_X10_laysAssignment), (198, s_X10_width), (224, s_X10_signed)]) ⟨m_X10_model, m_X10_laysAssignment, m_X10_width, m_X10_signed, trivial⟩ o_X10_extremeModel

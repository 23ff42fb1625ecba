/-! ===== the class: the best model by a goal ===== -/
def bsv (g : Int → Int) (r : Int) : Int := if r = -1 then -1 else g r
theorem bs_step {P : Int → Bool} {g : Int → Int} {i r : Int} {l : Nat} {s : Int64} (h : isB P g (64 * i) r) (h0 : 0 ≤ i) (gp : ∀ N, 0 ≤ g N) (hm : ∀ j, j < 64 → lb s j = P (lane i j)) (hl : l < 64) (h1 : lb s l = true) (mx : ∀ j, j < 64 → lb s j = true → g (lane i j) ≤ g (lane i l)) (mn : ∀ j, j < l → lb s j = true → g (lane i j) < g (lane i l)) :
    (bsv g r < g (lane i l) → isB P g (64 * (i + 1)) (lane i l)) ∧ (g (lane i l) ≤ bsv g r → isB P g (64 * (i + 1)) r) := by
  have ll : ∀ j : Nat, lane i j = 64 * i + j := fun _ => rfl
  have gpl := gp (lane i l)
  have pl := hm l hl
  rw [h1] at pl
  unfold bsv
  refine ⟨fun q => ?_, fun q => ?_⟩
  · refine Box.i (Or.inr ⟨by rw [ll]; omega, by rw [ll]; omega, pl.symm, fun N n0 n1 pN => ?_⟩)
    by_cases z : N < 64 * i
    · rcases h.o with ⟨e, a⟩ | ⟨r0, r1, r2, r3⟩
      · rw [a N n0 z] at pN; cases pN
      · rw [if_neg (by omega)] at q
        have := (r3 N n0 z pN).1
        omega
    · obtain ⟨e, e2⟩ := lane_of (N := N) (i := i) (by omega) (by omega)
      rw [e]
      rw [e] at pN
      generalize (N - 64 * i).toNat = j at *
      rw [← hm j e2] at pN
      have a := mx j e2 pN
      refine ⟨a, fun eq => ?_⟩
      by_cases y : j < l
      · have := mn j y pN
        omega
      · rw [ll, ll]; omega
  · rcases h.o with ⟨e, a⟩ | ⟨r0, r1, r2, r3⟩
    · rw [if_pos e] at q; omega
    · rw [if_neg (by omega)] at q
      refine Box.i (Or.inr ⟨r0, by omega, r2, fun N n0 n1 pN => ?_⟩)
      by_cases z : N < 64 * i
      · exact r3 N n0 z pN
      · obtain ⟨e, e2⟩ := lane_of (N := N) (i := i) (by omega) (by omega)
        have eN : r ≤ N := by omega
        rw [e] at pN
        have a : g N ≤ g (lane i l) := by
          rw [e]
          generalize (N - 64 * i).toNat = j at *
          rw [← hm j e2] at pN
          exact mx j e2 pN
        exact ⟨by omega, fun _ => eN⟩
theorem bs_top {P : Int → Bool} {g : Int → Int} {m m' r : Int} (h : isB P g m r) (h1 : m ≤ m') (hr : r ≠ -1) (t : ∀ N, g N ≤ g r) : isB P g m' r := by
  rcases h.o with ⟨e, a⟩ | ⟨r0, r1, r2, r3⟩
  · exact absurd e hr
  · refine Box.i (Or.inr ⟨r0, by omega, r2, fun N n0 n1 pN => ?_⟩)
    by_cases z : N < m
    · exact r3 N n0 z pN
    · exact ⟨t N, fun _ => by omega⟩
theorem bs_fin {w g : Int → Int} {m r : Int} (h : isB (mdT w) g m r) (hm : tot w ≤ m) : isB (mdl w) g (tot w) r := by
  have e : ∀ N, N < tot w → mdT w N = mdl w N := fun N a => by unfold mdT; rw [decide_eq_true a, Bool.true_and]
  rcases h.o with ⟨q, a⟩ | ⟨r0, r1, r2, r3⟩
  · exact Box.i (Or.inl ⟨q, fun N n0 n1 => by rw [← e N n1]; exact a N n0 (by omega)⟩)
  · have rt : r < tot w := by
      unfold mdT at r2
      rw [Bool.and_eq_true] at r2
      exact of_decide_eq_true r2.1
    exact Box.i (Or.inr ⟨r0, rt, by rw [← e r rt]; exact r2, fun N n0 n1 pN => r3 N n0 (by omega) (by rw [e N n1]; exact pN)⟩)
theorem bs_0 {w g : Int → Int} {L : Int → Int64} {i r : Int} (h : isB (mdT w) g (64 * i) r) (h0 : 0 ≤ i) (h1 : i < blk w) (hm : MdB w L (blk w)) (e : L i = 0) : isB (mdT w) g (64 * (i + 1)) r := by
  refine isB_gap h (by omega) fun N n0 n1 n2 => ?_
  obtain ⟨q, q2⟩ := lane_of (N := N) (i := i) (by omega) (by omega)
  rw [q, ← hm.o i h0 h1 _ q2, e, lb_0]
/-- the models and the best one among some -/
def CM (w F0 F : Int → Int) (L : Int → Int64) : Prop := Box (F 4 = 1 ∧ F 5 = nxt w 0 ∧ MdB w L (blk w) ∧ ∀ j, j ≠ 4 → j ≠ 5 → j ≠ 6 → j ≠ 7 → F j = F0 j)
def Bst (F g : Int → Int) (r : Int) : Prop := Box (F 7 = r ∧ F 6 = bsv g r)
theorem CM.up67 {w F0 F : Int → Int} {L : Int → Int64} (h : CM w F0 F L) (x y : Int) : CM w F0 (up (up F 6 x) 7 y) L := by
  obtain ⟨a, b, c, d⟩ := h.o
  exact Box.i ⟨by rw [up_ne (by decide), up_ne (by decide)]; exact a, by rw [up_ne (by decide), up_ne (by decide)]; exact b, c, fun j j1 j2 j3 j4 => by rw [up_ne j4, up_ne j3]; exact d j j1 j2 j3 j4⟩
theorem FM.cm {w F0 F : Int → Int} {L : Int → Int64} (h : FM w F0 F L) : CM w F0 F L := by
  obtain ⟨a, b, c, d⟩ := h.o
  exact Box.i ⟨a, b, c, fun j j1 j2 _ _ => d j j1 j2⟩
theorem Bst.i {F g : Int → Int} {r : Int} (h0 : r ≠ -1) : Bst (up (up F 6 (g r)) 7 r) g r := Box.i ⟨up_self _ _ _, by rw [up_ne (by decide), up_self]; unfold bsv; rw [if_neg h0]⟩
theorem cl_hp (h : Hp) (F : Int → Int) (R Q L R' Q' Q'' : Int → Int64) : rJ (rJ (rJ (se h F R Q L) 45 R') 44 Q') 44 Q'' = se h F R' Q'' L := by rw [se_run, se_44]
theorem cl_hp2 (h : Hp) (F Y : Int → Int) (R Q L R' Q' Q'' : Int → Int64) : rI (rJ (rJ (rJ (se h F R Q L) 45 R') 44 Q') 44 Q'') 46 Y = se h Y R' Q'' L := by rw [cl_hp, se_46]
/-- one block of the climb -/
theorem cl_st {w F : Int → Int} {L Q Q' : Int → Int64} {t a b f i r : Int} {s : Int64} {l : Nat} (hW : WF w) (hC : ClP w t a b f) (hs : Wnt w s t a b) (hm : MdB w L (blk w)) (h0 : 0 ≤ i) (h1 : i < blk w) (hb : isB (mdT w) (goalV w t a b f) (64 * i) r) (hB : Bst F (goalV w t a b f) r) (hv : VlL w Q i s (w 0)) (hg : Ln Q' 320 (gWd w t a) (goalL w Q t a b f)) (hl : l < 64) (l1 : lb (L i) l = true)
    (mx : ∀ j, j < 64 → lb (L i) j = true → lw Q' j 320 (gWd w t a).toNat ≤ lw Q' l 320 (gWd w t a).toNat) (mn : ∀ j, j < l → lb (L i) j = true → lw Q' j 320 (gWd w t a).toNat < lw Q' l 320 (gWd w t a).toNat) :
    lw Q' l 320 (gWd w t a).toNat = goalV w t a b f (lane i l) ∧ lane i l ≠ -1 ∧ (F 6 < lw Q' l 320 (gWd w t a).toNat → isB (mdT w) (goalV w t a b f) (64 * (i + 1)) (lane i l)) ∧ (lw Q' l 320 (gWd w t a).toNat ≤ F 6 → isB (mdT w) (goalV w t a b f) (64 * (i + 1)) r) := by
  have e : ∀ j, j < 64 → lw Q' j 320 (gWd w t a).toNat = goalV w t a b f (lane i j) := fun j hj => (hg.o j hj).trans (gl_gv hW hC hs hj hv)
  have q := bs_step (s := L i) (l := l) hb h0 (fun N => (goalV_rng hW hC N).1) (hm.o i h0 h1) hl l1 (fun j hj a => by rw [← e j hj, ← e l hl]; exact mx j hj a) (fun j hj a => by rw [← e j (by omega), ← e l hl]; exact mn j hj a)
  rw [e l hl, (hB.o).2]
  refine ⟨rfl, ?_, q.1, q.2⟩
  unfold lane
  omega
theorem wnt2 {w : Int → Int} {s : Int64} {t a b f : Int} (hC : ClP w t a b f) (e : t = 2) (h : HasW w s (w 332)) : Wnt w s t a b := Box.i ⟨fun _ => h, fun q => absurd e q⟩
def s_X5_climb : CS := (zc 6, ap [(3, 46), (0, 0), (0, 0), (0, 0), (0, 0)] (fun t a b f h Rt X =>
∃ w, GH h w ∧ WF w ∧ St0 (hI h) 5 w ∧ SK w (hI h 46) (hJ h 47) ∧ ClP w t a b f ∧ ∀ F R Q L r, CM w (hI h 46) F L → isB (mdl w) (goalV w t a b f) (tot w) r → Bst F (goalV w t a b f) r → Rt none (se h F R Q L)))
set_option maxRecDepth 100000 in
set_option maxHeartbeats 4000000 in
theorem o_X5_climb : Obl true 0 10 (sp [(98, s_X5_findModels), (106, s_X5_goalWidth), (107, s_X5_wishCones), (25, s_X0_cone), (29, s_X0_blockCount), (187, s_X9_fullWord), (45, s_X3_run), (108, s_X5_setGoal), (109, s_X5_climbIn)]) [] code_X5_climb s_X5_climb := by
  refine oblL (by rfl) [(65, [0, 1, 2, 3, 4, 5, 6, 8, 9])] ?_
  intro t r_t a r_a b r_b f r_f h Rt X hh hf hs
  obtain ⟨w, hG, hW, hS, hK, hC, h2⟩ := hs
  have br := blk_rng hW
  have wr := gWd_rng hW hC
  have tt := (blk_tot hW).1
  refine ⟨fun m pc vs g => ∃ (i r : Int) (F : Int → Int) (R Q L : Int → Int64) (s : Int64), g = se h F R Q L ∧ vs = [.inr (.inr (some 46)), .inl t, .inl a, .inl b, .inl f, .inl (gWd w t a), .inr (.inl s), .inl (blk w), .inl i] ∧ 0 ≤ i ∧ i ≤ blk w ∧ Clo w s ∧ Wnt w s t a b ∧ CM w (hI h 46) F L ∧ isB (mdT w) (goalV w t a b f) (64 * i) r ∧ Bst F (goalV w t a b f) r ∧ m = (blk w - i).toNat, ?_, ?_⟩
  · have f0 : isB (mdT w) (goalV w t a b f) (64 * 0) (-1) := isB_0 _ _
    have f1 : ∀ F, Bst (up (up F 6 (-1)) 7 (-1)) (goalV w t a b f) (-1) := fun F => Box.i ⟨up_self _ _ _, by rw [up_ne (by decide), up_self]; rfl⟩
    have n0 := hW.nn
    rcases hC.o with ⟨rfl, a0, a1, rfl, f2, f3⟩ | ⟨rfl, a0, a1, b0, b1, e⟩ | ⟨rfl, rfl, rfl⟩
    · have q := cone_clo hW a0 a1
      have q2 := clo_or q.1 (clo_0 w)
      have q3 : Wnt w (coneW w a ||| 0) 0 a (-1) := Box.i ⟨fun e => by omega, fun _ => ⟨by rw [lb_or, q.2, Bool.true_or], fun e => by omega⟩⟩
      repeat' (first | apply And.intro | (with_reducible assumption) | (intro h9; first | (exfalso; omega) | (simp only [rI_rI, rJ_rJ, hI_rI, hJ_rI, hI_rJ, hJ_rJ, hI_rR, hR_rI, hR_rJ, hN_rI, hN_rJ, svH_63, svH_66, rfH_63, wvH_63, wvH_62, wvH_67, wvH_68, wvH_69, sc_63, sc_n62, sc_n67, sc_n68, sc_n69, sc_n70, reduceIte, Nat.reduceEqDiff, eq_self, up_up, up_self, up_ne, ne_eq, not_false_eq_true, Int.reduceEq, Int.reduceNeg, se_aI, se_aJ] at h9; first | (exfalso; omega) | skip) | skip) | refine Exists.intro w ?_ | exact hG | exact hW | exact hS | exact hK | exact fun _ => ⟨a0, a1⟩ | exact Exists.intro _ ⟨0, -1, _, _, _, _, _, (by rw [se_46, se_46] <;> rfl), rfl, by omega, by omega, q2, q3, (FM.cm (by assumption)).up67 _ _, f0, f1 _, rfl⟩ | exact h2 | exact h2 (by omega) | omega | exact True.intro | (simp only [rI_rI, rJ_rJ, hI_rI, hJ_rI, hI_rJ, hJ_rJ, hI_rR, hR_rI, hR_rJ, hN_rI, hN_rJ, svH_63, svH_66, rfH_63, wvH_63, wvH_62, wvH_67, wvH_68, wvH_69, sc_63, sc_n62, sc_n67, sc_n68, sc_n69, sc_n70, reduceIte, Nat.reduceEqDiff, eq_self, up_up, up_self, up_ne, ne_eq, not_false_eq_true, Int.reduceEq, Int.reduceNeg, se_aI, se_aJ]; omega))
    · have q := cone_clo hW a0 a1
      have p := cone_clo hW b0 b1
      have q2 := clo_or q.1 p.1
      have q3 : Wnt w (coneW w a ||| coneW w b) 1 a b := Box.i ⟨fun e => by omega, fun _ => ⟨by rw [lb_or, q.2, Bool.true_or], fun _ => by rw [lb_or, p.2, Bool.or_true]⟩⟩
      repeat' (first | apply And.intro | (with_reducible assumption) | (intro h9; first | (exfalso; omega) | (simp only [rI_rI, rJ_rJ, hI_rI, hJ_rI, hI_rJ, hJ_rJ, hI_rR, hR_rI, hR_rJ, hN_rI, hN_rJ, svH_63, svH_66, rfH_63, wvH_63, wvH_62, wvH_67, wvH_68, wvH_69, sc_63, sc_n62, sc_n67, sc_n68, sc_n69, sc_n70, reduceIte, Nat.reduceEqDiff, eq_self, up_up, up_self, up_ne, ne_eq, not_false_eq_true, Int.reduceEq, Int.reduceNeg, se_aI, se_aJ] at h9; first | (exfalso; omega) | skip) | skip) | refine Exists.intro w ?_ | exact hG | exact hW | exact hS | exact hK | exact fun e => absurd e (by decide) | exact Exists.intro _ ⟨0, -1, _, _, _, _, _, (by rw [se_46, se_46] <;> rfl), rfl, by omega, by omega, q2, q3, (FM.cm (by assumption)).up67 _ _, f0, f1 _, rfl⟩ | exact h2 | exact h2 (by omega) | omega | exact True.intro | (simp only [rI_rI, rJ_rJ, hI_rI, hJ_rI, hI_rJ, hJ_rJ, hI_rR, hR_rI, hR_rJ, hN_rI, hN_rJ, svH_63, svH_66, rfH_63, wvH_63, wvH_62, wvH_67, wvH_68, wvH_69, sc_63, sc_n62, sc_n67, sc_n68, sc_n69, sc_n70, reduceIte, Nat.reduceEqDiff, eq_self, up_up, up_self, up_ne, ne_eq, not_false_eq_true, Int.reduceEq, Int.reduceNeg, se_aI, se_aJ]; omega))
    · repeat' (first | apply And.intro | (with_reducible assumption) | (intro h9; first | (exfalso; omega) | (simp only [rI_rI, rJ_rJ, hI_rI, hJ_rI, hI_rJ, hJ_rJ, hI_rR, hR_rI, hR_rJ, hN_rI, hN_rJ, svH_63, svH_66, rfH_63, wvH_63, wvH_62, wvH_67, wvH_68, wvH_69, sc_63, sc_n62, sc_n67, sc_n68, sc_n69, sc_n70, reduceIte, Nat.reduceEqDiff, eq_self, up_up, up_self, up_ne, ne_eq, not_false_eq_true, Int.reduceEq, Int.reduceNeg, se_aI, se_aJ] at h9; first | (exfalso; omega) | skip) | skip) | refine Exists.intro w ?_ | exact hG | exact hW | exact hS | exact hK | exact fun e => absurd e (by decide) | exact Exists.intro _ ⟨0, -1, _, _, _, _, _, (by rw [se_46, se_46] <;> rfl), rfl, by omega, by omega, by assumption, wnt2 hC rfl (by assumption), (FM.cm (by assumption)).up67 _ _, f0, f1 _, rfl⟩ | exact h2 | exact h2 (by omega) | omega | exact True.intro | (simp only [rI_rI, rJ_rJ, hI_rI, hJ_rI, hI_rJ, hJ_rJ, hI_rR, hR_rI, hR_rJ, hN_rI, hN_rJ, svH_63, svH_66, rfH_63, wvH_63, wvH_62, wvH_67, wvH_68, wvH_69, sc_63, sc_n62, sc_n67, sc_n68, sc_n69, sc_n70, reduceIte, Nat.reduceEqDiff, eq_self, up_up, up_self, up_ne, ne_eq, not_false_eq_true, Int.reduceEq, Int.reduceNeg, se_aI, se_aJ]; omega))
  · rintro m pc live vs g hl ⟨i, r, F, R, Q, L, s, rfl, rfl, i1, i2, i3, i4, i5, i6, i7, rfl⟩ hv hh1 hf1
    obtain ⟨rfl, rfl⟩ := look1 hl
    have e6 := i7.o.2
    have m5 := i5.o.2.2.1
    have p1 := p2_le (show (1 : Int) ≤ gWd w t a by omega)
    rw [p2_1] at p1
    by_cases y : i < blk w
    · by_cases x : F 6 = p2 (gWd w t a) - 1
      · have rn : r ≠ -1 := fun q => by
          rw [e6] at x
          unfold bsv at x
          rw [if_pos q] at x
          omega
        have k2 := h2 F R Q L r i5 (bs_fin (bs_top i6 (show 64 * i ≤ 64 * blk w by omega) rn fun N => by
          have g1 := (goalV_rng hW hC N).2
          rw [e6] at x
          unfold bsv at x
          rw [if_neg rn] at x
          omega) tt) i7
        repeat' (first | apply And.intro | (with_reducible assumption) | (intro h9; first | (exfalso; omega) | (simp only [rI_rI, rJ_rJ, hI_rI, hJ_rI, hI_rJ, hJ_rJ, hI_rR, hR_rI, hR_rJ, hN_rI, hN_rJ, svH_63, svH_66, rfH_63, wvH_63, wvH_62, wvH_67, wvH_68, wvH_69, sc_63, sc_n62, sc_n67, sc_n68, sc_n69, sc_n70, reduceIte, Nat.reduceEqDiff, eq_self, up_up, up_self, up_ne, ne_eq, not_false_eq_true, Int.reduceEq, Int.reduceNeg, se_aI, se_aJ] at h9; first | (exfalso; omega) | skip) | skip) | exact k2 | exact h2 | exact h2 (by omega) | omega | exact True.intro | (simp only [rI_rI, rJ_rJ, hI_rI, hJ_rI, hI_rJ, hJ_rJ, hI_rR, hR_rI, hR_rJ, hN_rI, hN_rJ, svH_63, svH_66, rfH_63, wvH_63, wvH_62, wvH_67, wvH_68, wvH_69, sc_63, sc_n62, sc_n67, sc_n68, sc_n69, sc_n70, reduceIte, Nat.reduceEqDiff, eq_self, up_up, up_self, up_ne, ne_eq, not_false_eq_true, Int.reduceEq, Int.reduceNeg, se_aI, se_aJ]; omega))
      · repeat' (first | apply And.intro | (with_reducible assumption) | (intro h9; first | (exfalso; omega) | (simp only [rI_rI, rJ_rJ, hI_rI, hJ_rI, hI_rJ, hJ_rJ, hI_rR, hR_rI, hR_rJ, hN_rI, hN_rJ, svH_63, svH_66, rfH_63, wvH_63, wvH_62, wvH_67, wvH_68, wvH_69, sc_63, sc_n62, sc_n67, sc_n68, sc_n69, sc_n70, reduceIte, Nat.reduceEqDiff, eq_self, up_up, up_self, up_ne, ne_eq, not_false_eq_true, Int.reduceEq, Int.reduceNeg, se_aI, se_aJ] at h9; first | (exfalso; omega) | skip) | skip) | refine Exists.intro w ?_ | exact hG | exact hW | exact hS | exact hC | exact absurd (cmpL_0.mpr (by assumption : L i = (0 : Int64))) (by assumption) | exact Exists.intro _ ⟨by omega, i + 1, r, F, R, Q, L, s, rfl, rfl, by omega, by omega, i3, i4, i5, bs_0 i6 i1 y m5 (cmpL_0.mp (by assumption)), i7, rfl⟩ | exact Exists.intro _ ⟨by omega, i + 1, r, F, _, _, _, s, cl_hp _ _ _ _ _ _ _ _, rfl, by omega, by omega, i3, i4, i5, (cl_st hW hC i4 m5 i1 y i6 i7 (by assumption) (by assumption) (by assumption) (by assumption) (by assumption) (by assumption)).2.2.2 (by assumption), i7, rfl⟩ | exact Exists.intro _ ⟨by omega, i + 1, _, _, _, _, _, s, cl_hp2 _ _ _ _ _ _ _ _ _, rfl, by omega, by omega, i3, i4, i5.up67 _ _, (cl_st hW hC i4 m5 i1 y i6 i7 (by assumption) (by assumption) (by assumption) (by assumption) (by assumption) (by assumption)).2.2.1 (by assumption), (by have q9 := cl_st hW hC i4 m5 i1 y i6 i7 (by assumption) (by assumption) (by assumption) (by assumption) (by assumption) (by assumption); exact q9.1 ▸ Bst.i q9.2.1), rfl⟩ | exact h2 | exact h2 (by omega) | omega | exact True.intro | (simp only [rI_rI, rJ_rJ, hI_rI, hJ_rI, hI_rJ, hJ_rJ, hI_rR, hR_rI, hR_rJ, hN_rI, hN_rJ, svH_63, svH_66, rfH_63, wvH_63, wvH_62, wvH_67, wvH_68, wvH_69, sc_63, sc_n62, sc_n67, sc_n68, sc_n69, sc_n70, reduceIte, Nat.reduceEqDiff, eq_self, up_up, up_self, up_ne, ne_eq, not_false_eq_true, Int.reduceEq, Int.reduceNeg, se_aI, se_aJ]; omega))
    · obtain rfl : i = blk w := by omega
      have k2 := h2 F R Q L r i5 (bs_fin i6 tt) i7
      repeat' (first | apply And.intro | (with_reducible assumption) | (intro h9; first | (exfalso; omega) | (simp only [rI_rI, rJ_rJ, hI_rI, hJ_rI, hI_rJ, hJ_rJ, hI_rR, hR_rI, hR_rJ, hN_rI, hN_rJ, svH_63, svH_66, rfH_63, wvH_63, wvH_62, wvH_67, wvH_68, wvH_69, sc_63, sc_n62, sc_n67, sc_n68, sc_n69, sc_n70, reduceIte, Nat.reduceEqDiff, eq_self, up_up, up_self, up_ne, ne_eq, not_false_eq_true, Int.reduceEq, Int.reduceNeg, se_aI, se_aJ] at h9; first | (exfalso; omega) | skip) | skip) | exact k2 | exact h2 | exact h2 (by omega) | omega | exact True.intro | (simp only [rI_rI, rJ_rJ, hI_rI, hJ_rI, hI_rJ, hJ_rJ, hI_rR, hR_rI, hR_rJ, hN_rI, hN_rJ, svH_63, svH_66, rfH_63, wvH_63, wvH_62, wvH_67, wvH_68, wvH_69, sc_63, sc_n62, sc_n67, sc_n68, sc_n69, sc_n70, reduceIte, Nat.reduceEqDiff, eq_self, up_up, up_self, up_ne, ne_eq, not_false_eq_true, Int.reduceEq, Int.reduceNeg, se_aI, se_aJ]; omega))
theorem m_X5_climb : MM 105 s_X5_climb := mm_of (own := 4) (by rfl) k_X5_climb (cl := [(98, s_X5_findModels), (106, s_X5_goalWidth), (107, s_X5_wishCones), (25, s_X0_cone), (29, s_X0_blockCount), (187, s_X9_fullWord), (45, s_X3_run), (108, s_X5_setGoal), (109, s_X5_climbIn)]) ⟨m_X5_findModels, m_X5_goalWidth, m_X5_wishCones, m_X0_cone, m_X0_blockCount, m_X9_fullWord, m_X3_run, m_X5_setGoal, m_X5_climbIn, trivial⟩ o_X5_climb

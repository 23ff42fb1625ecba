/-! ===== the class's methods: inputs, constraints, wishes ===== -/
theorem hs_1 (h : Hp) (f : Nat → Int → Int) (r : Int → Option Nat) : hI (hsH h f r) 1 = hI h 1 := rfl
theorem hs_2 (h : Hp) (f : Nat → Int → Int) (r : Int → Option Nat) : hI (hsH h f r) 2 = hI h 2 := rfl
theorem hs_5 (h : Hp) (f : Nat → Int → Int) (r : Int → Option Nat) : hI (hsH h f r) 5 = hI h 5 := rfl
theorem hs_10 (h : Hp) (f : Nat → Int → Int) (r : Int → Option Nat) : hI (hsH h f r) 10 = hI h 10 := rfl
theorem hs_46 (h : Hp) (f : Nat → Int → Int) (r : Int → Option Nat) : hI (hsH h f r) 46 = hI h 46 := rfl
theorem Kp.r {h : Hp} {a : Nat} (ha : a < 62 ∧ a ≠ 49 ∧ a ≠ 50) (f : Int → Int) : Kp h (rI h a f) := Box.i ⟨Box.i fun q q0 q1 => ⟨by rw [hI_rI', if_neg (by omega)], rfl, rfl⟩, by rw [hI_rI', if_neg (by omega)], by rw [hI_rI', if_neg (by omega)]⟩
theorem Kp.st (h : Hp) (f : Nat → Int → Int) : Kp h (stH h 5 f) := Box.i ⟨Box.i fun q q0 q1 => ⟨by
  show (if 5 ≤ q ∧ q < 5 + 6 then f q else hI h q) = _
  rw [if_neg (by omega)], rfl, rfl⟩, rfl, rfl⟩
theorem inp_ci {h : Hp} {w ps : Int → Int} {s : Int} (hC : CI h w ps s) {v x : Int} (v0 : 0 ≤ v) (v1 : v < w 281) (x0 : 0 ≤ x) (x1 : x < p2 (nd w (w (282 + v)) 1)) : CI (rI h 10 (up (hI h 10) v x)) (inW w v x) ps s := by
  have hW := hC.wf
  have vn := hW.vn
  have cn := hW.cn
  have wn := hW.wn
  obtain ⟨y, e0, e1⟩ := (Hi.inp (w := w) (x := x) v0).nx hW
  obtain ⟨s1, s2, s3, s4, s5, s6⟩ := hC.st.o
  have cx : Cx w (inW w v x) := Box.i ⟨e1, inW_f (by omega), fun k k0 k1 => inW_f (by omega)⟩
  refine hC.nw (hW.inp' v0 v1 x0 x1) y e0 e1 (fun a ha => by rw [hI_rI', if_neg (by omega)]) rfl ?_ (hC.sk.nx hW y cx) hC.rn ⟨rfl, rfl⟩
  refine Box.i ⟨?_, ?_, ?_, fun k k0 k1 => ?_, fun k k0 k1 => ?_, fun a a0 a1 => ?_⟩
  · rw [inW_f (by omega)]; exact s1
  · rw [inW_f (by omega)]; exact s2
  · rw [inW_f (by omega)]; exact s3
  · rw [inW_f (by omega)] at k1
    rw [inW_f (by omega), inW_f (by omega)]
    exact s4 k k0 k1
  · rw [inW_f (by omega)] at k1
    rw [inW_f (by omega), inW_f (by omega)]
    exact s5 k k0 k1
  · show up (hI h 10) v x a = _
    by_cases e : a = v
    · subst e
      unfold inW
      rw [up_self, up_self]
    · rw [up_ne e, inW_f (by omega)]
      exact s6 a a0 (by rw [e1] at a1; exact a1)
theorem fg_ci {h : Hp} {w ps : Int → Int} {s : Int} (hC : CI h w ps s) : CI (rI h 46 (up (hI h 46) 4 0)) w ps s := hC.fc (fun a a0 a1 => by rw [hI_rI', if_neg (by omega)]) rfl (SK.no (up_self (hI h 46) 4 0)) hC.rn ⟨rfl, rfl⟩
theorem req_ci {h : Hp} {w ps : Int → Int} {s : Int} (hC : CI h w ps s) (h4 : hI h 46 4 = 0) {n : Int} (n0 : 0 ≤ n) (n1 : n < w 0) (hd : nd w n 1 = 1) (hc : w 290 < 20) : CI (stH h 5 (acS (hI h) n)) (reqW w n) ps s := by
  have hW := hC.wf
  obtain ⟨y, e0, e1⟩ := (Hi.req hW n).nx hW
  refine hC.nw (hW.req n0 n1 hd hc) y e0 e1 (fun a ha => ?_) rfl ?_ (SK.no h4) hC.rn ⟨rfl, rfl⟩
  · show (if 5 ≤ a ∧ a < 5 + 6 then _ else hI h a) = _
    rw [if_neg (by omega)]
  · refine St0_fc (fun q q0 q1 => ?_) (ac_st hC.st hW hc)
    show (if 5 ≤ q ∧ q < 5 + 6 then _ else hI h q) = _
    rw [if_pos ⟨q0, q1⟩]
theorem wsh_ci {h : Hp} {w ps : Int → Int} {s : Int} (hC : CI h w ps s) {n x : Int} (n0 : 0 ≤ n) (n1 : n < w 0) (hd : nd w n 1 = 1) (x0 : 1 ≤ x) (x9 : x ≤ 9) (hc : w 332 < 8) : CI (stH h 5 (awS (hI h) n x)) (wishW w n x) ps s := by
  have hW := hC.wf
  have cn := hW.cn
  have wn := hW.wn
  obtain ⟨y, e0, e1⟩ := (Hi.wish hW n x).nx hW
  have f : ∀ j, j < 332 → wishW w n x j = w j := fun j a => by
    show up (up (up w _ _) _ _) 332 _ j = _
    rw [up_ne (by omega), up_ne (by omega), up_ne (by omega)]
  have cx : Cx w (wishW w n x) := Box.i ⟨e1, f _ (by omega), fun k k0 k1 => f _ (by omega)⟩
  refine hC.nw (hW.wishx n0 n1 hd x0 x9 hc) y e0 e1 (fun a ha => ?_) rfl ?_ (hC.sk.nx hW y cx) hC.rn ⟨rfl, rfl⟩
  · show (if 5 ≤ a ∧ a < 5 + 6 then _ else hI h a) = _
    rw [if_neg (by omega)]
  · refine St0_fc (fun q q0 q1 => ?_) (aw_st hC.st hW hc)
    show (if 5 ≤ q ∧ q < 5 + 6 then _ else hI h q) = _
    rw [if_pos ⟨q0, q1⟩]
theorem lev_ci {h : Hp} {w ps : Int → Int} {s : Int} (hC : CI h w ps s) {x : Int} (x0 : 0 ≤ x) (x5 : x ≤ 5) : CI (rI h 5 (up (hI h 5) 1 x)) (up w 331 x) ps s := by
  have hW := hC.wf
  have vn := hW.vn
  have cn := hW.cn
  have wn := hW.wn
  obtain ⟨y, e0, e1⟩ := (Hi.lev w x).nx hW
  obtain ⟨s1, s2, s3, s4, s5, s6⟩ := hC.st.o
  have f : ∀ j, j ≠ 331 → up w 331 x j = w j := fun j a => up_ne a
  have cx : Cx w (up w 331 x) := Box.i ⟨e1, f _ (by omega), fun k k0 k1 => f _ (by omega)⟩
  refine hC.nw (hW.levx x0 x5) y e0 e1 (fun a ha => by rw [hI_rI', if_neg (by omega)]) rfl ?_ (hC.sk.nx hW y cx) hC.rn ⟨rfl, rfl⟩
  refine Box.i ⟨?_, ?_, ?_, fun k k0 k1 => ?_, fun k k0 k1 => ?_, fun a a0 a1 => ?_⟩
  · show up (hI h 5) 1 x 1 = _
    rw [up_self, up_self]
  · show up (hI h 5) 1 x 2 = _
    rw [up_ne (by decide), f _ (by omega)]; exact s2
  · show up (hI h 5) 1 x 5 = _
    rw [up_ne (by decide), f _ (by omega)]; exact s3
  · rw [f _ (by omega)] at k1
    rw [f _ (by omega), f _ (by omega)]
    exact s4 k k0 k1
  · rw [f _ (by omega)] at k1
    rw [f _ (by omega), f _ (by omega)]
    exact s5 k k0 k1
  · rw [f _ (by omega)] at a1
    rw [f _ (by omega)]
    exact s6 a a0 a1
theorem clr_ci {h : Hp} {w ps : Int → Int} {s : Int} (hC : CI h w ps s) : CI (rI h 5 (up (hI h 5) 5 0)) (up w 332 0) ps s := by
  have hW := hC.wf
  have vn := hW.vn
  have cn := hW.cn
  have wn := hW.wn
  obtain ⟨y, e0, e1⟩ := (Hi.clr w 0).nx hW
  obtain ⟨s1, s2, s3, s4, s5, s6⟩ := hC.st.o
  have f : ∀ j, j ≠ 332 → up w 332 0 j = w j := fun j a => up_ne a
  have cx : Cx w (up w 332 0) := Box.i ⟨e1, f _ (by omega), fun k k0 k1 => f _ (by omega)⟩
  refine hC.nw hW.clr y e0 e1 (fun a ha => by rw [hI_rI', if_neg (by omega)]) rfl ?_ (hC.sk.nx hW y cx) hC.rn ⟨rfl, rfl⟩
  refine Box.i ⟨?_, ?_, ?_, fun k k0 k1 => ?_, fun k k0 k1 => ?_, fun a a0 a1 => ?_⟩
  · show up (hI h 5) 5 0 1 = _
    rw [up_ne (by decide), f _ (by omega)]; exact s1
  · show up (hI h 5) 5 0 2 = _
    rw [up_ne (by decide), f _ (by omega)]; exact s2
  · show up (hI h 5) 5 0 5 = _
    rw [up_self, up_self]
  · rw [f _ (by omega)] at k1
    rw [f _ (by omega), f _ (by omega)]
    exact s4 k k0 k1
  · rw [up_self] at k1
    omega
  · rw [f _ (by omega)] at a1
    rw [f _ (by omega)]
    exact s6 a a0 a1
theorem pop_ci {h : Hp} {w ps : Int → Int} {s : Int} (hC : CI h w ps s) (h4 : hI h 46 4 = 0) (hl : w 331 ≠ 0) {F : Int → Int} (f2 : F 2 = lft w (w 290).toNat) (f1 : F 1 = w 331 - 1) (ff : ∀ j, j ≠ 1 → j ≠ 2 → F j = hI h 5 j) : CI (rI h 5 F) (popW w) ps s := by
  have hW := hC.wf
  have vn := hW.vn
  have cn := hW.cn
  have wn := hW.wn
  have l := lft_le w (w 290).toNat
  obtain ⟨y, e0, e1⟩ := (Hi.pop w).nx hW
  obtain ⟨s1, s2, s3, s4, s5, s6⟩ := hC.st.o
  have f : ∀ j, j ≠ 331 → j ≠ 290 → popW w j = w j := fun j a b => by
    show up (up w _ _) 331 _ j = _
    rw [up_ne a, up_ne b]
  have r290 : popW w 290 = lft w (w 290).toNat := by
    show up (up w _ _) 331 _ 290 = _
    rw [up_ne (by decide), up_self]
  have r331 : popW w 331 = w 331 - 1 := up_self _ _ _
  refine hC.nw (hW.pop hl) y e0 e1 (fun a ha => by rw [hI_rI', if_neg (by omega)]) rfl ?_ (SK.no h4) hC.rn ⟨rfl, rfl⟩
  refine Box.i ⟨?_, ?_, ?_, fun k k0 k1 => ?_, fun k k0 k1 => ?_, fun a a0 a1 => ?_⟩
  · show F 1 = _
    rw [f1, r331]
  · show F 2 = _
    rw [f2, r290]
  · show F 5 = _
    rw [ff 5 (by decide) (by decide), f _ (by omega) (by omega)]; exact s3
  · rw [r290] at k1
    rw [f _ (by omega) (by omega), f _ (by omega) (by omega)]
    exact s4 k k0 (by omega)
  · rw [f _ (by omega) (by omega)] at k1
    rw [f _ (by omega) (by omega), f _ (by omega) (by omega)]
    exact s5 k k0 k1
  · rw [f _ (by omega) (by omega)] at a1
    rw [f _ (by omega) (by omega)]
    exact s6 a a0 a1
def s_X9_input : CS := (xc 2 12 4, ap [(3, 0), (0, 0), (0, 0)] (fun v x h Rt X =>
∃ w ps s, CI h w ps s ∧ (¬ (0 ≤ v ∧ v < w 281) → X 2 h) ∧ (0 ≤ v ∧ v < w 281 → ¬ (0 ≤ x ∧ x ≤ p2 (nd w (w (282 + v)) 1) - 1) → X 0 h) ∧ (0 ≤ v ∧ v < w 281 → 0 ≤ x ∧ x ≤ p2 (nd w (w (282 + v)) 1) - 1 → Go h (inW w v x) (svPp ps s w) (svS s) (Rt (some (.inl (w (286 + v))))))))
set_option maxRecDepth 100000 in
set_option maxHeartbeats 4000000 in
theorem o_X9_input : Obl true 1 4 (sp [(182, s_X9_demandVariable), (8, s_X0_variableWidth), (186, s_X9_isWord), (180, s_X9_remember)]) [] code_X9_input s_X9_input := by
  refine obl0x (by rfl) ?_
  intro v r_v x r_x h Rt X hh hf hs
  obtain ⟨w, ps, s, hC, h2, h3, h4⟩ := hs
  have hW := hC.wf
  have hG := hC.gh
  have hS := hC.st
  have g0 := hG.n
  have g1 := hG.v
  have vn := hW.vn
  by_cases z : 0 ≤ v ∧ v < w 281
  · have va := hW.var z.1 z.2
    have wd := hW.wd va.1 va.2.1
    have i := hS.o.2.2.2.2.2 v z.1 z.2
    by_cases y : 0 ≤ x ∧ x ≤ p2 (nd w (w (282 + v)) 1) - 1
    · have C : ∀ f r, HR f r (svPp ps s w) (svS s) → Rt (some (.inl (hI h 10 v))) (rI (hsH h f r) 10 (up (hI h 10) v x)) := fun f r k => by
        rw [show hI h 10 v = w (286 + v) from i]
        exact h4 z y _ (inp_ci (hC.hs k) z.1 z.2 y.1 (by omega)) ((Kp.hs h f r).tr (Kp.r (by decide) _))
      repeat' (first | apply And.intro | (with_reducible assumption) | (intro h9; first | (exfalso; omega) | (simp only [rI_rI, rJ_rJ, hI_rI, hJ_rI, hI_rJ, hJ_rJ, hI_rR, hR_rI, hR_rJ, hN_rI, hN_rJ, svH_63, svH_66, rfH_63, wvH_63, wvH_62, wvH_67, wvH_68, wvH_69, sc_63, sc_n62, sc_n67, sc_n68, sc_n69, sc_n70, reduceIte, Nat.reduceEqDiff, eq_self, up_up, up_self, up_ne, ne_eq, not_false_eq_true, Int.reduceEq, Int.reduceNeg, hs_1, hs_2, hs_5, hs_10, hs_46] at h9; first | (exfalso; omega) | skip) | skip) | exact ⟨w, ps, s, hC.hr, hS, hW.cts, g0, fun _ _ _ => ?_⟩ | refine ⟨w, ps, s, hC.hr, hS, hW.cts, g0, fun f9 r9 k9 => ?_⟩ | refine Exists.intro w ?_ | exact hG | exact hW | exact C _ _ (by assumption) | exact h2 | exact h2 (by omega) | exact h3 | exact h3 (by omega) | exact h4 | exact h4 (by omega) | omega | exact True.intro | (simp only [rI_rI, rJ_rJ, hI_rI, hJ_rI, hI_rJ, hJ_rJ, hI_rR, hR_rI, hR_rJ, hN_rI, hN_rJ, svH_63, svH_66, rfH_63, wvH_63, wvH_62, wvH_67, wvH_68, wvH_69, sc_63, sc_n62, sc_n67, sc_n68, sc_n69, sc_n70, reduceIte, Nat.reduceEqDiff, eq_self, up_up, up_self, up_ne, ne_eq, not_false_eq_true, Int.reduceEq, Int.reduceNeg, hs_1, hs_2, hs_5, hs_10, hs_46]; omega))
    · have C := h3 z y
      repeat' (first | apply And.intro | (with_reducible assumption) | (intro h9; first | (exfalso; omega) | (simp only [rI_rI, rJ_rJ, hI_rI, hJ_rI, hI_rJ, hJ_rJ, hI_rR, hR_rI, hR_rJ, hN_rI, hN_rJ, svH_63, svH_66, rfH_63, wvH_63, wvH_62, wvH_67, wvH_68, wvH_69, sc_63, sc_n62, sc_n67, sc_n68, sc_n69, sc_n70, reduceIte, Nat.reduceEqDiff, eq_self, up_up, up_self, up_ne, ne_eq, not_false_eq_true, Int.reduceEq, Int.reduceNeg, hs_1, hs_2, hs_5, hs_10, hs_46] at h9; first | (exfalso; omega) | skip) | skip) | refine Exists.intro w ?_ | exact hG | exact hW | exact C | exact h2 | exact h2 (by omega) | exact h3 | exact h3 (by omega) | exact h4 | exact h4 (by omega) | omega | exact True.intro | (simp only [rI_rI, rJ_rJ, hI_rI, hJ_rI, hI_rJ, hJ_rJ, hI_rR, hR_rI, hR_rJ, hN_rI, hN_rJ, svH_63, svH_66, rfH_63, wvH_63, wvH_62, wvH_67, wvH_68, wvH_69, sc_63, sc_n62, sc_n67, sc_n68, sc_n69, sc_n70, reduceIte, Nat.reduceEqDiff, eq_self, up_up, up_self, up_ne, ne_eq, not_false_eq_true, Int.reduceEq, Int.reduceNeg, hs_1, hs_2, hs_5, hs_10, hs_46]; omega))
  · have C := h2 z
    repeat' (first | apply And.intro | (with_reducible assumption) | (intro h9; first | (exfalso; omega) | (simp only [rI_rI, rJ_rJ, hI_rI, hJ_rI, hI_rJ, hJ_rJ, hI_rR, hR_rI, hR_rJ, hN_rI, hN_rJ, svH_63, svH_66, rfH_63, wvH_63, wvH_62, wvH_67, wvH_68, wvH_69, sc_63, sc_n62, sc_n67, sc_n68, sc_n69, sc_n70, reduceIte, Nat.reduceEqDiff, eq_self, up_up, up_self, up_ne, ne_eq, not_false_eq_true, Int.reduceEq, Int.reduceNeg, hs_1, hs_2, hs_5, hs_10, hs_46] at h9; first | (exfalso; omega) | skip) | skip) | exact C | exact h2 | exact h2 (by omega) | exact h3 | exact h3 (by omega) | exact h4 | exact h4 (by omega) | omega | exact True.intro | (simp only [rI_rI, rJ_rJ, hI_rI, hJ_rI, hI_rJ, hJ_rJ, hI_rR, hR_rI, hR_rJ, hN_rI, hN_rJ, svH_63, svH_66, rfH_63, wvH_63, wvH_62, wvH_67, wvH_68, wvH_69, sc_63, sc_n62, sc_n67, sc_n68, sc_n69, sc_n70, reduceIte, Nat.reduceEqDiff, eq_self, up_up, up_self, up_ne, ne_eq, not_false_eq_true, Int.reduceEq, Int.reduceNeg, hs_1, hs_2, hs_5, hs_10, hs_46]; omega))
theorem m_X9_input : MM 146 s_X9_input := mm_of (own := 8) (by rfl) k_X9_input (cl := [(182, s_X9_demandVariable), (8, s_X0_variableWidth), (186, s_X9_isWord), (180, s_X9_remember)]) ⟨m_X9_demandVariable, m_X0_variableWidth, m_X9_isWord, m_X9_remember, trivial⟩ o_X9_input
def s_X9_push : CS := (xc 1 6 4, ap [(3, 0)] (fun  h Rt X =>
∃ w ps s, CI h w ps s ∧ (w 331 = 5 → X 1 h) ∧ (w 331 ≠ 5 → Go h (up w 331 (w 331 + 1)) (svPp ps s w) (svS s) (Rt (some (.inl (w 331 + 1)))))))
set_option maxRecDepth 100000 in
set_option maxHeartbeats 4000000 in
theorem o_X9_push : Obl true 1 1 (sp [(180, s_X9_remember)]) [] code_X9_push s_X9_push := by
  refine obl0x (by rfl) ?_
  intro  h Rt X hh hf hs
  obtain ⟨w, ps, s, hC, h2, h3⟩ := hs
  have hW := hC.wf
  have hG := hC.gh
  have hS := hC.st
  have g0 := hG.n
  have ln := hW.lev
  have e1 : hI h 5 1 = w 331 := hS.o.1
  by_cases z : w 331 = 5
  · have C := h2 z
    repeat' (first | apply And.intro | (with_reducible assumption) | (intro h9; first | (exfalso; omega) | (simp only [rI_rI, rJ_rJ, hI_rI, hJ_rI, hI_rJ, hJ_rJ, hI_rR, hR_rI, hR_rJ, hN_rI, hN_rJ, svH_63, svH_66, rfH_63, wvH_63, wvH_62, wvH_67, wvH_68, wvH_69, sc_63, sc_n62, sc_n67, sc_n68, sc_n69, sc_n70, reduceIte, Nat.reduceEqDiff, eq_self, up_up, up_self, up_ne, ne_eq, not_false_eq_true, Int.reduceEq, Int.reduceNeg, hs_1, hs_2, hs_5, hs_10, hs_46] at h9; first | (exfalso; omega) | skip) | skip) | exact C | exact h2 | exact h2 (by omega) | exact h3 | exact h3 (by omega) | omega | exact True.intro | (simp only [rI_rI, rJ_rJ, hI_rI, hJ_rI, hI_rJ, hJ_rJ, hI_rR, hR_rI, hR_rJ, hN_rI, hN_rJ, svH_63, svH_66, rfH_63, wvH_63, wvH_62, wvH_67, wvH_68, wvH_69, sc_63, sc_n62, sc_n67, sc_n68, sc_n69, sc_n70, reduceIte, Nat.reduceEqDiff, eq_self, up_up, up_self, up_ne, ne_eq, not_false_eq_true, Int.reduceEq, Int.reduceNeg, hs_1, hs_2, hs_5, hs_10, hs_46]; omega))
  · have C : ∀ f r, HR f r (svPp ps s w) (svS s) → Rt (some (.inl (hI h 5 1 + 1))) (rI (hsH h f r) 5 (up (hI h 5) 1 (hI h 5 1 + 1))) := fun f r k => by
      rw [e1]
      exact h3 z _ (lev_ci (hC.hs k) (by omega) (by omega)) ((Kp.hs h f r).tr (Kp.r (by decide) _))
    repeat' (first | apply And.intro | (with_reducible assumption) | (intro h9; first | (exfalso; omega) | (simp only [rI_rI, rJ_rJ, hI_rI, hJ_rI, hI_rJ, hJ_rJ, hI_rR, hR_rI, hR_rJ, hN_rI, hN_rJ, svH_63, svH_66, rfH_63, wvH_63, wvH_62, wvH_67, wvH_68, wvH_69, sc_63, sc_n62, sc_n67, sc_n68, sc_n69, sc_n70, reduceIte, Nat.reduceEqDiff, eq_self, up_up, up_self, up_ne, ne_eq, not_false_eq_true, Int.reduceEq, Int.reduceNeg, hs_1, hs_2, hs_5, hs_10, hs_46] at h9; first | (exfalso; omega) | skip) | skip) | refine ⟨w, ps, s, hC.hr, hS, hW.cts, g0, fun f9 r9 k9 => ?_⟩ | exact C _ _ (by assumption) | (simp only [rI_rI, rJ_rJ, hI_rI, hJ_rI, hI_rJ, hJ_rJ, hI_rR, hR_rI, hR_rJ, hN_rI, hN_rJ, svH_63, svH_66, rfH_63, wvH_63, wvH_62, wvH_67, wvH_68, wvH_69, sc_63, sc_n62, sc_n67, sc_n68, sc_n69, sc_n70, reduceIte, Nat.reduceEqDiff, eq_self, up_up, up_self, up_ne, ne_eq, not_false_eq_true, Int.reduceEq, Int.reduceNeg, hs_1, hs_2, hs_5, hs_10, hs_46]; exact C _ _ (by assumption)) | exact h2 | exact h2 (by omega) | exact h3 | exact h3 (by omega) | omega | exact True.intro | (simp only [rI_rI, rJ_rJ, hI_rI, hJ_rI, hI_rJ, hJ_rJ, hI_rR, hR_rI, hR_rJ, hN_rI, hN_rJ, svH_63, svH_66, rfH_63, wvH_63, wvH_62, wvH_67, wvH_68, wvH_69, sc_63, sc_n62, sc_n67, sc_n68, sc_n69, sc_n70, reduceIte, Nat.reduceEqDiff, eq_self, up_up, up_self, up_ne, ne_eq, not_false_eq_true, Int.reduceEq, Int.reduceNeg, hs_1, hs_2, hs_5, hs_10, hs_46]; omega))
theorem m_X9_push : MM 149 s_X9_push := mm_of (own := 8) (by rfl) k_X9_push (cl := [(180, s_X9_remember)]) ⟨m_X9_remember, trivial⟩ o_X9_push
def s_X9_require : CS := (xc 2 12 4, ap [(3, 0), (0, 0)] (fun n h Rt X =>
∃ w ps s, CI h w ps s ∧ (¬ (0 ≤ n ∧ n < w 0) → X 2 h) ∧ (0 ≤ n ∧ n < w 0 → nd w n 1 ≠ 1 → X 0 h) ∧ (0 ≤ n ∧ n < w 0 → nd w n 1 = 1 → w 290 = 20 → X 1 h) ∧ (0 ≤ n ∧ n < w 0 → nd w n 1 = 1 → w 290 ≠ 20 → Go h (reqW w n) (svPp ps s w) (svS s) (Rt (some (.inl (w 290)))))))
set_option maxRecDepth 100000 in
set_option maxHeartbeats 4000000 in
theorem o_X9_require : Obl true 1 2 (sp [(181, s_X9_demandNode), (5, s_X0_get), (180, s_X9_remember), (96, s_X5_forget), (120, s_X6_addConstraint)]) [] code_X9_require s_X9_require := by
  refine obl0x (by rfl) ?_
  intro n r_n h Rt X hh hf hs
  obtain ⟨w, ps, s, hC, h2, h3, h4, h5⟩ := hs
  have hW := hC.wf
  have hG := hC.gh
  have hS := hC.st
  have g0 := hG.n
  have nn := hW.nn
  have cn := hW.cn
  have e2 : hI h 5 2 = w 290 := hS.o.2.1
  by_cases z : 0 ≤ n ∧ n < w 0
  · have c1 := hG.k1 z.1 z.2
    by_cases y : nd w n 1 = 1
    · by_cases x : w 290 = 20
      · have C := h4 z y x
        repeat' (first | apply And.intro | (with_reducible assumption) | (intro h9; first | (exfalso; omega) | (simp only [rI_rI, rJ_rJ, hI_rI, hJ_rI, hI_rJ, hJ_rJ, hI_rR, hR_rI, hR_rJ, hN_rI, hN_rJ, svH_63, svH_66, rfH_63, wvH_63, wvH_62, wvH_67, wvH_68, wvH_69, sc_63, sc_n62, sc_n67, sc_n68, sc_n69, sc_n70, reduceIte, Nat.reduceEqDiff, eq_self, up_up, up_self, up_ne, ne_eq, not_false_eq_true, Int.reduceEq, Int.reduceNeg, hs_1, hs_2, hs_5, hs_10, hs_46] at h9; first | (exfalso; omega) | skip) | skip) | exact C | exact h2 | exact h2 (by omega) | exact h3 | exact h3 (by omega) | exact h4 | exact h4 (by omega) | exact h5 | exact h5 (by omega) | omega | exact True.intro | (simp only [rI_rI, rJ_rJ, hI_rI, hJ_rI, hI_rJ, hJ_rJ, hI_rR, hR_rI, hR_rJ, hN_rI, hN_rJ, svH_63, svH_66, rfH_63, wvH_63, wvH_62, wvH_67, wvH_68, wvH_69, sc_63, sc_n62, sc_n67, sc_n68, sc_n69, sc_n70, reduceIte, Nat.reduceEqDiff, eq_self, up_up, up_self, up_ne, ne_eq, not_false_eq_true, Int.reduceEq, Int.reduceNeg, hs_1, hs_2, hs_5, hs_10, hs_46]; omega))
      · have C : ∀ f r, HR f r (svPp ps s w) (svS s) → Rt (some (.inl (hI h 5 2))) (stH (rI (hsH h f r) 46 (up (hI h 46) 4 0)) 5 (acS (hI (rI (hsH h f r) 46 (up (hI h 46) 4 0))) n)) := fun f r k => by
          rw [e2]
          exact h5 z y x _ (req_ci (fg_ci (hC.hs k)) (up_self (hI h 46) 4 0) z.1 z.2 y (by omega)) (((Kp.hs h f r).tr (Kp.r (by decide) _)).tr (Kp.st _ _))
        repeat' (first | apply And.intro | (with_reducible assumption) | (intro h9; first | (exfalso; omega) | (simp only [rI_rI, rJ_rJ, hI_rI, hJ_rI, hI_rJ, hJ_rJ, hI_rR, hR_rI, hR_rJ, hN_rI, hN_rJ, svH_63, svH_66, rfH_63, wvH_63, wvH_62, wvH_67, wvH_68, wvH_69, sc_63, sc_n62, sc_n67, sc_n68, sc_n69, sc_n70, reduceIte, Nat.reduceEqDiff, eq_self, up_up, up_self, up_ne, ne_eq, not_false_eq_true, Int.reduceEq, Int.reduceNeg, hs_1, hs_2, hs_5, hs_10, hs_46] at h9; first | (exfalso; omega) | skip) | skip) | refine ⟨w, ps, s, hC.hr, hS, hW.cts, g0, fun f9 r9 k9 => ?_⟩ | exact C _ _ (by assumption) | exact h2 | exact h2 (by omega) | exact h3 | exact h3 (by omega) | exact h4 | exact h4 (by omega) | exact h5 | exact h5 (by omega) | omega | exact True.intro | (simp only [rI_rI, rJ_rJ, hI_rI, hJ_rI, hI_rJ, hJ_rJ, hI_rR, hR_rI, hR_rJ, hN_rI, hN_rJ, svH_63, svH_66, rfH_63, wvH_63, wvH_62, wvH_67, wvH_68, wvH_69, sc_63, sc_n62, sc_n67, sc_n68, sc_n69, sc_n70, reduceIte, Nat.reduceEqDiff, eq_self, up_up, up_self, up_ne, ne_eq, not_false_eq_true, Int.reduceEq, Int.reduceNeg, hs_1, hs_2, hs_5, hs_10, hs_46]; omega))
    · have C := h3 z y
      repeat' (first | apply And.intro | (with_reducible assumption) | (intro h9; first | (exfalso; omega) | (simp only [rI_rI, rJ_rJ, hI_rI, hJ_rI, hI_rJ, hJ_rJ, hI_rR, hR_rI, hR_rJ, hN_rI, hN_rJ, svH_63, svH_66, rfH_63, wvH_63, wvH_62, wvH_67, wvH_68, wvH_69, sc_63, sc_n62, sc_n67, sc_n68, sc_n69, sc_n70, reduceIte, Nat.reduceEqDiff, eq_self, up_up, up_self, up_ne, ne_eq, not_false_eq_true, Int.reduceEq, Int.reduceNeg, hs_1, hs_2, hs_5, hs_10, hs_46] at h9; first | (exfalso; omega) | skip) | skip) | exact C | exact h2 | exact h2 (by omega) | exact h3 | exact h3 (by omega) | exact h4 | exact h4 (by omega) | exact h5 | exact h5 (by omega) | omega | exact True.intro | (simp only [rI_rI, rJ_rJ, hI_rI, hJ_rI, hI_rJ, hJ_rJ, hI_rR, hR_rI, hR_rJ, hN_rI, hN_rJ, svH_63, svH_66, rfH_63, wvH_63, wvH_62, wvH_67, wvH_68, wvH_69, sc_63, sc_n62, sc_n67, sc_n68, sc_n69, sc_n70, reduceIte, Nat.reduceEqDiff, eq_self, up_up, up_self, up_ne, ne_eq, not_false_eq_true, Int.reduceEq, Int.reduceNeg, hs_1, hs_2, hs_5, hs_10, hs_46]; omega))
  · have C := h2 z
    repeat' (first | apply And.intro | (with_reducible assumption) | (intro h9; first | (exfalso; omega) | (simp only [rI_rI, rJ_rJ, hI_rI, hJ_rI, hI_rJ, hJ_rJ, hI_rR, hR_rI, hR_rJ, hN_rI, hN_rJ, svH_63, svH_66, rfH_63, wvH_63, wvH_62, wvH_67, wvH_68, wvH_69, sc_63, sc_n62, sc_n67, sc_n68, sc_n69, sc_n70, reduceIte, Nat.reduceEqDiff, eq_self, up_up, up_self, up_ne, ne_eq, not_false_eq_true, Int.reduceEq, Int.reduceNeg, hs_1, hs_2, hs_5, hs_10, hs_46] at h9; first | (exfalso; omega) | skip) | skip) | exact C | exact h2 | exact h2 (by omega) | exact h3 | exact h3 (by omega) | exact h4 | exact h4 (by omega) | exact h5 | exact h5 (by omega) | omega | exact True.intro | (simp only [rI_rI, rJ_rJ, hI_rI, hJ_rI, hI_rJ, hJ_rJ, hI_rR, hR_rI, hR_rJ, hN_rI, hN_rJ, svH_63, svH_66, rfH_63, wvH_63, wvH_62, wvH_67, wvH_68, wvH_69, sc_63, sc_n62, sc_n67, sc_n68, sc_n69, sc_n70, reduceIte, Nat.reduceEqDiff, eq_self, up_up, up_self, up_ne, ne_eq, not_false_eq_true, Int.reduceEq, Int.reduceNeg, hs_1, hs_2, hs_5, hs_10, hs_46]; omega))
theorem m_X9_require : MM 148 s_X9_require := mm_of (own := 8) (by rfl) k_X9_require (cl := [(181, s_X9_demandNode), (5, s_X0_get), (180, s_X9_remember), (96, s_X5_forget), (120, s_X6_addConstraint)]) ⟨m_X9_demandNode, m_X0_get, m_X9_remember, m_X5_forget, m_X6_addConstraint, trivial⟩ o_X9_require
def s_X9_wish : CS := (xc 2 12 4, ap [(3, 0), (0, 0), (0, 0)] (fun n x h Rt X =>
∃ w ps s, CI h w ps s ∧ (¬ (0 ≤ n ∧ n < w 0) → X 2 h) ∧ (0 ≤ n ∧ n < w 0 → ¬ (nd w n 1 = 1 ∧ 1 ≤ x ∧ x ≤ 9) → X 0 h) ∧ (0 ≤ n ∧ n < w 0 → nd w n 1 = 1 ∧ 1 ≤ x ∧ x ≤ 9 → w 332 = 8 → X 1 h) ∧ (0 ≤ n ∧ n < w 0 → nd w n 1 = 1 ∧ 1 ≤ x ∧ x ≤ 9 → w 332 ≠ 8 → Go h (wishW w n x) (svPp ps s w) (svS s) (Rt (some (.inl (w 332 + 1)))))))
set_option maxRecDepth 100000 in
set_option maxHeartbeats 4000000 in
theorem o_X9_wish : Obl true 1 3 (sp [(181, s_X9_demandNode), (5, s_X0_get), (180, s_X9_remember), (122, s_X6_addWish)]) [] code_X9_wish s_X9_wish := by
  refine obl0x (by rfl) ?_
  intro n r_n x r_x h Rt X hh hf hs
  obtain ⟨w, ps, s, hC, h2, h3, h4, h5⟩ := hs
  have hW := hC.wf
  have hG := hC.gh
  have hS := hC.st
  have g0 := hG.n
  have nn := hW.nn
  have wn := hW.wn
  have e2 : hI h 5 5 = w 332 := hS.o.2.2.1
  by_cases z : 0 ≤ n ∧ n < w 0
  · have c1 := hG.k1 z.1 z.2
    by_cases y : nd w n 1 = 1 ∧ 1 ≤ x ∧ x ≤ 9
    · by_cases u : w 332 = 8
      · have C := h4 z y u
        repeat' (first | apply And.intro | (with_reducible assumption) | (intro h9; first | (exfalso; omega) | (simp only [rI_rI, rJ_rJ, hI_rI, hJ_rI, hI_rJ, hJ_rJ, hI_rR, hR_rI, hR_rJ, hN_rI, hN_rJ, svH_63, svH_66, rfH_63, wvH_63, wvH_62, wvH_67, wvH_68, wvH_69, sc_63, sc_n62, sc_n67, sc_n68, sc_n69, sc_n70, reduceIte, Nat.reduceEqDiff, eq_self, up_up, up_self, up_ne, ne_eq, not_false_eq_true, Int.reduceEq, Int.reduceNeg, hs_1, hs_2, hs_5, hs_10, hs_46] at h9; first | (exfalso; omega) | skip) | skip) | exact C | exact h2 | exact h2 (by omega) | exact h3 | exact h3 (by omega) | exact h4 | exact h4 (by omega) | exact h5 | exact h5 (by omega) | omega | exact True.intro | (simp only [rI_rI, rJ_rJ, hI_rI, hJ_rI, hI_rJ, hJ_rJ, hI_rR, hR_rI, hR_rJ, hN_rI, hN_rJ, svH_63, svH_66, rfH_63, wvH_63, wvH_62, wvH_67, wvH_68, wvH_69, sc_63, sc_n62, sc_n67, sc_n68, sc_n69, sc_n70, reduceIte, Nat.reduceEqDiff, eq_self, up_up, up_self, up_ne, ne_eq, not_false_eq_true, Int.reduceEq, Int.reduceNeg, hs_1, hs_2, hs_5, hs_10, hs_46]; omega))
      · have C : ∀ f r, HR f r (svPp ps s w) (svS s) → Rt (some (.inl (hI h 5 5 + 1))) (stH (hsH h f r) 5 (awS (hI (hsH h f r)) n x)) := fun f r k => by
          rw [e2]
          exact h5 z y u _ (wsh_ci (hC.hs k) z.1 z.2 y.1 y.2.1 y.2.2 (by omega)) ((Kp.hs h f r).tr (Kp.st _ _))
        repeat' (first | apply And.intro | (with_reducible assumption) | (intro h9; first | (exfalso; omega) | (simp only [rI_rI, rJ_rJ, hI_rI, hJ_rI, hI_rJ, hJ_rJ, hI_rR, hR_rI, hR_rJ, hN_rI, hN_rJ, svH_63, svH_66, rfH_63, wvH_63, wvH_62, wvH_67, wvH_68, wvH_69, sc_63, sc_n62, sc_n67, sc_n68, sc_n69, sc_n70, reduceIte, Nat.reduceEqDiff, eq_self, up_up, up_self, up_ne, ne_eq, not_false_eq_true, Int.reduceEq, Int.reduceNeg, hs_1, hs_2, hs_5, hs_10, hs_46] at h9; first | (exfalso; omega) | skip) | skip) | refine ⟨w, ps, s, hC.hr, hS, hW.cts, g0, fun f9 r9 k9 => ?_⟩ | exact C _ _ (by assumption) | exact h2 | exact h2 (by omega) | exact h3 | exact h3 (by omega) | exact h4 | exact h4 (by omega) | exact h5 | exact h5 (by omega) | omega | exact True.intro | (simp only [rI_rI, rJ_rJ, hI_rI, hJ_rI, hI_rJ, hJ_rJ, hI_rR, hR_rI, hR_rJ, hN_rI, hN_rJ, svH_63, svH_66, rfH_63, wvH_63, wvH_62, wvH_67, wvH_68, wvH_69, sc_63, sc_n62, sc_n67, sc_n68, sc_n69, sc_n70, reduceIte, Nat.reduceEqDiff, eq_self, up_up, up_self, up_ne, ne_eq, not_false_eq_true, Int.reduceEq, Int.reduceNeg, hs_1, hs_2, hs_5, hs_10, hs_46]; omega))
    · have C := h3 z y
      repeat' (first | apply And.intro | (with_reducible assumption) | (intro h9; first | (exfalso; omega) | (simp only [rI_rI, rJ_rJ, hI_rI, hJ_rI, hI_rJ, hJ_rJ, hI_rR, hR_rI, hR_rJ, hN_rI, hN_rJ, svH_63, svH_66, rfH_63, wvH_63, wvH_62, wvH_67, wvH_68, wvH_69, sc_63, sc_n62, sc_n67, sc_n68, sc_n69, sc_n70, reduceIte, Nat.reduceEqDiff, eq_self, up_up, up_self, up_ne, ne_eq, not_false_eq_true, Int.reduceEq, Int.reduceNeg, hs_1, hs_2, hs_5, hs_10, hs_46] at h9; first | (exfalso; omega) | skip) | skip) | exact C | exact h2 | exact h2 (by omega) | exact h3 | exact h3 (by omega) | exact h4 | exact h4 (by omega) | exact h5 | exact h5 (by omega) | omega | exact True.intro | (simp only [rI_rI, rJ_rJ, hI_rI, hJ_rI, hI_rJ, hJ_rJ, hI_rR, hR_rI, hR_rJ, hN_rI, hN_rJ, svH_63, svH_66, rfH_63, wvH_63, wvH_62, wvH_67, wvH_68, wvH_69, sc_63, sc_n62, sc_n67, sc_n68, sc_n69, sc_n70, reduceIte, Nat.reduceEqDiff, eq_self, up_up, up_self, up_ne, ne_eq, not_false_eq_true, Int.reduceEq, Int.reduceNeg, hs_1, hs_2, hs_5, hs_10, hs_46]; omega))
  · have C := h2 z
    repeat' (first | apply And.intro | (with_reducible assumption) | (intro h9; first | (exfalso; omega) | (simp only [rI_rI, rJ_rJ, hI_rI, hJ_rI, hI_rJ, hJ_rJ, hI_rR, hR_rI, hR_rJ, hN_rI, hN_rJ, svH_63, svH_66, rfH_63, wvH_63, wvH_62, wvH_67, wvH_68, wvH_69, sc_63, sc_n62, sc_n67, sc_n68, sc_n69, sc_n70, reduceIte, Nat.reduceEqDiff, eq_self, up_up, up_self, up_ne, ne_eq, not_false_eq_true, Int.reduceEq, Int.reduceNeg, hs_1, hs_2, hs_5, hs_10, hs_46] at h9; first | (exfalso; omega) | skip) | skip) | exact C | exact h2 | exact h2 (by omega) | exact h3 | exact h3 (by omega) | exact h4 | exact h4 (by omega) | exact h5 | exact h5 (by omega) | omega | exact True.intro | (simp only [rI_rI, rJ_rJ, hI_rI, hJ_rI, hI_rJ, hJ_rJ, hI_rR, hR_rI, hR_rJ, hN_rI, hN_rJ, svH_63, svH_66, rfH_63, wvH_63, wvH_62, wvH_67, wvH_68, wvH_69, sc_63, sc_n62, sc_n67, sc_n68, sc_n69, sc_n70, reduceIte, Nat.reduceEqDiff, eq_self, up_up, up_self, up_ne, ne_eq, not_false_eq_true, Int.reduceEq, Int.reduceNeg, hs_1, hs_2, hs_5, hs_10, hs_46]; omega))
theorem m_X9_wish : MM 164 s_X9_wish := mm_of (own := 8) (by rfl) k_X9_wish (cl := [(181, s_X9_demandNode), (5, s_X0_get), (180, s_X9_remember), (122, s_X6_addWish)]) ⟨m_X9_demandNode, m_X0_get, m_X9_remember, m_X6_addWish, trivial⟩ o_X9_wish
def s_X9_pop : CS := (xc 1 6 4, ap [(3, 0)] (fun  h Rt X =>
∃ w ps s, CI h w ps s ∧ (w 331 = 0 → X 1 h) ∧ (w 331 ≠ 0 → Go h (popW w) (svPp ps s w) (svS s) (Rt (some (.inl (w 290 - lft w (w 290).toNat)))))))
set_option maxRecDepth 100000 in
set_option maxHeartbeats 4000000 in
theorem o_X9_pop : Obl true 1 1 (sp [(180, s_X9_remember), (96, s_X5_forget), (121, s_X6_dropLevel)]) [] code_X9_pop s_X9_pop := by
  refine obl0x (by rfl) ?_
  intro  h Rt X hh hf hs
  obtain ⟨w, ps, s, hC, h2, h3⟩ := hs
  have hW := hC.wf
  have hG := hC.gh
  have hS := hC.st
  have g0 := hG.n
  have ln := hW.lev
  have e1 : hI h 5 1 = w 331 := hS.o.1
  by_cases z : w 331 = 0
  · have C := h2 z
    repeat' (first | apply And.intro | (with_reducible assumption) | (intro h9; first | (exfalso; omega) | (simp only [rI_rI, rJ_rJ, hI_rI, hJ_rI, hI_rJ, hJ_rJ, hI_rR, hR_rI, hR_rJ, hN_rI, hN_rJ, svH_63, svH_66, rfH_63, wvH_63, wvH_62, wvH_67, wvH_68, wvH_69, sc_63, sc_n62, sc_n67, sc_n68, sc_n69, sc_n70, reduceIte, Nat.reduceEqDiff, eq_self, up_up, up_self, up_ne, ne_eq, not_false_eq_true, Int.reduceEq, Int.reduceNeg, hs_1, hs_2, hs_5, hs_10, hs_46] at h9; first | (exfalso; omega) | skip) | skip) | exact C | exact h2 | exact h2 (by omega) | exact h3 | exact h3 (by omega) | omega | exact True.intro | (simp only [rI_rI, rJ_rJ, hI_rI, hJ_rI, hI_rJ, hJ_rJ, hI_rR, hR_rI, hR_rJ, hN_rI, hN_rJ, svH_63, svH_66, rfH_63, wvH_63, wvH_62, wvH_67, wvH_68, wvH_69, sc_63, sc_n62, sc_n67, sc_n68, sc_n69, sc_n70, reduceIte, Nat.reduceEqDiff, eq_self, up_up, up_self, up_ne, ne_eq, not_false_eq_true, Int.reduceEq, Int.reduceNeg, hs_1, hs_2, hs_5, hs_10, hs_46]; omega))
  · have S : ∀ f r, HR f r (svPp ps s w) (svS s) → St0 (hI (rI (hsH h f r) 46 (up (hI h 46) 4 0))) 5 w := fun f r k => (fg_ci (hC.hs k)).st
    have C : ∀ f r F, HR f r (svPp ps s w) (svS s) → F 2 = lft w (w 290).toNat → F 1 = w 331 - 1 → (∀ j, j ≠ 1 → j ≠ 2 → F j = hI h 5 j) → Rt (some (.inl (w 290 - lft w (w 290).toNat))) (rI (rI (hsH h f r) 46 (up (hI h 46) 4 0)) 5 F) := fun f r F k f2 f1 ff => h3 z _ (pop_ci (fg_ci (hC.hs k)) (up_self (hI h 46) 4 0) z f2 f1 ff) (((Kp.hs h f r).tr (Kp.r (by decide) _)).tr (Kp.r (by decide) _))
    repeat' (first | apply And.intro | (with_reducible assumption) | (intro h9; first | (exfalso; omega) | (simp only [rI_rI, rJ_rJ, hI_rI, hJ_rI, hI_rJ, hJ_rJ, hI_rR, hR_rI, hR_rJ, hN_rI, hN_rJ, svH_63, svH_66, rfH_63, wvH_63, wvH_62, wvH_67, wvH_68, wvH_69, sc_63, sc_n62, sc_n67, sc_n68, sc_n69, sc_n70, reduceIte, Nat.reduceEqDiff, eq_self, up_up, up_self, up_ne, ne_eq, not_false_eq_true, Int.reduceEq, Int.reduceNeg, hs_1, hs_2, hs_5, hs_10, hs_46] at h9; first | (exfalso; omega) | skip) | skip) | refine ⟨w, ps, s, hC.hr, hS, hW.cts, g0, fun f9 r9 k9 => ?_⟩ | exact ⟨w, S _ _ (by assumption), hW, fun F q2 q1 qf => C _ _ F (by assumption) q2 q1 qf⟩ | (refine ⟨w, S _ _ (by assumption), hW, fun F q2 q1 qf => ?_⟩) | exact C _ _ _ (by assumption) (by assumption) (by assumption) (by assumption) | exact h2 | exact h2 (by omega) | exact h3 | exact h3 (by omega) | omega | exact True.intro | (simp only [rI_rI, rJ_rJ, hI_rI, hJ_rI, hI_rJ, hJ_rJ, hI_rR, hR_rI, hR_rJ, hN_rI, hN_rJ, svH_63, svH_66, rfH_63, wvH_63, wvH_62, wvH_67, wvH_68, wvH_69, sc_63, sc_n62, sc_n67, sc_n68, sc_n69, sc_n70, reduceIte, Nat.reduceEqDiff, eq_self, up_up, up_self, up_ne, ne_eq, not_false_eq_true, Int.reduceEq, Int.reduceNeg, hs_1, hs_2, hs_5, hs_10, hs_46]; omega))
theorem m_X9_pop : MM 150 s_X9_pop := mm_of (own := 8) (by rfl) k_X9_pop (cl := [(180, s_X9_remember), (96, s_X5_forget), (121, s_X6_dropLevel)]) ⟨m_X9_remember, m_X5_forget, m_X6_dropLevel, trivial⟩ o_X9_pop

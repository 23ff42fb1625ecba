/-! ===== the class's methods: a text read ===== -/
theorem rd_ci {g : Hp} {w u ps : Int → Int} {s : Int} (hC : CI g w ps s) {r : Rw} (hF : Fb (hI g) r) (G : GR (r 1) (r 2) (hI g 3) (hI g 4) u) (hU : WF u) (x : Nx w u) (e : ∀ j, 281 ≤ j → u j = w j) : CI (wI g r) u ps s ∧ Kp g (wI g r) := by
  have f := hF.o
  refine ⟨hC.gr hU (fun a a0 a1 => f a (by omega) (by omega) (by omega)) rfl ?_ (fun j a _ => e j a) ?_ hC.rn ⟨f 49 (by decide) (by decide) (by decide), f 50 (by decide) (by decide) (by decide)⟩, Kp.w fun a ha => f a (by omega) (by omega) (by omega)⟩
  · show GR (r 1) (r 2) (r 3) (r 4) u
    rw [f 3 (by decide) (by decide) (by decide), f 4 (by decide) (by decide) (by decide)]
    exact G
  · show SK u (r 46) (hJ g 47)
    rw [f 46 (by decide) (by decide) (by decide)]
    exact hC.sk.nx hC.wf x (Cx.e hC.wf fun j a _ _ => e j a)
theorem rd_ci1 {g : Hp} {w u ps : Int → Int} {s : Int} (hC : CI g w ps s) {r : Rw} (hF : Fb (hI g) r) {f : Int → Int} (k : GR f (r 2) (r 3) (r 4) w) : CI (rI (wI g r) 1 f) w ps s ∧ Kp g (rI (wI g r) 1 f) := by
  have q := rd_ci (r := ur r 1 f) hC (Box.i fun a a1 a2 a3 => by rw [ur_ne a1]; exact hF.o a a1 a2 a3) (by
    rw [ur_self, ur_ne (by decide)]
    have f3 := hF.o 3 (by decide) (by decide) (by decide)
    have f4 := hF.o 4 (by decide) (by decide) (by decide)
    rw [f3, f4] at k
    exact k) hC.wf (Nx.rf w) (fun _ _ => rfl)
  exact q
def s_X9_read : CS := (xc 2 12 13, ap [(3, 0)] (fun  h Rt X =>
∃ w ps s, CI h w ps s ∧ (rdA (fin (stR (hI h))) ≠ -1 → Go h w ps s (X 0)) ∧ (rdA (fin (stR (hI h))) = -1 → ¬ bsM (fin (stR (hI h)) 52) (fin (stR (hI h)) 53) (fin (stR (hI h)) 54) w (pS (fin (stR (hI h)))).toNat → Go h w ps s (X 1)) ∧
(rdA (fin (stR (hI h))) = -1 → bsM (fin (stR (hI h)) 52) (fin (stR (hI h)) 53) (fin (stR (hI h)) 54) w (pS (fin (stR (hI h)))).toNat → Go h (bsS (fin (stR (hI h)) 52) (fin (stR (hI h)) 53) (fin (stR (hI h)) 54) w (pS (fin (stR (hI h)))).toNat).1 (svPp ps s w) (svS s) (Rt (some (.inl ((bsS (fin (stR (hI h)) 52) (fin (stR (hI h)) 53) (fin (stR (hI h)) 54) w (pS (fin (stR (hI h)))).toNat).2 0)))))))
set_option maxRecDepth 100000 in
set_option maxHeartbeats 4000000 in
theorem o_X9_read : Obl true 1 3 (sp [(79, s_X4_errorPosition), (1, s_X0_count), (93, s_X4_build), (9, s_X0_cutTo), (179, s_X9_keepMade)]) [] code_X9_read s_X9_read := by
  refine obl0x (by rfl) ?_
  intro  h Rt X hh hf hs
  obtain ⟨w, ps, s, hC, h2, h3, h4⟩ := hs
  have hW := hC.wf
  have tl := hC.tl
  have hD : Gd (stR (hI h)) := stR_G tl.1 tl.2
  have cg : CI (wI h (fin (stR (hI h)))) w ps s := hC.fo (Fo.all _)
  have kg : Kp h (wI h (fin (stR (hI h)))) := Kp.fo (Fo.all _)
  have g0 : hI (wI h (fin (stR (hI h)))) 1 3 = w 0 := cg.gh.n
  by_cases z : rdA (fin (stR (hI h))) = -1
  · obtain ⟨sp, -⟩ := fin_st hD z
    have HRr : ∀ r, Fb (hI (wI h (fin (stR (hI h))))) r → HR (hI (wI (wI h (fin (stR (hI h)))) r)) (hR h 12) ps s := fun r hF => HR.fc (fun q q0 q1 => hF.o q (by omega) (by omega) (by omega)) cg.hr
    have STr : ∀ r, Fb (hI (wI h (fin (stR (hI h))))) r → St0 (hI (wI (wI h (fin (stR (hI h)))) r)) 5 w := fun r hF => St0_fc (fun q q0 q1 => hF.o q (by omega) (by omega) (by omega)) cg.st
    by_cases y : bsM (fin (stR (hI h)) 52) (fin (stR (hI h)) 53) (fin (stR (hI h)) 54) w (pS (fin (stR (hI h)))).toNat
    · have bi := bsI.all hW sp (pS (fin (stR (hI h)))).toNat (by have := sp.o.1; omega) y
      have b0 := bi.o.2.2.2 0 (by decide) (by rw [sp.o.2.2.2]; decide)
      have K := h4 z y
      have V : ∀ t : Nat, (t : Int) < hI (wI h (fin (stR (hI h)))) 51 6 → (bsR (hI (wI h (fin (stR (hI h)))) 52) (hI (wI h (fin (stR (hI h)))) 53) (hI (wI h (fin (stR (hI h)))) 54) w t).1 = -1 → False := fun t ht q => y.o t (by have : hI (wI h (fin (stR (hI h)))) 51 6 = pS (fin (stR (hI h))) := rfl; omega) q
      have C : ∀ r f q, Fb (hI (wI h (fin (stR (hI h))))) r → GR (r 1) (r 2) (hI (wI h (fin (stR (hI h)))) 3) (hI (wI h (fin (stR (hI h)))) 4) (bsS (hI (wI h (fin (stR (hI h)))) 52) (hI (wI h (fin (stR (hI h)))) 53) (hI (wI h (fin (stR (hI h)))) 54) w (hI (wI h (fin (stR (hI h)))) 51 6).toNat).1 → HR f q (svPp ps s w) (svS s) → Rt (some (.inl ((bsS (hI (wI h (fin (stR (hI h)))) 52) (hI (wI h (fin (stR (hI h)))) 53) (hI (wI h (fin (stR (hI h)))) 54) w (hI (wI h (fin (stR (hI h)))) 51 6).toNat).2 0))) (hsH (wI (wI h (fin (stR (hI h)))) r) f q) := fun r f q hF G9 k => by
        have c := rd_ci cg hF G9 bi.o.1 bi.o.2.1 bi.o.2.2.1
        exact K _ (c.1.hs k) ((kg.tr c.2).tr (Kp.hs _ _ _))
      have N : (bsS (hI (wI h (fin (stR (hI h)))) 52) (hI (wI h (fin (stR (hI h)))) 53) (hI (wI h (fin (stR (hI h)))) 54) w (hI (wI h (fin (stR (hI h)))) 51 6).toNat).2 0 ≠ -1 := fun q => by
        have b1 : 0 ≤ (bsS (hI (wI h (fin (stR (hI h)))) 52) (hI (wI h (fin (stR (hI h)))) 53) (hI (wI h (fin (stR (hI h)))) 54) w (hI (wI h (fin (stR (hI h)))) 51 6).toNat).2 0 := b0.1
        omega
      repeat' (first | apply And.intro | (with_reducible assumption) | (intro h9; first | (exfalso; omega) | (simp only [rI_rI, rJ_rJ, hI_rI, hJ_rI, hI_rJ, hJ_rJ, hI_rR, hR_rI, hR_rJ, hN_rI, hN_rJ, svH_63, svH_66, rfH_63, wvH_63, wvH_62, wvH_67, wvH_68, wvH_69, sc_63, sc_n62, sc_n67, sc_n68, sc_n69, sc_n70, reduceIte, Nat.reduceEqDiff, eq_self, up_up, up_self, up_ne, ne_eq, not_false_eq_true, Int.reduceEq, Int.reduceNeg] at h9; first | (exfalso; omega) | skip) | skip) | exact (V _ (by assumption) (by assumption)).elim | exact absurd (by assumption) N | exact ⟨w, ps, s, HRr _ (by assumption), STr _ (by assumption), hW.cts, g0, fun q => absurd q N, fun _ f9 r9 k9 => C _ _ _ (by assumption) (by assumption) k9⟩ | refine Exists.intro w ?_ | exact cg.gh | exact hW | exact sp | exact h2 | exact h2 (by omega) | exact h3 | exact h3 (by omega) | exact h4 | exact h4 (by omega) | omega | exact True.intro | (simp only [rI_rI, rJ_rJ, hI_rI, hJ_rI, hI_rJ, hJ_rJ, hI_rR, hR_rI, hR_rJ, hN_rI, hN_rJ, svH_63, svH_66, rfH_63, wvH_63, wvH_62, wvH_67, wvH_68, wvH_69, sc_63, sc_n62, sc_n67, sc_n68, sc_n69, sc_n70, reduceIte, Nat.reduceEqDiff, eq_self, up_up, up_self, up_ne, ne_eq, not_false_eq_true, Int.reduceEq, Int.reduceNeg]; omega))
    · have K := h3 z y
      have C : ∀ r f, Fb (hI (wI h (fin (stR (hI h))))) r → GR f (r 2) (r 3) (r 4) w → X 1 (rI (wI (wI h (fin (stR (hI h)))) r) 1 f) := fun r f hF G9 => by
        have c := rd_ci1 (u := w) cg hF G9
        exact K _ c.1 (kg.tr c.2)
      have A : ∀ (t : Nat) r, (t : Int) < hI (wI h (fin (stR (hI h)))) 51 6 → bsM (hI (wI h (fin (stR (hI h)))) 52) (hI (wI h (fin (stR (hI h)))) 53) (hI (wI h (fin (stR (hI h)))) 54) w t → Fb (hI (wI h (fin (stR (hI h))))) r → GR (r 1) (r 2) (hI (wI h (fin (stR (hI h)))) 3) (hI (wI h (fin (stR (hI h)))) 4) (bsS (hI (wI h (fin (stR (hI h)))) 52) (hI (wI h (fin (stR (hI h)))) 53) (hI (wI h (fin (stR (hI h)))) 54) w t).1 → GH (wI (wI h (fin (stR (hI h)))) r) (bsS (hI (wI h (fin (stR (hI h)))) 52) (hI (wI h (fin (stR (hI h)))) 53) (hI (wI h (fin (stR (hI h)))) 54) w t).1 ∧ WF (bsS (hI (wI h (fin (stR (hI h)))) 52) (hI (wI h (fin (stR (hI h)))) 53) (hI (wI h (fin (stR (hI h)))) 54) w t).1 ∧ Pfx w (bsS (hI (wI h (fin (stR (hI h)))) 52) (hI (wI h (fin (stR (hI h)))) 53) (hI (wI h (fin (stR (hI h)))) 54) w t).1 := fun t r ht hm hF G9 => by
        have bi := bsI.all hW sp t (by have : hI (wI h (fin (stR (hI h)))) 51 6 = pS (fin (stR (hI h))) := rfl; omega) hm
        exact ⟨(rd_ci cg hF G9 bi.o.1 bi.o.2.1 bi.o.2.2.1).1.gh, bi.o.1, Pfx.i hW bi.o.2.1 (bi.o.2.2.1 281 (by decide))⟩
      have D : ∀ r f, Fb (hI (wI h (fin (stR (hI h))))) r → HR (hI (rI (wI (wI h (fin (stR (hI h)))) r) 1 f)) (hR h 12) ps s ∧ St0 (hI (rI (wI (wI h (fin (stR (hI h)))) r) 1 f)) 5 w := fun r f hF => ⟨HR.fc (fun q q0 q1 => by rw [hI_rI', if_neg (by omega)]) (HRr r hF), St0_fc (fun q q0 q1 => by rw [hI_rI', if_neg (by omega)]) (STr r hF)⟩
      repeat' (first | apply And.intro | (with_reducible assumption) | (intro h9; first | (exfalso; omega) | (simp only [rI_rI, rJ_rJ, hI_rI, hJ_rI, hI_rJ, hJ_rJ, hI_rR, hR_rI, hR_rJ, hN_rI, hN_rJ, svH_63, svH_66, rfH_63, wvH_63, wvH_62, wvH_67, wvH_68, wvH_69, sc_63, sc_n62, sc_n67, sc_n68, sc_n69, sc_n70, reduceIte, Nat.reduceEqDiff, eq_self, up_up, up_self, up_ne, ne_eq, not_false_eq_true, Int.reduceEq, Int.reduceNeg] at h9; first | (exfalso; omega) | skip) | skip) | exact absurd (by assumption) y | exact ⟨w, ps, s, (D _ _ (by assumption)).1, (D _ _ (by assumption)).2, hW.cts, g0, fun _ => C _ _ (by assumption) (by assumption), fun q => absurd rfl q⟩ | refine ⟨_, w, (A _ _ (by assumption) (by assumption) (by assumption) (by assumption)).1, (A _ _ (by assumption) (by assumption) (by assumption) (by assumption)).2.1, (A _ _ (by assumption) (by assumption) (by assumption) (by assumption)).2.2, g0, fun f9 k9 => ?_⟩ | refine Exists.intro w ?_ | exact cg.gh | exact hW | exact sp | exact h2 | exact h2 (by omega) | exact h3 | exact h3 (by omega) | exact h4 | exact h4 (by omega) | omega | exact True.intro | (simp only [rI_rI, rJ_rJ, hI_rI, hJ_rI, hI_rJ, hJ_rJ, hI_rR, hR_rI, hR_rJ, hN_rI, hN_rJ, svH_63, svH_66, rfH_63, wvH_63, wvH_62, wvH_67, wvH_68, wvH_69, sc_63, sc_n62, sc_n67, sc_n68, sc_n69, sc_n70, reduceIte, Nat.reduceEqDiff, eq_self, up_up, up_self, up_ne, ne_eq, not_false_eq_true, Int.reduceEq, Int.reduceNeg]; omega))
  · have C : X 0 (wI h (fin (stR (hI h)))) := h2 z _ cg kg
    repeat' (first | apply And.intro | (with_reducible assumption) | (intro h9; first | (exfalso; omega) | (simp only [rI_rI, rJ_rJ, hI_rI, hJ_rI, hI_rJ, hJ_rJ, hI_rR, hR_rI, hR_rJ, hN_rI, hN_rJ, svH_63, svH_66, rfH_63, wvH_63, wvH_62, wvH_67, wvH_68, wvH_69, sc_63, sc_n62, sc_n67, sc_n68, sc_n69, sc_n70, reduceIte, Nat.reduceEqDiff, eq_self, up_up, up_self, up_ne, ne_eq, not_false_eq_true, Int.reduceEq, Int.reduceNeg] at h9; first | (exfalso; omega) | skip) | skip) | exact C | exact h2 | exact h2 (by omega) | exact h3 | exact h3 (by omega) | exact h4 | exact h4 (by omega) | omega | exact True.intro | (simp only [rI_rI, rJ_rJ, hI_rI, hJ_rI, hI_rJ, hJ_rJ, hI_rR, hR_rI, hR_rJ, hN_rI, hN_rJ, svH_63, svH_66, rfH_63, wvH_63, wvH_62, wvH_67, wvH_68, wvH_69, sc_63, sc_n62, sc_n67, sc_n68, sc_n69, sc_n70, reduceIte, Nat.reduceEqDiff, eq_self, up_up, up_self, up_ne, ne_eq, not_false_eq_true, Int.reduceEq, Int.reduceNeg]; omega))
theorem m_X9_read : MM 171 s_X9_read := mm_of (own := 8) (by rfl) k_X9_read (cl := [(79, s_X4_errorPosition), (1, s_X0_count), (93, s_X4_build), (9, s_X0_cutTo), (179, s_X9_keepMade)]) ⟨m_X4_errorPosition, m_X0_count, m_X4_build, m_X0_cutTo, m_X9_keepMade, trivial⟩ o_X9_read

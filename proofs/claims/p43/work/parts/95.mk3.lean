/-! ===== the class: all steps made; the reference: a text read ===== -/
/-- the rows but those of the graph and what is built -/
def Fb (H r : Rw) : Prop := Box (∀ a, a ≠ 1 → a ≠ 2 → a ≠ 59 → r a = H a)
def BuQ (h : Hp) (w : Int → Int) (m : Nat) (vs : List AV) (g : Hp) : Prop := ∃ (t : Nat) (r : Rw), g = wI h r ∧ Fb (hI h) r ∧ GR (r 1) (r 2) (hI h 3) (hI h 4) (bsS (hI h 52) (hI h 53) (hI h 54) w t).1 ∧ vs = [.inr (.inr (some 51)), .inr (.inr (some 1)), .inl (szF (hI h 52) t), .inl (t : Int)] ∧ (t : Int) ≤ hI h 51 6 ∧ bsM (hI h 52) (hI h 53) (hI h 54) w t ∧
  (∀ i, 0 ≤ i → i < szF (hI h 52) t → r 59 i = (bsS (hI h 52) (hI h 53) (hI h 54) w t).2 i) ∧ m = (hI h 51 6 - t).toNat
theorem BuQ.st {h : Hp} {w : Int → Int} (hS : StP (hI h 52) (hI h 53) (hI h 54) (hI h 51 6)) {t : Nat} {r : Rw} (hF : Fb (hI h) r) (ht : (t : Int) < hI h 51 6) (hm : bsM (hI h 52) (hI h 53) (hI h 54) w t) (hf : ∀ i, 0 ≤ i → i < szF (hI h 52) t → r 59 i = (bsS (hI h 52) (hI h 53) (hI h 54) w t).2 i)
    {x p : Int} {f1 f2 : Int → Int} (hx : x = (bsR (hI h 52) (hI h 53) (hI h 54) w t).1) (hn : x ≠ -1) (hu : GR f1 f2 (hI h 3) (hI h 4) (bsR (hI h 52) (hI h 53) (hI h 54) w t).2) (hp : p = szF (hI h 52) t - opc (hI h 52 t)) :
    ∃ k', k' < (hI h 51 6 - t).toNat ∧ BuQ h w k' [.inr (.inr (some 51)), .inr (.inr (some 1)), .inl (p + 1), .inl ((t : Int) + 1)] (rI (rI (rI (wI h r) 2 f2) 1 f1) 59 (up (r 59) p x)) := by
  have oc := opc_rng (hI h 52 t)
  subst hx hp
  refine ⟨(hI h 51 6 - (t + 1 : Nat)).toNat, by omega, t + 1, ur (ur (ur r 2 f2) 1 f1) 59 (up (r 59) (szF (hI h 52) t - opc (hI h 52 t)) (bsR (hI h 52) (hI h 53) (hI h 54) w t).1), rfl, Box.i fun a h1 h2 h3 => by rw [ur_ne h3, ur_ne h1, ur_ne h2]; exact hF.o a h1 h2 h3, ?_, ?_, by omega, hm.s hn, fun i i0 i1 => ?_, rfl⟩
  · rw [ur_ne (by decide), ur_self, ur_ne (by decide), ur_ne (by decide), ur_self]
    exact hu
  · rw [szF_n]
    rfl
  · rw [szF_n] at i1
    rw [bsS_s, ur_self]
    show up (r 59) _ _ i = up (bsS (hI h 52) (hI h 53) (hI h 54) w t).2 _ _ i
    by_cases e : i = szF (hI h 52) t - opc (hI h 52 t)
    · rw [e, up_self, up_self]
    · rw [up_ne e, up_ne e]
      exact hf i i0 (by omega)
def s_X4_build : CS := (zc 6, ap [(3, 51), (3, 1)] (fun  h Rt X =>
∃ w, GH h w ∧ WF w ∧ StP (hI h 52) (hI h 53) (hI h 54) (hI h 51 6) ∧ (bsM (hI h 52) (hI h 53) (hI h 54) w (hI h 51 6).toNat → ∀ r, Fb (hI h) r → GR (r 1) (r 2) (hI h 3) (hI h 4) (bsS (hI h 52) (hI h 53) (hI h 54) w (hI h 51 6).toNat).1 → Rt (some (.inl ((bsS (hI h 52) (hI h 53) (hI h 54) w (hI h 51 6).toNat).2 0))) (wI h r)) ∧
(∀ t : Nat, (t : Int) < hI h 51 6 → bsM (hI h 52) (hI h 53) (hI h 54) w t → (bsR (hI h 52) (hI h 53) (hI h 54) w t).1 = -1 → ∀ r, Fb (hI h) r → GR (r 1) (r 2) (hI h 3) (hI h 4) (bsS (hI h 52) (hI h 53) (hI h 54) w t).1 → Rt (some (.inl (-1))) (wI h r))))
set_option maxRecDepth 100000 in
set_option maxHeartbeats 4000000 in
theorem o_X4_build : Obl true 1 5 (sp [(38, s_X2_operandCount), (94, s_X4_buildStep)]) [] code_X4_build s_X4_build := by
  refine oblL (by rfl) [(4, [0, 1, 2, 3])] ?_
  intro  h Rt X hh hf hs
  obtain ⟨w, hG, hW, hS, h3, h4⟩ := hs
  have m0 := hS.o
  refine ⟨fun m _ vs g => BuQ h w m vs g, ?_, ?_⟩
  · exact Exists.intro _ ⟨0, hI h, rfl, Box.i (fun _ _ _ _ => rfl), hG, rfl, m0.1, Box.i (fun s q => by omega), (fun i i0 i1 => by have : szF (hI h 52) 0 = 0 := rfl; omega), rfl⟩
  · rintro m pc vs' vs g hl ⟨t, r, rfl, hF, hGR, rfl, ht, hm, hf, rfl⟩ hv hh1 hf1
    obtain ⟨rfl, rfl⟩ := look1 hl
    have sz := hS.sz t ht
    have szl := szF_le (hI h 52) t
    have e51 : r 51 6 = hI h 51 6 := by rw [hF.o 51 (by decide) (by decide) (by decide)]
    have e52 : r 52 = hI h 52 := hF.o 52 (by decide) (by decide) (by decide)
    have e53 : r 53 = hI h 53 := hF.o 53 (by decide) (by decide) (by decide)
    have e54 : r 54 = hI h 54 := hF.o 54 (by decide) (by decide) (by decide)
    have e3 : r 3 = hI h 3 := hF.o 3 (by decide) (by decide) (by decide)
    have e4 : r 4 = hI h 4 := hF.o 4 (by decide) (by decide) (by decide)
    by_cases y : (t : Int) < hI h 51 6
    · have q := hS.o.2.2.1 t (by omega) y
      rw [show ((t : Int)).toNat = t by omega] at q
      have ii := bsI.all hW hS t ht hm
      have oo := bsI.ops hS y ii
      have ok := bsR_ok hW hS y hm
      have ocr := opc_rng (hI h 52 t)
      have NO := h4 t y hm
      have YES := fun x p f1 f2 => BuQ.st (x := x) (p := p) (f1 := f1) (f2 := f2) hS hF y hm hf
      have hWt := ii.o.1
      have kk : 0 ≤ hI h 52 t ∧ hI h 52 t ≤ 24 := by rcases q.1.o with q | q | q <;> omega
      have G1 : GH (wI h r) (bsS (hI h 52) (hI h 53) (hI h 54) w t).1 := by
        show GR (r 1) (r 2) (r 3) (r 4) _
        rw [e3, e4]
        exact hGR
      have o1 : opc (r 52 t) = opc (hI h 52 t) := by rw [e52]
      have E : mk2 (bsS (hI h 52) (hI h 53) (hI h 54) w t).1 (r 52 t) (r 53 t) (r 54 t) (r 59 (szF (hI h 52) t - opc (r 52 t))) (r 59 (szF (hI h 52) t - opc (r 52 t) + 1)) (r 59 (szF (hI h 52) t - opc (r 52 t) + 2)) = bsR (hI h 52) (hI h 53) (hI h 54) w t := by
        rw [e52, e53, e54]
        exact mk2_op (fun z => hf _ (by omega) (by omega)) (fun z => hf _ (by omega) (by omega)) (fun z => hf _ (by omega) (by omega)) kk
      have O : OpsO (bsS (hI h 52) (hI h 53) (hI h 54) w t).1 (r 52 t) (r 59 (szF (hI h 52) t - opc (r 52 t))) (r 59 (szF (hI h 52) t - opc (r 52 t) + 1)) (r 59 (szF (hI h 52) t - opc (r 52 t) + 2)) := by
        rw [e52]
        obtain ⟨a1, a2, a3⟩ := oo.2.o
        refine Box.i ⟨fun z => ?_, fun z => ?_, fun z => ?_⟩
        · rw [hf _ (by omega) (by omega)]; exact a1 z
        · rw [hf _ (by omega) (by omega)]; exact a2 z
        · rw [hf _ (by omega) (by omega)]; exact a3 z
      have TK : TkO (r 52 t) (r 53 t) (r 54 t) := by rw [e52, e53, e54]; exact q.1
      have m4 := ok.o.2.2.2
      by_cases e : (bsR (hI h 52) (hI h 53) (hI h 54) w t).1 = -1
      · have e2 : (bsR (hI h 52) (hI h 53) (hI h 54) w t).2 = (bsS (hI h 52) (hI h 53) (hI h 54) w t).1 := by
          rcases m4 with q | q
          · exact q.2
          · omega
        have Y : ∀ f1 f2, GR f1 f2 (r 3) (r 4) (mk2 (bsS (hI h 52) (hI h 53) (hI h 54) w t).1 (r 52 t) (r 53 t) (r 54 t) (r 59 (szF (hI h 52) t - opc (r 52 t))) (r 59 (szF (hI h 52) t - opc (r 52 t) + 1)) (r 59 (szF (hI h 52) t - opc (r 52 t) + 2))).2 → Rt (some (.inl (-1))) (rI (rI (wI h r) 2 f2) 1 f1) := fun f1 f2 g => by
          rw [E, e2, e3, e4] at g
          refine NO e (ur (ur r 2 f2) 1 f1) (Box.i fun a h1 h2 h3 => by rw [ur_ne h1, ur_ne h2]; exact hF.o a h1 h2 h3) ?_
          rw [ur_self, ur_ne (by decide), ur_self]
          exact g
        have e' := e
        rw [← E] at e'
        repeat' (first | apply And.intro | (with_reducible assumption) | (intro h9; first | (exfalso; omega) | (simp only [rI_rI, rJ_rJ, hI_rI, hJ_rI, hI_rJ, hJ_rJ, hI_rR, hR_rI, hR_rJ, hN_rI, hN_rJ, svH_63, svH_66, rfH_63, wvH_63, wvH_62, wvH_67, wvH_68, wvH_69, sc_63, sc_n62, sc_n67, sc_n68, sc_n69, sc_n70, reduceIte, Nat.reduceEqDiff, eq_self, up_up, up_self, up_ne, ne_eq, not_false_eq_true, Int.reduceEq, Int.reduceNeg, hI_wI] at h9; first | (exfalso; omega) | skip) | skip) | refine Exists.intro (bsS (hI h 52) (hI h 53) (hI h 54) w t).1 ?_ | exact G1 | exact hWt | exact TK | exact O | exact absurd e' (by assumption) | exact Y _ _ (by assumption) | (simp only [rI_rI, rJ_rJ, hI_rI, hJ_rI, hI_rJ, hJ_rJ, hI_rR, hR_rI, hR_rJ, hN_rI, hN_rJ, svH_63, svH_66, rfH_63, wvH_63, wvH_62, wvH_67, wvH_68, wvH_69, sc_63, sc_n62, sc_n67, sc_n68, sc_n69, sc_n70, reduceIte, Nat.reduceEqDiff, eq_self, up_up, up_self, up_ne, ne_eq, not_false_eq_true, Int.reduceEq, Int.reduceNeg, hI_wI]; exact Y _ _ (by assumption)) | exact h3 | exact h3 (by omega) | exact h4 | exact h4 (by omega) | omega | exact True.intro | (simp only [rI_rI, rJ_rJ, hI_rI, hJ_rI, hI_rJ, hJ_rJ, hI_rR, hR_rI, hR_rJ, hN_rI, hN_rJ, svH_63, svH_66, rfH_63, wvH_63, wvH_62, wvH_67, wvH_68, wvH_69, sc_63, sc_n62, sc_n67, sc_n68, sc_n69, sc_n70, reduceIte, Nat.reduceEqDiff, eq_self, up_up, up_self, up_ne, ne_eq, not_false_eq_true, Int.reduceEq, Int.reduceNeg, hI_wI]; omega))
      · have Y : ∀ f1 f2, GR f1 f2 (r 3) (r 4) (mk2 (bsS (hI h 52) (hI h 53) (hI h 54) w t).1 (r 52 t) (r 53 t) (r 54 t) (r 59 (szF (hI h 52) t - opc (r 52 t))) (r 59 (szF (hI h 52) t - opc (r 52 t) + 1)) (r 59 (szF (hI h 52) t - opc (r 52 t) + 2))).2 → _ := fun f1 f2 g => YES (mk2 (bsS (hI h 52) (hI h 53) (hI h 54) w t).1 (r 52 t) (r 53 t) (r 54 t) (r 59 (szF (hI h 52) t - opc (r 52 t))) (r 59 (szF (hI h 52) t - opc (r 52 t) + 1)) (r 59 (szF (hI h 52) t - opc (r 52 t) + 2))).1 (szF (hI h 52) t - opc (r 52 t)) f1 f2 (by rw [E]) (by rw [E]; exact e) (by rw [E, e3, e4] at g; exact g) (by rw [e52])
        have e' := e
        rw [← E] at e'
        repeat' (first | apply And.intro | (with_reducible assumption) | (intro h9; first | (exfalso; omega) | (simp only [rI_rI, rJ_rJ, hI_rI, hJ_rI, hI_rJ, hJ_rJ, hI_rR, hR_rI, hR_rJ, hN_rI, hN_rJ, svH_63, svH_66, rfH_63, wvH_63, wvH_62, wvH_67, wvH_68, wvH_69, sc_63, sc_n62, sc_n67, sc_n68, sc_n69, sc_n70, reduceIte, Nat.reduceEqDiff, eq_self, up_up, up_self, up_ne, ne_eq, not_false_eq_true, Int.reduceEq, Int.reduceNeg, hI_wI] at h9; first | (exfalso; omega) | skip) | skip) | refine Exists.intro (bsS (hI h 52) (hI h 53) (hI h 54) w t).1 ?_ | exact G1 | exact hWt | exact TK | exact O | exact absurd (by assumption) e' | exact Y _ _ (by assumption) | (simp only [rI_rI, rJ_rJ, hI_rI, hJ_rI, hI_rJ, hJ_rJ, hI_rR, hR_rI, hR_rJ, hN_rI, hN_rJ, svH_63, svH_66, rfH_63, wvH_63, wvH_62, wvH_67, wvH_68, wvH_69, sc_63, sc_n62, sc_n67, sc_n68, sc_n69, sc_n70, reduceIte, Nat.reduceEqDiff, eq_self, up_up, up_self, up_ne, ne_eq, not_false_eq_true, Int.reduceEq, Int.reduceNeg, hI_wI]; exact Y _ _ (by assumption)) | exact h3 | exact h3 (by omega) | exact h4 | exact h4 (by omega) | omega | exact True.intro | (simp only [rI_rI, rJ_rJ, hI_rI, hJ_rI, hI_rJ, hJ_rJ, hI_rR, hR_rI, hR_rJ, hN_rI, hN_rJ, svH_63, svH_66, rfH_63, wvH_63, wvH_62, wvH_67, wvH_68, wvH_69, sc_63, sc_n62, sc_n67, sc_n68, sc_n69, sc_n70, reduceIte, Nat.reduceEqDiff, eq_self, up_up, up_self, up_ne, ne_eq, not_false_eq_true, Int.reduceEq, Int.reduceNeg, hI_wI]; omega))
    · have e : t = (hI h 51 6).toNat := by omega
      subst e
      have k := h3 hm r hF hGR
      have z1 := hS.o.2.2.2
      rw [← hf 0 (by omega) (by omega)] at k
      repeat' (first | apply And.intro | (with_reducible assumption) | (intro h9; first | (exfalso; omega) | (simp only [rI_rI, rJ_rJ, hI_rI, hJ_rI, hI_rJ, hJ_rJ, hI_rR, hR_rI, hR_rJ, hN_rI, hN_rJ, svH_63, svH_66, rfH_63, wvH_63, wvH_62, wvH_67, wvH_68, wvH_69, sc_63, sc_n62, sc_n67, sc_n68, sc_n69, sc_n70, reduceIte, Nat.reduceEqDiff, eq_self, up_up, up_self, up_ne, ne_eq, not_false_eq_true, Int.reduceEq, Int.reduceNeg, hI_wI] at h9; first | (exfalso; omega) | skip) | skip) | exact k | exact h3 | exact h3 (by omega) | exact h4 | exact h4 (by omega) | omega | exact True.intro | (simp only [rI_rI, rJ_rJ, hI_rI, hJ_rI, hI_rJ, hJ_rJ, hI_rR, hR_rI, hR_rJ, hN_rI, hN_rJ, svH_63, svH_66, rfH_63, wvH_63, wvH_62, wvH_67, wvH_68, wvH_69, sc_63, sc_n62, sc_n67, sc_n68, sc_n69, sc_n70, reduceIte, Nat.reduceEqDiff, eq_self, up_up, up_self, up_ne, ne_eq, not_false_eq_true, Int.reduceEq, Int.reduceNeg, hI_wI]; omega))
theorem m_X4_build : MM 93 s_X4_build := mm_of (own := 3) (by rfl) k_X4_build (cl := [(38, s_X2_operandCount), (94, s_X4_buildStep)]) ⟨m_X2_operandCount, m_X4_buildStep, trivial⟩ o_X4_build

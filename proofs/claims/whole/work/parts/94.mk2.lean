/-! ===== the reference and the class: all steps made ===== -/
theorem bsR_ok {K N X w : Int → Int} {m : Int} (hW : WF w) (h : StP K N X m) {t : Nat} (ht : (t : Int) < m) (hm : bsM K N X w t) : MkO (bsS K N X w t).1 (bsR K N X w t) := by
  have i := bsI.all hW h t (by omega) hm
  have o := bsI.ops h ht i
  exact mk2_ok i.o.1 o.1 o.2
theorem bsM.s {K N X w : Int → Int} {t : Nat} (h : bsM K N X w t) (e : (bsR K N X w t).1 ≠ -1) : bsM K N X w (t + 1) := Box.i fun s q => by
  by_cases z : s = t
  · subst z; exact e
  · exact h.o s (by omega)
def MaQ (h : Hp) (r : Rw) (m : Nat) (vs : List AV) (g : Hp) : Prop := ∃ (t : Nat) (f : Int → Int), g = rI (rI h 63 (bsS (r 52) (r 53) (r 54) (hI h 63) t).1) 74 f ∧ vs = [.inr (.inr (some 62)), .inl (szF (r 52) t), .inl (t : Int)] ∧ (t : Int) ≤ pS r ∧ bsM (r 52) (r 53) (r 54) (hI h 63) t ∧ (∀ i, 0 ≤ i → i < szF (r 52) t → f i = (bsS (r 52) (r 53) (r 54) (hI h 63) t).2 i) ∧ m = (pS r - t).toNat
theorem MaQ.st {h : Hp} {r : Rw} (hS : StP (r 52) (r 53) (r 54) (pS r)) {t : Nat} {f : Int → Int} (ht : (t : Int) < pS r) (hm : bsM (r 52) (r 53) (r 54) (hI h 63) t) (hf : ∀ i, 0 ≤ i → i < szF (r 52) t → f i = (bsS (r 52) (r 53) (r 54) (hI h 63) t).2 i)
    {x p : Int} {u : Int → Int} (hx : x = (bsR (r 52) (r 53) (r 54) (hI h 63) t).1) (hn : x ≠ -1) (hu : u = (bsR (r 52) (r 53) (r 54) (hI h 63) t).2) (hp : p = szF (r 52) t - opc (r 52 t)) : ∃ k', k' < (pS r - t).toNat ∧ MaQ h r k' [.inr (.inr (some 62)), .inl (p + 1), .inl ((t : Int) + 1)] (rI (rI h 63 u) 74 (up f p x)) := by
  have oc := opc_rng (r 52 t)
  subst hx hu hp
  refine ⟨(pS r - (t + 1 : Nat)).toNat, by omega, t + 1, _, rfl, ?_, by omega, hm.s hn, fun i i0 i1 => ?_, rfl⟩
  · rw [szF_n]
    rfl
  · rw [szF_n] at i1
    rw [bsS_s]
    show up f _ _ i = up (bsS (r 52) (r 53) (r 54) (hI h 63) t).2 _ _ i
    by_cases e : i = szF (r 52) t - opc (r 52 t)
    · rw [e, up_self, up_self]
    · rw [up_ne e, up_ne e]
      exact hf i i0 (by omega)
theorem rI_o6 (h : Hp) (u v f : Int → Int) : rI (rI (rI h 63 u) 74 f) 63 v = rI (rI h 63 v) 74 f := by
  rw [rI_comm _ (by decide : (74 : Nat) ≠ 63), rI_rI]
def s_X10_makesAll : CS := (zc 5, ap [(3, 62)] (fun  h Rt X =>
∃ r, TokR (hI h) r ∧ WF (hI h 63) ∧ StP (r 52) (r 53) (r 54) (pS r) ∧ (bsM (r 52) (r 53) (r 54) (hI h 63) (pS r).toNat → ∀ f, Rt (some (.inl ((bsS (r 52) (r 53) (r 54) (hI h 63) (pS r).toNat).2 0))) (rI (rI h 63 (bsS (r 52) (r 53) (r 54) (hI h 63) (pS r).toNat).1) 74 f)) ∧
(∀ t : Nat, (t : Int) < pS r → bsM (r 52) (r 53) (r 54) (hI h 63) t → (bsR (r 52) (r 53) (r 54) (hI h 63) t).1 = -1 → ∀ f, Rt (some (.inl (-1))) (rI (rI h 63 (bsS (r 52) (r 53) (r 54) (hI h 63) t).1) 74 f))))
set_option maxRecDepth 100000 in
set_option maxHeartbeats 4000000 in
theorem o_X10_makesAll : Obl true 1 7 (sp [(206, s_X10_isWord), (202, s_X10_makes), (200, s_X10_isVariable), (264, s_X10_operands), (279, s_X10_makesKind)]) [] code_X10_makesAll s_X10_makesAll := by
  refine oblL (by rfl) [(4, [0, 1, 2])] ?_
  intro  h Rt X hh hf hs
  obtain ⟨r, hT, hW, hS, h3, h4⟩ := hs
  obtain ⟨t15, tk⟩ := hT.o
  have m0 := hS.o
  refine ⟨fun m _ vs g => MaQ h r m vs g, ?_, ?_⟩
  · have e0 : rI (rI h 63 (hI h 63)) 74 (hI h 74) = h := by
      rw [rI_id, rI_id]
    exact Exists.intro _ ⟨0, hI h 74, e0.symm, rfl, m0.1, Box.i (fun s q => by omega), (fun i i0 i1 => by have : szF (r 52) 0 = 0 := rfl; omega), rfl⟩
  · rintro m pc vs' vs g hl ⟨t, f, rfl, rfl, ht, hm, hf, rfl⟩ hv hh1 hf1
    obtain ⟨rfl, rfl⟩ := look1 hl
    have sz := hS.sz t ht
    have szl := szF_le (r 52) t
    have a15 : hI (rI (rI h 63 (bsS (r 52) (r 53) (r 54) (hI h 63) t).1) 74 f) 62 15 = pS r := t15
    by_cases y : (t : Int) < pS r
    · have q := hS.o.2.2.1 t (by omega) y
      rw [show ((t : Int)).toNat = t by omega] at q
      obtain ⟨k1, k2, k3, k4, k5⟩ := (tk t (by omega) y).o
      have ii := bsI.all hW hS t ht hm
      have oo := bsI.ops hS y ii
      have ok := bsR_ok hW hS y hm
      have oc : opc (r 52 t) = if r 52 t < 2 then 0 else if r 52 t ≤ 18 then 2 else if r 52 t = 24 then 3 else 1 := rfl
      have ocr := opc_rng (r 52 t)
      have NO := h4 t y hm
      have YES := fun x p u => MaQ.st (x := x) (p := p) (u := u) hS y hm hf
      have hWt := ii.o.1
      have nn := hWt.nn
      have vn := hWt.vn
      have kk : 0 ≤ r 52 t ∧ r 52 t ≤ 24 := by rcases q.1.o with q | q | q <;> omega
      by_cases c0 : r 52 t = 0
      · obtain ⟨x1, y1⟩ := k2 c0
        rw [if_pos (by omega)] at oc
        have R : bsR (r 52) (r 53) (r 54) (hI h 63) t = if 1 ≤ r 54 t ∧ r 54 t ≤ 8 ∧ 0 ≤ r 53 t ∧ r 53 t ≤ p2 (r 54 t) - 1 then mk1 (bsS (r 52) (r 53) (r 54) (hI h 63) t).1 0 (r 54 t) (-1) (-1) (-1) (r 53 t) (-1) else (-1, (bsS (r 52) (r 53) (r 54) (hI h 63) t).1) := by
          unfold bsR mk2
          rw [if_pos c0]
        rw [← x1, ← y1] at R
        have i0 : hI (rI (rI h 63 (bsS (r 52) (r 53) (r 54) (hI h 63) t).1) 74 f) 63 = (bsS (r 52) (r 53) (r 54) (hI h 63) t).1 := rfl
        have p0 : szF (r 52) t = szF (r 52) t - opc (r 52 t) := by omega
        by_cases z : 1 ≤ hI h 71 (3 * t + 2) ∧ hI h 71 (3 * t + 2) ≤ 8 ∧ 0 ≤ hI h 71 (3 * t + 1) ∧ hI h 71 (3 * t + 1) ≤ p2 (hI h 71 (3 * t + 2)) - 1
        · rw [if_pos z] at R
          unfold mk1 at R
          by_cases e1 : found (bsS (r 52) (r 53) (r 54) (hI h 63) t).1 0 (hI h 71 (3 * t + 2)) (-1) (-1) (-1) (hI h 71 (3 * t + 1)) (-1) ≠ -1
          · rw [if_pos e1] at R
            have Y := YES _ _ _ (by rw [R]) e1 (by rw [R]) p0
            repeat' (first | apply And.intro | (with_reducible assumption) | (intro h9; first | (exfalso; omega) | (simp only [rI_rI, rJ_rJ, hI_rI, hJ_rI, hI_rJ, hJ_rJ, hI_rR, hR_rI, hR_rJ, hN_rI, hN_rJ, svH_63, svH_66, rfH_63, wvH_63, wvH_62, wvH_67, wvH_68, wvH_69, sc_63, sc_n62, sc_n67, sc_n68, sc_n69, sc_n70, reduceIte, Nat.reduceEqDiff, eq_self, up_up, up_self, up_ne, ne_eq, not_false_eq_true, Int.reduceEq, Int.reduceNeg, rI_o6] at h9; first | (exfalso; omega) | skip) | skip) | exact absurd (by assumption) e1 | (simp only [rI_rI, rJ_rJ, hI_rI, hJ_rI, hI_rJ, hJ_rJ, hI_rR, hR_rI, hR_rJ, hN_rI, hN_rJ, svH_63, svH_66, rfH_63, wvH_63, wvH_62, wvH_67, wvH_68, wvH_69, sc_63, sc_n62, sc_n67, sc_n68, sc_n69, sc_n70, reduceIte, Nat.reduceEqDiff, eq_self, up_up, up_self, up_ne, ne_eq, not_false_eq_true, Int.reduceEq, Int.reduceNeg, rI_o6]; exact Y) | exact h3 | exact h3 (by omega) | exact h4 | exact h4 (by omega) | omega | exact True.intro | (simp only [rI_rI, rJ_rJ, hI_rI, hJ_rI, hI_rJ, hJ_rJ, hI_rR, hR_rI, hR_rJ, hN_rI, hN_rJ, svH_63, svH_66, rfH_63, wvH_63, wvH_62, wvH_67, wvH_68, wvH_69, sc_63, sc_n62, sc_n67, sc_n68, sc_n69, sc_n70, reduceIte, Nat.reduceEqDiff, eq_self, up_up, up_self, up_ne, ne_eq, not_false_eq_true, Int.reduceEq, Int.reduceNeg, rI_o6]; omega))
          · rw [if_neg e1] at R
            have e3 : found (bsS (r 52) (r 53) (r 54) (hI h 63) t).1 0 (hI h 71 (3 * t + 2)) (-1) (-1) (-1) (hI h 71 (3 * t + 1)) (-1) = -1 := by omega
            by_cases e2 : (bsS (r 52) (r 53) (r 54) (hI h 63) t).1 0 < 40
            · rw [if_pos e2] at R
              have Y := YES _ _ _ (by rw [R]) (by show (bsS (r 52) (r 53) (r 54) (hI h 63) t).1 0 ≠ -1; omega) (by rw [R]) p0
              repeat' (first | apply And.intro | (with_reducible assumption) | (intro h9; first | (exfalso; omega) | (simp only [rI_rI, rJ_rJ, hI_rI, hJ_rI, hI_rJ, hJ_rJ, hI_rR, hR_rI, hR_rJ, hN_rI, hN_rJ, svH_63, svH_66, rfH_63, wvH_63, wvH_62, wvH_67, wvH_68, wvH_69, sc_63, sc_n62, sc_n67, sc_n68, sc_n69, sc_n70, reduceIte, Nat.reduceEqDiff, eq_self, up_up, up_self, up_ne, ne_eq, not_false_eq_true, Int.reduceEq, Int.reduceNeg, rI_o6] at h9; first | (exfalso; omega) | skip) | skip) | (simp only [rI_rI, rJ_rJ, hI_rI, hJ_rI, hI_rJ, hJ_rJ, hI_rR, hR_rI, hR_rJ, hN_rI, hN_rJ, svH_63, svH_66, rfH_63, wvH_63, wvH_62, wvH_67, wvH_68, wvH_69, sc_63, sc_n62, sc_n67, sc_n68, sc_n69, sc_n70, reduceIte, Nat.reduceEqDiff, eq_self, up_up, up_self, up_ne, ne_eq, not_false_eq_true, Int.reduceEq, Int.reduceNeg, rI_o6]; exact Y) | exact h3 | exact h3 (by omega) | exact h4 | exact h4 (by omega) | omega | exact True.intro | (simp only [rI_rI, rJ_rJ, hI_rI, hJ_rI, hI_rJ, hJ_rJ, hI_rR, hR_rI, hR_rJ, hN_rI, hN_rJ, svH_63, svH_66, rfH_63, wvH_63, wvH_62, wvH_67, wvH_68, wvH_69, sc_63, sc_n62, sc_n67, sc_n68, sc_n69, sc_n70, reduceIte, Nat.reduceEqDiff, eq_self, up_up, up_self, up_ne, ne_eq, not_false_eq_true, Int.reduceEq, Int.reduceNeg, rI_o6]; omega))
            · rw [if_neg e2] at R
              have Y := NO (by rw [R])
              repeat' (first | apply And.intro | (with_reducible assumption) | (intro h9; first | (exfalso; omega) | (simp only [rI_rI, rJ_rJ, hI_rI, hJ_rI, hI_rJ, hJ_rJ, hI_rR, hR_rI, hR_rJ, hN_rI, hN_rJ, svH_63, svH_66, rfH_63, wvH_63, wvH_62, wvH_67, wvH_68, wvH_69, sc_63, sc_n62, sc_n67, sc_n68, sc_n69, sc_n70, reduceIte, Nat.reduceEqDiff, eq_self, up_up, up_self, up_ne, ne_eq, not_false_eq_true, Int.reduceEq, Int.reduceNeg, rI_o6] at h9; first | (exfalso; omega) | skip) | skip) | exact Y _ | (simp only [rI_rI, rJ_rJ, hI_rI, hJ_rI, hI_rJ, hJ_rJ, hI_rR, hR_rI, hR_rJ, hN_rI, hN_rJ, svH_63, svH_66, rfH_63, wvH_63, wvH_62, wvH_67, wvH_68, wvH_69, sc_63, sc_n62, sc_n67, sc_n68, sc_n69, sc_n70, reduceIte, Nat.reduceEqDiff, eq_self, up_up, up_self, up_ne, ne_eq, not_false_eq_true, Int.reduceEq, Int.reduceNeg, rI_o6]; exact Y _) | exact h3 | exact h3 (by omega) | exact h4 | exact h4 (by omega) | omega | exact True.intro | (simp only [rI_rI, rJ_rJ, hI_rI, hJ_rI, hI_rJ, hJ_rJ, hI_rR, hR_rI, hR_rJ, hN_rI, hN_rJ, svH_63, svH_66, rfH_63, wvH_63, wvH_62, wvH_67, wvH_68, wvH_69, sc_63, sc_n62, sc_n67, sc_n68, sc_n69, sc_n70, reduceIte, Nat.reduceEqDiff, eq_self, up_up, up_self, up_ne, ne_eq, not_false_eq_true, Int.reduceEq, Int.reduceNeg, rI_o6]; omega))
        · rw [if_neg z] at R
          have Y := NO (by rw [R])
          repeat' (first | apply And.intro | (with_reducible assumption) | (intro h9; first | (exfalso; omega) | (simp only [rI_rI, rJ_rJ, hI_rI, hJ_rI, hI_rJ, hJ_rJ, hI_rR, hR_rI, hR_rJ, hN_rI, hN_rJ, svH_63, svH_66, rfH_63, wvH_63, wvH_62, wvH_67, wvH_68, wvH_69, sc_63, sc_n62, sc_n67, sc_n68, sc_n69, sc_n70, reduceIte, Nat.reduceEqDiff, eq_self, up_up, up_self, up_ne, ne_eq, not_false_eq_true, Int.reduceEq, Int.reduceNeg, rI_o6] at h9; first | (exfalso; omega) | skip) | skip) | exact Y _ | (simp only [rI_rI, rJ_rJ, hI_rI, hJ_rI, hI_rJ, hJ_rJ, hI_rR, hR_rI, hR_rJ, hN_rI, hN_rJ, svH_63, svH_66, rfH_63, wvH_63, wvH_62, wvH_67, wvH_68, wvH_69, sc_63, sc_n62, sc_n67, sc_n68, sc_n69, sc_n70, reduceIte, Nat.reduceEqDiff, eq_self, up_up, up_self, up_ne, ne_eq, not_false_eq_true, Int.reduceEq, Int.reduceNeg, rI_o6]; exact Y _) | exact h3 | exact h3 (by omega) | exact h4 | exact h4 (by omega) | omega | exact True.intro | (simp only [rI_rI, rJ_rJ, hI_rI, hJ_rI, hI_rJ, hJ_rJ, hI_rR, hR_rI, hR_rJ, hN_rI, hN_rJ, svH_63, svH_66, rfH_63, wvH_63, wvH_62, wvH_67, wvH_68, wvH_69, sc_63, sc_n62, sc_n67, sc_n68, sc_n69, sc_n70, reduceIte, Nat.reduceEqDiff, eq_self, up_up, up_self, up_ne, ne_eq, not_false_eq_true, Int.reduceEq, Int.reduceNeg, rI_o6]; omega))
      · by_cases c1 : r 52 t = 1
        · have x1 := k3 c1
          rw [if_pos (by omega)] at oc
          have R : bsR (r 52) (r 53) (r 54) (hI h 63) t = if 0 ≤ r 53 t ∧ r 53 t < (bsS (r 52) (r 53) (r 54) (hI h 63) t).1 281 then ((bsS (r 52) (r 53) (r 54) (hI h 63) t).1 (282 + r 53 t), (bsS (r 52) (r 53) (r 54) (hI h 63) t).1) else (-1, (bsS (r 52) (r 53) (r 54) (hI h 63) t).1) := by
            unfold bsR mk2
            rw [if_neg c0, if_pos c1]
          rw [← x1] at R
          have p0 : szF (r 52) t = szF (r 52) t - opc (r 52 t) := by omega
          by_cases z : 0 ≤ hI h 71 (3 * t + 1) ∧ hI h 71 (3 * t + 1) < (bsS (r 52) (r 53) (r 54) (hI h 63) t).1 281
          · rw [if_pos z] at R
            have v := hWt.var z.1 z.2
            have Y := YES _ _ _ (by rw [R]) (by show (bsS (r 52) (r 53) (r 54) (hI h 63) t).1 (282 + hI h 71 (3 * t + 1)) ≠ -1; omega) (by rw [R]) p0
            repeat' (first | apply And.intro | (with_reducible assumption) | (intro h9; first | (exfalso; omega) | (simp only [rI_rI, rJ_rJ, hI_rI, hJ_rI, hI_rJ, hJ_rJ, hI_rR, hR_rI, hR_rJ, hN_rI, hN_rJ, svH_63, svH_66, rfH_63, wvH_63, wvH_62, wvH_67, wvH_68, wvH_69, sc_63, sc_n62, sc_n67, sc_n68, sc_n69, sc_n70, reduceIte, Nat.reduceEqDiff, eq_self, up_up, up_self, up_ne, ne_eq, not_false_eq_true, Int.reduceEq, Int.reduceNeg, rI_o6] at h9; first | (exfalso; omega) | skip) | skip) | (simp only [rI_rI, rJ_rJ, hI_rI, hJ_rI, hI_rJ, hJ_rJ, hI_rR, hR_rI, hR_rJ, hN_rI, hN_rJ, svH_63, svH_66, rfH_63, wvH_63, wvH_62, wvH_67, wvH_68, wvH_69, sc_63, sc_n62, sc_n67, sc_n68, sc_n69, sc_n70, reduceIte, Nat.reduceEqDiff, eq_self, up_up, up_self, up_ne, ne_eq, not_false_eq_true, Int.reduceEq, Int.reduceNeg, rI_o6]; exact Y) | exact h3 | exact h3 (by omega) | exact h4 | exact h4 (by omega) | omega | exact True.intro | (simp only [rI_rI, rJ_rJ, hI_rI, hJ_rI, hI_rJ, hJ_rJ, hI_rR, hR_rI, hR_rJ, hN_rI, hN_rJ, svH_63, svH_66, rfH_63, wvH_63, wvH_62, wvH_67, wvH_68, wvH_69, sc_63, sc_n62, sc_n67, sc_n68, sc_n69, sc_n70, reduceIte, Nat.reduceEqDiff, eq_self, up_up, up_self, up_ne, ne_eq, not_false_eq_true, Int.reduceEq, Int.reduceNeg, rI_o6]; omega))
          · rw [if_neg z] at R
            have Y := NO (by rw [R])
            repeat' (first | apply And.intro | (with_reducible assumption) | (intro h9; first | (exfalso; omega) | (simp only [rI_rI, rJ_rJ, hI_rI, hJ_rI, hI_rJ, hJ_rJ, hI_rR, hR_rI, hR_rJ, hN_rI, hN_rJ, svH_63, svH_66, rfH_63, wvH_63, wvH_62, wvH_67, wvH_68, wvH_69, sc_63, sc_n62, sc_n67, sc_n68, sc_n69, sc_n70, reduceIte, Nat.reduceEqDiff, eq_self, up_up, up_self, up_ne, ne_eq, not_false_eq_true, Int.reduceEq, Int.reduceNeg, rI_o6] at h9; first | (exfalso; omega) | skip) | skip) | exact Y _ | (simp only [rI_rI, rJ_rJ, hI_rI, hJ_rI, hI_rJ, hJ_rJ, hI_rR, hR_rI, hR_rJ, hN_rI, hN_rJ, svH_63, svH_66, rfH_63, wvH_63, wvH_62, wvH_67, wvH_68, wvH_69, sc_63, sc_n62, sc_n67, sc_n68, sc_n69, sc_n70, reduceIte, Nat.reduceEqDiff, eq_self, up_up, up_self, up_ne, ne_eq, not_false_eq_true, Int.reduceEq, Int.reduceNeg, rI_o6]; exact Y _) | exact h3 | exact h3 (by omega) | exact h4 | exact h4 (by omega) | omega | exact True.intro | (simp only [rI_rI, rJ_rJ, hI_rI, hJ_rI, hI_rJ, hJ_rJ, hI_rR, hR_rI, hR_rJ, hN_rI, hN_rJ, svH_63, svH_66, rfH_63, wvH_63, wvH_62, wvH_67, wvH_68, wvH_69, sc_63, sc_n62, sc_n67, sc_n68, sc_n69, sc_n70, reduceIte, Nat.reduceEqDiff, eq_self, up_up, up_self, up_ne, ne_eq, not_false_eq_true, Int.reduceEq, Int.reduceNeg, rI_o6]; omega))
        · have g1 : 0 < opc (r 52 t) := (by have := ocr.2.2.1 (by omega); omega)
          have E : mk2 (bsS (r 52) (r 53) (r 54) (hI h 63) t).1 (hI h 71 (3 * t)) (r 53 t) (r 54 t) (f (szF (r 52) t - opc (hI h 71 (3 * t)))) (f (szF (r 52) t - opc (hI h 71 (3 * t)) + 1)) (f (szF (r 52) t - opc (hI h 71 (3 * t)) + 2)) = bsR (r 52) (r 53) (r 54) (hI h 63) t := by
            rw [k1]
            exact mk2_op (fun z => hf _ (by omega) (by omega)) (fun z => hf _ (by omega) (by omega)) (fun z => hf _ (by omega) (by omega)) kk
          have O : OpsO (bsS (r 52) (r 53) (r 54) (hI h 63) t).1 (hI h 71 (3 * t)) (f (szF (r 52) t - opc (hI h 71 (3 * t)))) (f (szF (r 52) t - opc (hI h 71 (3 * t)) + 1)) (f (szF (r 52) t - opc (hI h 71 (3 * t)) + 2)) := by
            rw [k1]
            obtain ⟨a1, a2, a3⟩ := oo.2.o
            refine Box.i ⟨fun z => ?_, fun z => ?_, fun z => ?_⟩
            · rw [hf _ (by omega) (by omega)]; exact a1 z
            · rw [hf _ (by omega) (by omega)]; exact a2 z
            · rw [hf _ (by omega) (by omega)]; exact a3 z
          have w1 : 2 ≤ hI h 71 (3 * t) ∧ hI h 71 (3 * t) ≤ 24 ∧ opc (hI h 71 (3 * t)) = opc (r 52 t) := by
            rw [k1]
            exact ⟨by omega, kk.2, rfl⟩
          have w2 : dgc (hI h 71 (3 * t)) = 1 → hI h 71 (3 * t + 1) = r 53 t := by rw [k1]; exact k4
          have w3 : dgc (hI h 71 (3 * t)) = 2 → r 53 t = 10 * hI h 71 (3 * t + 1) + hI h 71 (3 * t + 2) ∧ 0 ≤ hI h 71 (3 * t + 1) ∧ hI h 71 (3 * t + 1) ≤ 9 ∧ 0 ≤ hI h 71 (3 * t + 2) ∧ hI h 71 (3 * t + 2) ≤ 9 := by rw [k1]; exact k5
          have w4 : (dgc (hI h 71 (3 * t)) = 1 → hI h 71 (3 * t + 1) = r 53 t) ∧ (dgc (hI h 71 (3 * t)) = 2 → r 53 t = 10 * hI h 71 (3 * t + 1) + hI h 71 (3 * t + 2) ∧ 0 ≤ hI h 71 (3 * t + 1) ∧ hI h 71 (3 * t + 1) ≤ 9 ∧ 0 ≤ hI h 71 (3 * t + 2) ∧ hI h 71 (3 * t + 2) ≤ 9) := ⟨w2, w3⟩
          have m4 := ok.o.2.2.2
          by_cases e : (bsR (r 52) (r 53) (r 54) (hI h 63) t).1 = -1
          · have Y := NO e
            have e2 : (bsR (r 52) (r 53) (r 54) (hI h 63) t).2 = (bsS (r 52) (r 53) (r 54) (hI h 63) t).1 := by
              rcases m4 with q | q
              · exact q.2
              · omega
            rw [← e2, ← E] at Y
            have e' := e
            rw [← E] at e'
            repeat' (first | apply And.intro | (with_reducible assumption) | (intro h9; first | (exfalso; omega) | (simp only [rI_rI, rJ_rJ, hI_rI, hJ_rI, hI_rJ, hJ_rJ, hI_rR, hR_rI, hR_rJ, hN_rI, hN_rJ, svH_63, svH_66, rfH_63, wvH_63, wvH_62, wvH_67, wvH_68, wvH_69, sc_63, sc_n62, sc_n67, sc_n68, sc_n69, sc_n70, reduceIte, Nat.reduceEqDiff, eq_self, up_up, up_self, up_ne, ne_eq, not_false_eq_true, Int.reduceEq, Int.reduceNeg, rI_o6] at h9; first | (exfalso; omega) | skip) | skip) | (refine Exists.intro (r 53 t) (Exists.intro (r 54 t) ?_)) | exact hWt | exact O | exact absurd e' (by assumption) | (simp only [rI_rI, rJ_rJ, hI_rI, hJ_rI, hI_rJ, hJ_rJ, hI_rR, hR_rI, hR_rJ, hN_rI, hN_rJ, svH_63, svH_66, rfH_63, wvH_63, wvH_62, wvH_67, wvH_68, wvH_69, sc_63, sc_n62, sc_n67, sc_n68, sc_n69, sc_n70, reduceIte, Nat.reduceEqDiff, eq_self, up_up, up_self, up_ne, ne_eq, not_false_eq_true, Int.reduceEq, Int.reduceNeg, rI_o6]; exact Y _) | exact h3 | exact h3 (by omega) | exact h4 | exact h4 (by omega) | omega | exact True.intro | (simp only [rI_rI, rJ_rJ, hI_rI, hJ_rI, hI_rJ, hJ_rJ, hI_rR, hR_rI, hR_rJ, hN_rI, hN_rJ, svH_63, svH_66, rfH_63, wvH_63, wvH_62, wvH_67, wvH_68, wvH_69, sc_63, sc_n62, sc_n67, sc_n68, sc_n69, sc_n70, reduceIte, Nat.reduceEqDiff, eq_self, up_up, up_self, up_ne, ne_eq, not_false_eq_true, Int.reduceEq, Int.reduceNeg, rI_o6]; omega))
          · have Y := YES _ (szF (r 52) t - opc (hI h 71 (3 * t))) _ rfl e rfl (by rw [k1])
            rw [← E] at Y
            have e' := e
            rw [← E] at e'
            repeat' (first | apply And.intro | (with_reducible assumption) | (intro h9; first | (exfalso; omega) | (simp only [rI_rI, rJ_rJ, hI_rI, hJ_rI, hI_rJ, hJ_rJ, hI_rR, hR_rI, hR_rJ, hN_rI, hN_rJ, svH_63, svH_66, rfH_63, wvH_63, wvH_62, wvH_67, wvH_68, wvH_69, sc_63, sc_n62, sc_n67, sc_n68, sc_n69, sc_n70, reduceIte, Nat.reduceEqDiff, eq_self, up_up, up_self, up_ne, ne_eq, not_false_eq_true, Int.reduceEq, Int.reduceNeg, rI_o6] at h9; first | (exfalso; omega) | skip) | skip) | (refine Exists.intro (r 53 t) (Exists.intro (r 54 t) ?_)) | exact hWt | exact O | exact absurd (by assumption) e' | (simp only [rI_rI, rJ_rJ, hI_rI, hJ_rI, hI_rJ, hJ_rJ, hI_rR, hR_rI, hR_rJ, hN_rI, hN_rJ, svH_63, svH_66, rfH_63, wvH_63, wvH_62, wvH_67, wvH_68, wvH_69, sc_63, sc_n62, sc_n67, sc_n68, sc_n69, sc_n70, reduceIte, Nat.reduceEqDiff, eq_self, up_up, up_self, up_ne, ne_eq, not_false_eq_true, Int.reduceEq, Int.reduceNeg, rI_o6]; exact Y) | exact h3 | exact h3 (by omega) | exact h4 | exact h4 (by omega) | omega | exact True.intro | (simp only [rI_rI, rJ_rJ, hI_rI, hJ_rI, hI_rJ, hJ_rJ, hI_rR, hR_rI, hR_rJ, hN_rI, hN_rJ, svH_63, svH_66, rfH_63, wvH_63, wvH_62, wvH_67, wvH_68, wvH_69, sc_63, sc_n62, sc_n67, sc_n68, sc_n69, sc_n70, reduceIte, Nat.reduceEqDiff, eq_self, up_up, up_self, up_ne, ne_eq, not_false_eq_true, Int.reduceEq, Int.reduceNeg, rI_o6]; omega))
    · have e : t = (pS r).toNat := by omega
      subst e
      have k := h3 hm f
      have z1 := hS.o.2.2.2
      rw [← hf 0 (by omega) (by omega)] at k
      repeat' (first | apply And.intro | (with_reducible assumption) | (intro h9; first | (exfalso; omega) | (simp only [rI_rI, rJ_rJ, hI_rI, hJ_rI, hI_rJ, hJ_rJ, hI_rR, hR_rI, hR_rJ, hN_rI, hN_rJ, svH_63, svH_66, rfH_63, wvH_63, wvH_62, wvH_67, wvH_68, wvH_69, sc_63, sc_n62, sc_n67, sc_n68, sc_n69, sc_n70, reduceIte, Nat.reduceEqDiff, eq_self, up_up, up_self, up_ne, ne_eq, not_false_eq_true, Int.reduceEq, Int.reduceNeg, rI_o6] at h9; first | (exfalso; omega) | skip) | skip) | exact k | exact h3 | exact h3 (by omega) | exact h4 | exact h4 (by omega) | omega | exact True.intro | (simp only [rI_rI, rJ_rJ, hI_rI, hJ_rI, hI_rJ, hJ_rJ, hI_rR, hR_rI, hR_rJ, hN_rI, hN_rJ, svH_63, svH_66, rfH_63, wvH_63, wvH_62, wvH_67, wvH_68, wvH_69, sc_63, sc_n62, sc_n67, sc_n68, sc_n69, sc_n70, reduceIte, Nat.reduceEqDiff, eq_self, up_up, up_self, up_ne, ne_eq, not_false_eq_true, Int.reduceEq, Int.reduceNeg, rI_o6]; omega))
theorem m_X10_makesAll : MM 278 s_X10_makesAll := mm_of (own := 9) (by rfl) k_X10_makesAll (cl := [(206, s_X10_isWord), (202, s_X10_makes), (200, s_X10_isVariable), (264, s_X10_operands), (279, s_X10_makesKind)]) ⟨m_X10_isWord, m_X10_makes, m_X10_isVariable, m_X10_operands, m_X10_makesKind, trivial⟩ o_X10_makesAll

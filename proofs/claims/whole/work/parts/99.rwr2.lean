/-! ===== the reference: a node begins to be written ===== -/
theorem d21 {w : Int → Int} {n : Int} (hW : WF w) (n0 : 0 ≤ n) (n1 : n < w 0) (k : nd w n 0 = 21) : 0 ≤ nd w n 6 ∧ nd w n 6 ≤ nd w n 5 ∧ nd w n 5 ≤ 7 := by
  obtain ⟨_, o, _, _, _, s6, _, _, _, _, _, _, _, _, _, s16, _⟩ := (hW.node n0 n1).o
  have a := s6 (by omega)
  have b := s16 k
  have c := hW.wd a (by omega)
  omega
theorem pAd_63 (r : Rw) (c : Int) : pAd r c 63 = r 63 := by unfold pAd; split <;> rfl
theorem pAd_23 (r : Rw) (c : Int) : pAd r c 62 23 = r 62 23 := by unfold pAd; split <;> rfl
theorem lAd_63 (r : Rw) (x : Int) : lAd r x 63 = r 63 := rfl
theorem lAd_23 (r : Rw) (x : Int) : lAd r x 62 23 = r 62 23 + 1 := rfl
theorem lAd_25 (r : Rw) (x : Int) : lAd r x 62 25 = r 62 25 := rfl
theorem pAs_63 : ∀ (P : List Int) (r : Rw), pAs r P 63 = r 63 := by
  intro P
  induction P with
  | nil => intro r; rfl
  | cons c P ih => intro r; exact (ih _).trans (pAd_63 r c)
theorem pAs_n : ∀ (P : List Int) {r : Rw}, 0 ≤ r 62 25 → 0 ≤ pAs r P 62 25 := by
  intro P
  induction P with
  | nil => intro r h; exact h
  | cons c P ih => intro r h; exact ih (pAd_n h c)
theorem pAs_app : ∀ (P Q : List Int) (r : Rw), pAs r (P ++ Q) = pAs (pAs r P) Q := by
  intro P
  induction P with
  | nil => intro Q r; rfl
  | cons c P ih => intro Q r; exact ih Q _
def opQ (w : Int → Int) (n c : Int) : Nat → List Int
  | 0 => []
  | r + 1 => (-968) :: nd w n (2 + (c - ((r : Int) + 1))) :: opQ w n c r
def digQ (w : Int → Int) (n : Int) : List Int := if nd w n 0 = 21 then [-968, 48 + nd w n 5 - 1000, -968, 48 + nd w n 6 - 1000] else if nd w n 0 = 22 ∨ nd w n 0 = 23 then [-968, 48 + nd w n 1 - 1000] else []
def bgP (w : Int → Int) (n : Int) : List Int := if nd w n 0 = 1 then [118, 48 + nd w n 5] else if nd w n 0 = 0 then numL (nd w n 5) ++ [58, 48 + nd w n 1] else 40 :: wdU (nd w n 0) (wlen (nd w n 0)).toNat
def bgQ (w : Int → Int) (n : Int) (S : List Int) : List Int := if nd w n 0 ≤ 1 then S else opQ w n (opc (nd w n 0)) (opc (nd w n 0)).toNat ++ (digQ w n ++ (-959 :: S))
theorem opQ_len (w : Int → Int) (n c : Int) : ∀ r : Nat, (opQ w n c r).length = 2 * r := by
  intro r
  induction r with
  | zero => rfl
  | succ r ih => show (opQ w n c r).length + 1 + 1 = _; omega
theorem digQ_len (w : Int → Int) (n : Int) : (digQ w n).length ≤ 4 := by
  unfold digQ
  split
  · exact Nat.le_refl 4
  · split
    · exact (by decide : 2 ≤ 4)
    · exact (by decide : 0 ≤ 4)
def BgI (h : Hp) (n : Int) (L S : List Int) (m pc : Nat) (vs : List AV) (g : Hp) : Prop := ∃ (H : Rw), g = wI h H ∧ Fp (hI h) H ∧ 2 ≤ nd (hI h 63) n 0 ∧ ((pc = 75 ∧ ∃ i : Nat, vs = [.inr (.inr (some 62)), .inl n, .inl (nd (hI h 63) n 0), .inr (.inl (ws (nd (hI h 63) n 0) i))] ∧ (i : Int) ≤ wlen (nd (hI h 63) n 0) ∧ WS H (L ++ 40 :: wdU (nd (hI h 63) n 0) i) S ∧ m = 1000 + (6 - i)) ∨
  (pc = 203 ∧ ∃ r : Nat, vs = [.inr (.inr (some 62)), .inl n, .inl (opc (nd (hI h 63) n 0) - 1 - r)] ∧ (r : Int) ≤ opc (nd (hI h 63) n 0) ∧ WS H (L ++ bgP (hI h 63) n) (opQ (hI h 63) n (opc (nd (hI h 63) n 0)) r ++ (digQ (hI h 63) n ++ (-959 :: S))) ∧ m = (opc (nd (hI h 63) n 0) - r).toNat))
theorem BgI.w {h : Hp} {n : Int} {L S : List Int} {H : Rw} {i : Nat} {c : Int} {x : Int64} (hF : Fp (hI h) H) (k2 : 2 ≤ nd (hI h 63) n 0) (hi : (i : Int) < wlen (nd (hI h 63) n 0)) (h5 : wlen (nd (hI h 63) n 0) ≤ 5) (hl : L.length ≤ 120) (hS : WS H (L ++ 40 :: wdU (nd (hI h 63) n 0) i) S) (hc : c = wl (nd (hI h 63) n 0) i) (hx : x = ws (nd (hI h 63) n 0) (i + 1)) :
    ∃ k', k' < 1000 + (6 - i) ∧ BgI h n L S k' 75 [.inr (.inr (some 62)), .inl n, .inl (nd (hI h 63) n 0), .inr (.inl x)] (wI h (pAd H c)) := by
  subst hc hx
  refine ⟨1000 + (6 - (i + 1)), by omega, _, rfl, hF.put _, k2, Or.inl ⟨rfl, i + 1, rfl, by omega, ?_, rfl⟩⟩
  have := hS.put (by rw [List.length_append, List.length_cons, wdU_len]; omega) (wl (nd (hI h 63) n 0) i)
  rw [List.append_assoc] at this
  exact this
theorem BgI.o {h : Hp} {n : Int} {L S : List Int} {H : Rw} {r : Nat} {x y : Int} (hF : Fp (hI h) H) (k2 : 2 ≤ nd (hI h 63) n 0) (hi : (r : Int) < opc (nd (hI h 63) n 0)) (hl : S.length ≤ 600) (hS : WS H (L ++ bgP (hI h 63) n) (opQ (hI h 63) n (opc (nd (hI h 63) n 0)) r ++ (digQ (hI h 63) n ++ (-959 :: S)))) (hx : x = nd (hI h 63) n (2 + (opc (nd (hI h 63) n 0) - ((r : Int) + 1)))) (hy : y = opc (nd (hI h 63) n 0) - 1 - ((r : Int) + 1)) :
    ∃ k', k' < (opc (nd (hI h 63) n 0) - r).toNat ∧ BgI h n L S k' 203 [.inr (.inr (some 62)), .inl n, .inl y] (wI h (lAd (lAd H x) (-968))) := by
  have q := opQ_len (hI h 63) n (opc (nd (hI h 63) n 0)) r
  have d := digQ_len (hI h 63) n
  have oc := opc_rng (nd (hI h 63) n 0)
  have l1 : (opQ (hI h 63) n (opc (nd (hI h 63) n 0)) r ++ (digQ (hI h 63) n ++ (-959 :: S))).length < 640 := by
    rw [List.length_append, List.length_append, List.length_cons]
    omega
  subst hx hy
  exact ⟨(opc (nd (hI h 63) n 0) - (r + 1 : Nat)).toNat, by omega, _, rfl, (hF.later _).later _, k2, Or.inr ⟨rfl, r + 1, rfl, by omega, (hS.later (by omega) _).later (by rw [List.length_cons]; omega) _, rfl⟩⟩
theorem BgI.z {h : Hp} {n : Int} {L S : List Int} {H : Rw} (hF : Fp (hI h) H) (k2 : 2 ≤ nd (hI h 63) n 0) (hS : WS H (L ++ bgP (hI h 63) n) (digQ (hI h 63) n ++ (-959 :: S))) {m : Nat} (hm : 1000 ≤ m) :
    ∃ k', k' < m ∧ BgI h n L S k' 203 [.inr (.inr (some 62)), .inl n, .inl (opc (nd (hI h 63) n 0) - 1)] (wI h H) := by
  have oc := opc_rng (nd (hI h 63) n 0)
  refine ⟨(opc (nd (hI h 63) n 0) - 0).toNat, by omega, H, rfl, hF, k2, Or.inr ⟨rfl, 0, ?_, by show (0 : Int) ≤ _; omega, hS, rfl⟩⟩
  rw [show opc (nd (hI h 63) n 0) - 1 - ((0 : Nat) : Int) = opc (nd (hI h 63) n 0) - 1 by omega]
def s_X10_begins : CS := (zc 3, ap [(3, 62), (0, 0)] (fun n h Rt X =>
∃ L S, WF (hI h 63) ∧ (0 ≤ n ∧ n < hI h 63 0) ∧ WS (hI h) L S ∧ (L.length ≤ 120 ∧ S.length ≤ 600) ∧ ∀ H, Fp (hI h) H → WS H (L ++ bgP (hI h 63) n) (bgQ (hI h 63) n S) → Rt none (wI h H)))
set_option maxRecDepth 100000 in
set_option maxHeartbeats 4000000 in
theorem o_X10_begins : Obl true 0 5 (sp [(197, s_X10_kind), (281, s_X10_puts), (196, s_X10_of), (283, s_X10_putsNumber), (198, s_X10_width), (263, s_X10_word), (282, s_X10_later), (264, s_X10_operands)]) [] code_X10_begins s_X10_begins := by
  refine oblL (by rfl) [(75, [0, 1, 2, 3]), (203, [0, 1, 3])] ?_
  intro n r_n h Rt X hh hf hs
  obtain ⟨L, S, hW, ⟨n0, n1⟩, hS, ⟨l0, l1⟩, h5⟩ := hs
  have nn := hW.nn
  have hn := hW.node n0 n1
  obtain ⟨⟨w1, w2, w3, w4⟩, _, p1, p2c, p3, _⟩ := hn.o
  have vn := hW.vn
  obtain ⟨e25, e23⟩ := hS.n
  have f0 : 0 ≤ hI h 62 25 := by omega
  refine ⟨BgI h n L S, ?_, ?_⟩
  · unfold bgP bgQ at h5
    by_cases k1 : nd (hI h 63) n 0 = 1
    · rw [if_pos k1, if_pos (by omega)] at h5
      have q := p3 k1
      have K := h5 _ (Fp.puts [118, 48 + nd (hI h 63) n 5] (Fp.rf _)) (hS.puts [118, 48 + nd (hI h 63) n 5] (by show L.length + 2 ≤ 130; omega))
      have K : Rt none (wI h (pAd (pAd (hI h) 118) (48 + nd (hI h 63) n 5))) := K
      repeat' (first | apply And.intro | (with_reducible assumption) | (intro h9; first | (exfalso; omega) | (simp only [rI_rI, rJ_rJ, hI_rI, hJ_rI, hI_rJ, hJ_rJ, hI_rR, hR_rI, hR_rJ, hN_rI, hN_rJ, svH_63, svH_66, rfH_63, wvH_63, wvH_62, wvH_67, wvH_68, wvH_69, sc_63, sc_n62, sc_n67, sc_n68, sc_n69, sc_n70, reduceIte, Nat.reduceEqDiff, eq_self, up_up, up_self, up_ne, ne_eq, not_false_eq_true, Int.reduceEq, Int.reduceNeg, hI_wI, pAd_63, pAd_23, lAd_63, lAd_23, lAd_25, pAs_63] at h9; first | (exfalso; omega) | skip) | skip) | exact pAd_n f0 _ | (simp only [rI_rI, rJ_rJ, hI_rI, hJ_rI, hI_rJ, hJ_rJ, hI_rR, hR_rI, hR_rJ, hN_rI, hN_rJ, svH_63, svH_66, rfH_63, wvH_63, wvH_62, wvH_67, wvH_68, wvH_69, sc_63, sc_n62, sc_n67, sc_n68, sc_n69, sc_n70, reduceIte, Nat.reduceEqDiff, eq_self, up_up, up_self, up_ne, ne_eq, not_false_eq_true, Int.reduceEq, Int.reduceNeg, hI_wI, pAd_63, pAd_23, lAd_63, lAd_23, lAd_25, pAs_63]; exact K) | exact h5 | exact h5 (by omega) | omega | exact True.intro | (simp only [rI_rI, rJ_rJ, hI_rI, hJ_rI, hI_rJ, hJ_rJ, hI_rR, hR_rI, hR_rJ, hN_rI, hN_rJ, svH_63, svH_66, rfH_63, wvH_63, wvH_62, wvH_67, wvH_68, wvH_69, sc_63, sc_n62, sc_n67, sc_n68, sc_n69, sc_n70, reduceIte, Nat.reduceEqDiff, eq_self, up_up, up_self, up_ne, ne_eq, not_false_eq_true, Int.reduceEq, Int.reduceNeg, hI_wI, pAd_63, pAd_23, lAd_63, lAd_23, lAd_25, pAs_63]; omega))
    · rw [if_neg k1] at h5
      by_cases k0 : nd (hI h 63) n 0 = 0
      · rw [if_pos k0, if_pos (by omega)] at h5
        have q := p2c k0
        have p8 := p2_le8 w4
        have nl := numL_len q.1
        have K := h5 _ (Fp.puts (numL (nd (hI h 63) n 5) ++ [58, 48 + nd (hI h 63) n 1]) (Fp.rf _)) (hS.puts (numL (nd (hI h 63) n 5) ++ [58, 48 + nd (hI h 63) n 1]) (by rw [List.length_append]; show L.length + ((numL (nd (hI h 63) n 5)).length + 2) ≤ 130; omega))
        rw [pAs_app] at K
        have K : Rt none (wI h (pAd (pAd (pAs (hI h) (numL (nd (hI h 63) n 5))) 58) (48 + nd (hI h 63) n 1))) := K
        have f1 := pAs_n (numL (nd (hI h 63) n 5)) f0
        repeat' (first | apply And.intro | (with_reducible assumption) | (intro h9; first | (exfalso; omega) | (simp only [rI_rI, rJ_rJ, hI_rI, hJ_rI, hI_rJ, hJ_rJ, hI_rR, hR_rI, hR_rJ, hN_rI, hN_rJ, svH_63, svH_66, rfH_63, wvH_63, wvH_62, wvH_67, wvH_68, wvH_69, sc_63, sc_n62, sc_n67, sc_n68, sc_n69, sc_n70, reduceIte, Nat.reduceEqDiff, eq_self, up_up, up_self, up_ne, ne_eq, not_false_eq_true, Int.reduceEq, Int.reduceNeg, hI_wI, pAd_63, pAd_23, lAd_63, lAd_23, lAd_25, pAs_63] at h9; first | (exfalso; omega) | skip) | skip) | exact f1 | exact pAd_n f1 _ | (simp only [rI_rI, rJ_rJ, hI_rI, hJ_rI, hI_rJ, hJ_rJ, hI_rR, hR_rI, hR_rJ, hN_rI, hN_rJ, svH_63, svH_66, rfH_63, wvH_63, wvH_62, wvH_67, wvH_68, wvH_69, sc_63, sc_n62, sc_n67, sc_n68, sc_n69, sc_n70, reduceIte, Nat.reduceEqDiff, eq_self, up_up, up_self, up_ne, ne_eq, not_false_eq_true, Int.reduceEq, Int.reduceNeg, hI_wI, pAd_63, pAd_23, lAd_63, lAd_23, lAd_25, pAs_63]; exact K) | exact h5 | exact h5 (by omega) | omega | exact True.intro | (simp only [rI_rI, rJ_rJ, hI_rI, hJ_rI, hI_rJ, hJ_rJ, hI_rR, hR_rI, hR_rJ, hN_rI, hN_rJ, svH_63, svH_66, rfH_63, wvH_63, wvH_62, wvH_67, wvH_68, wvH_69, sc_63, sc_n62, sc_n67, sc_n68, sc_n69, sc_n70, reduceIte, Nat.reduceEqDiff, eq_self, up_up, up_self, up_ne, ne_eq, not_false_eq_true, Int.reduceEq, Int.reduceNeg, hI_wI, pAd_63, pAd_23, lAd_63, lAd_23, lAd_25, pAs_63]; omega))
      · have B : BgI h n L S 1006 75 [.inr (.inr (some 62)), .inl n, .inl (nd (hI h 63) n 0), .inr (.inl (wdL (nd (hI h 63) n 0)))] (wI h (pAd (hI h) 40)) :=
          ⟨_, rfl, (Fp.rf _).put 40, by omega, Or.inl ⟨rfl, 0, rfl, by have := wlen_rng (k := nd (hI h 63) n 0) (by omega) w2; show (0 : Int) ≤ _; omega, hS.put (by omega) 40, rfl⟩⟩
        repeat' (first | apply And.intro | (with_reducible assumption) | (intro h9; first | (exfalso; omega) | (simp only [rI_rI, rJ_rJ, hI_rI, hJ_rI, hI_rJ, hJ_rJ, hI_rR, hR_rI, hR_rJ, hN_rI, hN_rJ, svH_63, svH_66, rfH_63, wvH_63, wvH_62, wvH_67, wvH_68, wvH_69, sc_63, sc_n62, sc_n67, sc_n68, sc_n69, sc_n70, reduceIte, Nat.reduceEqDiff, eq_self, up_up, up_self, up_ne, ne_eq, not_false_eq_true, Int.reduceEq, Int.reduceNeg, hI_wI, pAd_63, pAd_23, lAd_63, lAd_23, lAd_25, pAs_63] at h9; first | (exfalso; omega) | skip) | skip) | exact Exists.intro _ B | exact h5 | exact h5 (by omega) | omega | exact True.intro | (simp only [rI_rI, rJ_rJ, hI_rI, hJ_rI, hI_rJ, hJ_rJ, hI_rR, hR_rI, hR_rJ, hN_rI, hN_rJ, svH_63, svH_66, rfH_63, wvH_63, wvH_62, wvH_67, wvH_68, wvH_69, sc_63, sc_n62, sc_n67, sc_n68, sc_n69, sc_n70, reduceIte, Nat.reduceEqDiff, eq_self, up_up, up_self, up_ne, ne_eq, not_false_eq_true, Int.reduceEq, Int.reduceNeg, hI_wI, pAd_63, pAd_23, lAd_63, lAd_23, lAd_25, pAs_63]; omega))
  · rintro m pc vs' vs g hl ⟨H, rfl, hF, k2, (⟨rfl, i, rfl, i1, hS1, rfl⟩ | ⟨rfl, r, rfl, r1, hS1, rfl⟩)⟩ hv hh1 hf1
    · obtain ⟨_, rfl⟩ | ⟨e, _⟩ := look2 hl
      · have e63 : H 63 = hI h 63 := hF.o.1 63 (by decide) (by decide) (by decide)
        obtain ⟨f25, f23⟩ := hS1.n
        have wr := wlen_rng k2 w2
        have g25 : 0 ≤ H 62 25 := by omega
        rcases ws_at k2 w2 (i := i) (by omega) with ⟨a1, a2, a3⟩ | ⟨a1, a2⟩
        · have Y := fun c x => BgI.w (c := c) (x := x) hF k2 a1 wr.2 l0 hS1
          repeat' (first | apply And.intro | (with_reducible assumption) | (intro h9; first | (exfalso; omega) | (simp only [rI_rI, rJ_rJ, hI_rI, hJ_rI, hI_rJ, hJ_rJ, hI_rR, hR_rI, hR_rJ, hN_rI, hN_rJ, svH_63, svH_66, rfH_63, wvH_63, wvH_62, wvH_67, wvH_68, wvH_69, sc_63, sc_n62, sc_n67, sc_n68, sc_n69, sc_n70, reduceIte, Nat.reduceEqDiff, eq_self, up_up, up_self, up_ne, ne_eq, not_false_eq_true, Int.reduceEq, Int.reduceNeg, hI_wI, pAd_63, pAd_23, lAd_63, lAd_23, lAd_25, pAs_63] at h9; first | (exfalso; omega) | skip) | skip) | exact Y _ _ a3 rfl | exact h5 | exact h5 (by omega) | omega | exact True.intro | (simp only [rI_rI, rJ_rJ, hI_rI, hJ_rI, hI_rJ, hJ_rJ, hI_rR, hR_rI, hR_rJ, hN_rI, hN_rJ, svH_63, svH_66, rfH_63, wvH_63, wvH_62, wvH_67, wvH_68, wvH_69, sc_63, sc_n62, sc_n67, sc_n68, sc_n69, sc_n70, reduceIte, Nat.reduceEqDiff, eq_self, up_up, up_self, up_ne, ne_eq, not_false_eq_true, Int.reduceEq, Int.reduceNeg, hI_wI, pAd_63, pAd_23, lAd_63, lAd_23, lAd_25, pAs_63]; omega))
        · have ie : (wlen (nd (hI h 63) n 0)).toNat = i := by omega
          have bp : bgP (hI h 63) n = 40 :: wdU (nd (hI h 63) n 0) i := by
            unfold bgP
            rw [if_neg (by omega), if_neg (by omega), ie]
          have hS2 := hS1
          rw [← bp] at hS2
          have oc := opc_rng (nd (hI h 63) n 0)
          have Z := fun H' => BgI.z (h := h) (n := n) (S := S) (L := L) (H := H') (m := 1000 + (6 - i))
          by_cases c1 : nd (hI h 63) n 0 = 21
          · obtain ⟨u6, u5, u7⟩ := d21 hW n0 n1 c1
            have dq : digQ (hI h 63) n = [-968, 48 + nd (hI h 63) n 5 - 1000, -968, 48 + nd (hI h 63) n 6 - 1000] := if_pos c1
            have W1 := ((((hS2.later (by omega) (-959)).later (by rw [List.length_cons]; omega) (48 + nd (hI h 63) n 6 - 1000)).later (by rw [List.length_cons, List.length_cons]; omega) (-968)).later (by rw [List.length_cons, List.length_cons, List.length_cons]; omega) (48 + nd (hI h 63) n 5 - 1000)).later (by rw [List.length_cons, List.length_cons, List.length_cons, List.length_cons]; omega) (-968)
            have Y := Z _ (((((hF.later _).later _).later _).later _).later _) k2 (by rw [dq]; exact W1) (by omega)
            repeat' (first | apply And.intro | (with_reducible assumption) | (intro h9; first | (exfalso; omega) | (simp only [rI_rI, rJ_rJ, hI_rI, hJ_rI, hI_rJ, hJ_rJ, hI_rR, hR_rI, hR_rJ, hN_rI, hN_rJ, svH_63, svH_66, rfH_63, wvH_63, wvH_62, wvH_67, wvH_68, wvH_69, sc_63, sc_n62, sc_n67, sc_n68, sc_n69, sc_n70, reduceIte, Nat.reduceEqDiff, eq_self, up_up, up_self, up_ne, ne_eq, not_false_eq_true, Int.reduceEq, Int.reduceNeg, hI_wI, pAd_63, pAd_23, lAd_63, lAd_23, lAd_25, pAs_63] at h9; first | (exfalso; omega) | skip) | skip) | (simp only [rI_rI, rJ_rJ, hI_rI, hJ_rI, hI_rJ, hJ_rJ, hI_rR, hR_rI, hR_rJ, hN_rI, hN_rJ, svH_63, svH_66, rfH_63, wvH_63, wvH_62, wvH_67, wvH_68, wvH_69, sc_63, sc_n62, sc_n67, sc_n68, sc_n69, sc_n70, reduceIte, Nat.reduceEqDiff, eq_self, up_up, up_self, up_ne, ne_eq, not_false_eq_true, Int.reduceEq, Int.reduceNeg, hI_wI, pAd_63, pAd_23, lAd_63, lAd_23, lAd_25, pAs_63]; rw [e63]; omega) | (simp only [rI_rI, rJ_rJ, hI_rI, hJ_rI, hI_rJ, hJ_rJ, hI_rR, hR_rI, hR_rJ, hN_rI, hN_rJ, svH_63, svH_66, rfH_63, wvH_63, wvH_62, wvH_67, wvH_68, wvH_69, sc_63, sc_n62, sc_n67, sc_n68, sc_n69, sc_n70, reduceIte, Nat.reduceEqDiff, eq_self, up_up, up_self, up_ne, ne_eq, not_false_eq_true, Int.reduceEq, Int.reduceNeg, hI_wI, pAd_63, pAd_23, lAd_63, lAd_23, lAd_25, pAs_63]; rw [e63]; exact Y) | exact h5 | exact h5 (by omega) | omega | exact True.intro | (simp only [rI_rI, rJ_rJ, hI_rI, hJ_rI, hI_rJ, hJ_rJ, hI_rR, hR_rI, hR_rJ, hN_rI, hN_rJ, svH_63, svH_66, rfH_63, wvH_63, wvH_62, wvH_67, wvH_68, wvH_69, sc_63, sc_n62, sc_n67, sc_n68, sc_n69, sc_n70, reduceIte, Nat.reduceEqDiff, eq_self, up_up, up_self, up_ne, ne_eq, not_false_eq_true, Int.reduceEq, Int.reduceNeg, hI_wI, pAd_63, pAd_23, lAd_63, lAd_23, lAd_25, pAs_63]; omega))
          · by_cases c2 : nd (hI h 63) n 0 = 22 ∨ nd (hI h 63) n 0 = 23
            · have dq : digQ (hI h 63) n = [-968, 48 + nd (hI h 63) n 1 - 1000] := by unfold digQ; rw [if_neg c1, if_pos c2]
              have W1 := ((hS2.later (by omega) (-959)).later (by rw [List.length_cons]; omega) (48 + nd (hI h 63) n 1 - 1000)).later (by rw [List.length_cons, List.length_cons]; omega) (-968)
              have Y := Z _ (((hF.later _).later _).later _) k2 (by rw [dq]; exact W1) (by omega)
              repeat' (first | apply And.intro | (with_reducible assumption) | (intro h9; first | (exfalso; omega) | (simp only [rI_rI, rJ_rJ, hI_rI, hJ_rI, hI_rJ, hJ_rJ, hI_rR, hR_rI, hR_rJ, hN_rI, hN_rJ, svH_63, svH_66, rfH_63, wvH_63, wvH_62, wvH_67, wvH_68, wvH_69, sc_63, sc_n62, sc_n67, sc_n68, sc_n69, sc_n70, reduceIte, Nat.reduceEqDiff, eq_self, up_up, up_self, up_ne, ne_eq, not_false_eq_true, Int.reduceEq, Int.reduceNeg, hI_wI, pAd_63, pAd_23, lAd_63, lAd_23, lAd_25, pAs_63] at h9; first | (exfalso; omega) | skip) | skip) | (simp only [rI_rI, rJ_rJ, hI_rI, hJ_rI, hI_rJ, hJ_rJ, hI_rR, hR_rI, hR_rJ, hN_rI, hN_rJ, svH_63, svH_66, rfH_63, wvH_63, wvH_62, wvH_67, wvH_68, wvH_69, sc_63, sc_n62, sc_n67, sc_n68, sc_n69, sc_n70, reduceIte, Nat.reduceEqDiff, eq_self, up_up, up_self, up_ne, ne_eq, not_false_eq_true, Int.reduceEq, Int.reduceNeg, hI_wI, pAd_63, pAd_23, lAd_63, lAd_23, lAd_25, pAs_63]; rw [e63]; omega) | (simp only [rI_rI, rJ_rJ, hI_rI, hJ_rI, hI_rJ, hJ_rJ, hI_rR, hR_rI, hR_rJ, hN_rI, hN_rJ, svH_63, svH_66, rfH_63, wvH_63, wvH_62, wvH_67, wvH_68, wvH_69, sc_63, sc_n62, sc_n67, sc_n68, sc_n69, sc_n70, reduceIte, Nat.reduceEqDiff, eq_self, up_up, up_self, up_ne, ne_eq, not_false_eq_true, Int.reduceEq, Int.reduceNeg, hI_wI, pAd_63, pAd_23, lAd_63, lAd_23, lAd_25, pAs_63]; rw [e63]; exact Y) | exact h5 | exact h5 (by omega) | omega | exact True.intro | (simp only [rI_rI, rJ_rJ, hI_rI, hJ_rI, hI_rJ, hJ_rJ, hI_rR, hR_rI, hR_rJ, hN_rI, hN_rJ, svH_63, svH_66, rfH_63, wvH_63, wvH_62, wvH_67, wvH_68, wvH_69, sc_63, sc_n62, sc_n67, sc_n68, sc_n69, sc_n70, reduceIte, Nat.reduceEqDiff, eq_self, up_up, up_self, up_ne, ne_eq, not_false_eq_true, Int.reduceEq, Int.reduceNeg, hI_wI, pAd_63, pAd_23, lAd_63, lAd_23, lAd_25, pAs_63]; omega))
            · have dq : digQ (hI h 63) n = [] := by unfold digQ; rw [if_neg c1, if_neg c2]
              have W1 := hS2.later (by omega) (-959)
              have Y := Z _ (hF.later _) k2 (by rw [dq]; exact W1) (by omega)
              repeat' (first | apply And.intro | (with_reducible assumption) | (intro h9; first | (exfalso; omega) | (simp only [rI_rI, rJ_rJ, hI_rI, hJ_rI, hI_rJ, hJ_rJ, hI_rR, hR_rI, hR_rJ, hN_rI, hN_rJ, svH_63, svH_66, rfH_63, wvH_63, wvH_62, wvH_67, wvH_68, wvH_69, sc_63, sc_n62, sc_n67, sc_n68, sc_n69, sc_n70, reduceIte, Nat.reduceEqDiff, eq_self, up_up, up_self, up_ne, ne_eq, not_false_eq_true, Int.reduceEq, Int.reduceNeg, hI_wI, pAd_63, pAd_23, lAd_63, lAd_23, lAd_25, pAs_63] at h9; first | (exfalso; omega) | skip) | skip) | exact Y | (simp only [rI_rI, rJ_rJ, hI_rI, hJ_rI, hI_rJ, hJ_rJ, hI_rR, hR_rI, hR_rJ, hN_rI, hN_rJ, svH_63, svH_66, rfH_63, wvH_63, wvH_62, wvH_67, wvH_68, wvH_69, sc_63, sc_n62, sc_n67, sc_n68, sc_n69, sc_n70, reduceIte, Nat.reduceEqDiff, eq_self, up_up, up_self, up_ne, ne_eq, not_false_eq_true, Int.reduceEq, Int.reduceNeg, hI_wI, pAd_63, pAd_23, lAd_63, lAd_23, lAd_25, pAs_63]; exact Y) | exact h5 | exact h5 (by omega) | omega | exact True.intro | (simp only [rI_rI, rJ_rJ, hI_rI, hJ_rI, hI_rJ, hJ_rJ, hI_rR, hR_rI, hR_rJ, hN_rI, hN_rJ, svH_63, svH_66, rfH_63, wvH_63, wvH_62, wvH_67, wvH_68, wvH_69, sc_63, sc_n62, sc_n67, sc_n68, sc_n69, sc_n70, reduceIte, Nat.reduceEqDiff, eq_self, up_up, up_self, up_ne, ne_eq, not_false_eq_true, Int.reduceEq, Int.reduceNeg, hI_wI, pAd_63, pAd_23, lAd_63, lAd_23, lAd_25, pAs_63]; omega))
      · omega
    · obtain ⟨e, _⟩ | ⟨_, rfl⟩ := look2 hl
      · omega
      · have e63 : H 63 = hI h 63 := hF.o.1 63 (by decide) (by decide) (by decide)
        obtain ⟨f25, f23⟩ := hS1.n
        have q := opQ_len (hI h 63) n (opc (nd (hI h 63) n 0)) r
        have d := digQ_len (hI h 63) n
        have oc := opc_rng (nd (hI h 63) n 0)
        rw [List.length_append, List.length_append, List.length_cons] at f23
        by_cases y : (r : Int) < opc (nd (hI h 63) n 0)
        · have Y := fun x y' => BgI.o (x := x) (y := y') hF k2 y l1 hS1
          repeat' (first | apply And.intro | (with_reducible assumption) | (intro h9; first | (exfalso; omega) | (simp only [rI_rI, rJ_rJ, hI_rI, hJ_rI, hI_rJ, hJ_rJ, hI_rR, hR_rI, hR_rJ, hN_rI, hN_rJ, svH_63, svH_66, rfH_63, wvH_63, wvH_62, wvH_67, wvH_68, wvH_69, sc_63, sc_n62, sc_n67, sc_n68, sc_n69, sc_n70, reduceIte, Nat.reduceEqDiff, eq_self, up_up, up_self, up_ne, ne_eq, not_false_eq_true, Int.reduceEq, Int.reduceNeg, hI_wI, pAd_63, pAd_23, lAd_63, lAd_23, lAd_25, pAs_63] at h9; first | (exfalso; omega) | skip) | skip) | exact Y _ _ (by rw [show hI (wI h H) 63 = hI h 63 from e63]; congr 2; omega) (by omega) | exact h5 | exact h5 (by omega) | omega | exact True.intro | (simp only [rI_rI, rJ_rJ, hI_rI, hJ_rI, hI_rJ, hJ_rJ, hI_rR, hR_rI, hR_rJ, hN_rI, hN_rJ, svH_63, svH_66, rfH_63, wvH_63, wvH_62, wvH_67, wvH_68, wvH_69, sc_63, sc_n62, sc_n67, sc_n68, sc_n69, sc_n70, reduceIte, Nat.reduceEqDiff, eq_self, up_up, up_self, up_ne, ne_eq, not_false_eq_true, Int.reduceEq, Int.reduceNeg, hI_wI, pAd_63, pAd_23, lAd_63, lAd_23, lAd_25, pAs_63]; omega))
        · have re : (opc (nd (hI h 63) n 0)).toNat = r := by omega
          have K := h5 H hF (by unfold bgQ; rw [if_neg (by omega), re]; exact hS1)
          repeat' (first | apply And.intro | (with_reducible assumption) | (intro h9; first | (exfalso; omega) | (simp only [rI_rI, rJ_rJ, hI_rI, hJ_rI, hI_rJ, hJ_rJ, hI_rR, hR_rI, hR_rJ, hN_rI, hN_rJ, svH_63, svH_66, rfH_63, wvH_63, wvH_62, wvH_67, wvH_68, wvH_69, sc_63, sc_n62, sc_n67, sc_n68, sc_n69, sc_n70, reduceIte, Nat.reduceEqDiff, eq_self, up_up, up_self, up_ne, ne_eq, not_false_eq_true, Int.reduceEq, Int.reduceNeg, hI_wI, pAd_63, pAd_23, lAd_63, lAd_23, lAd_25, pAs_63] at h9; first | (exfalso; omega) | skip) | skip) | exact K | exact h5 | exact h5 (by omega) | omega | exact True.intro | (simp only [rI_rI, rJ_rJ, hI_rI, hJ_rI, hI_rJ, hJ_rJ, hI_rR, hR_rI, hR_rJ, hN_rI, hN_rJ, svH_63, svH_66, rfH_63, wvH_63, wvH_62, wvH_67, wvH_68, wvH_69, sc_63, sc_n62, sc_n67, sc_n68, sc_n69, sc_n70, reduceIte, Nat.reduceEqDiff, eq_self, up_up, up_self, up_ne, ne_eq, not_false_eq_true, Int.reduceEq, Int.reduceNeg, hI_wI, pAd_63, pAd_23, lAd_63, lAd_23, lAd_25, pAs_63]; omega))
theorem m_X10_begins : MM 284 s_X10_begins := mm_of (own := 9) (by rfl) k_X10_begins (cl := [(197, s_X10_kind), (281, s_X10_puts), (196, s_X10_of), (283, s_X10_putsNumber), (198, s_X10_width), (263, s_X10_word), (282, s_X10_later), (264, s_X10_operands)]) ⟨m_X10_kind, m_X10_puts, m_X10_of, m_X10_putsNumber, m_X10_width, m_X10_word, m_X10_later, m_X10_operands, trivial⟩ o_X10_begins

/-! ===== the reference: parentheses end ===== -/
theorem pzN {F G : Int → Int} {p : Int} (g : Pz F p G) : G 19 = p ∧ G 15 = F 15 ∧ G 18 = F 18 := ⟨g.o.1, g.o.2 15 (by decide) (by decide), g.o.2 18 (by decide) (by decide)⟩
theorem pdN {F G : Int → Int} {p d : Int} (g : Pd F p d G) : G 19 = p ∧ G 15 = F 15 ∧ G 18 = F 18 ∧ G 20 = d := ⟨g.o.1, g.o.2.2 15 (by decide) (by decide), g.o.2.2 18 (by decide) (by decide), g.o.2.1⟩
theorem dB1 {s : Rw} {F G : Int → Int} {d q : Int} (h : isD (tA s q)) (g : Pd F (q + 1) d G) : 0 ≤ G 19 := by
  have := tA_rng h
  rw [g.o.1]
  omega
theorem dB2 {s : Rw} {F G : Int → Int} {d q : Int} (h : isD (tA s q)) (g : Pd F (q + 1) d G) : G 19 ≤ s 49 1 := by
  have := tA_rng h
  rw [g.o.1]
  omega
def EnQ (h : Hp) (r : Rw) (m : Nat) (vs : List AV) (g : Hp) : Prop := ∃ H : Rw, g = wI h H ∧ FrT (hI h) H ∧ ((vs = [.inr (.inr (some 62)), .inl 0] ∧ (H 62 19 = rdA (fin r) ∧ 0 ≤ H 62 19) ∧ m = 0) ∨ (∃ s, vs = [.inr (.inr (some 62)), .inl 1] ∧ EnI H r s ∧ m = (121 - pP s).toNat))
theorem EnQ.no {h : Hp} {H H' r s : Rw} (hE : EnI H r s) (hF : FrT (hI h) H') (e : H' 62 19 = rdA (fin s)) (e0 : 0 ≤ H' 62 19) : ∃ k', k' < (121 - pP s).toNat ∧ EnQ h r k' [.inr (.inr (some 62)), .inl 0] (wI h H') := by
  have g := hE.o.1.o
  exact ⟨0, by omega, H', rfl, hF, Or.inl ⟨rfl, ⟨by rw [e, hE.o.2.1], e0⟩, rfl⟩⟩
theorem EnQ.ok {h : Hp} {H H' r s S : Rw} (hE : EnI H r s) (hF : FrT (hI h) H') (hE' : EnI H' r S) (lt : pP s < pP S) : ∃ k', k' < (121 - pP s).toNat ∧ EnQ h r k' [.inr (.inr (some 62)), .inl 1] (wI h H') := by
  have g := hE.o.1.o
  have g2 := hE'.o.1.o
  exact ⟨_, by omega, H', rfl, hF, Or.inr ⟨S, rfl, hE', rfl⟩⟩
theorem FrT.e1 {K H : Rw} {F T : Int → Int} {e q q2 : Int} (hF : FrT K H) (z : Pz (H 62) e F) : FrT K (ur (ur (ur H 62 F) 71 T) 62 (up (up F 15 q) 18 q2)) := hF.tr (Box.i ⟨fun a h1 h2 h3 h4 => by rw [ur_ne h1, ur_ne h2, ur_ne h1], fun j h1 h2 h3 h4 => by rw [ur_self, up_ne h2, up_ne h1]; exact z.o.2 j h3 h4⟩)
theorem FrT.e2 {K H : Rw} {U : Int → Int} (hF : FrT K H) : FrT K (ur H 73 U) := hF.tr (Box.i ⟨fun a h1 h2 h3 h4 => ur_ne h4, fun j h1 h2 h3 h4 => by rw [ur_ne (by decide)]⟩)
theorem en_n1 {h : Hp} {H r s : Rw} {F T : Int → Int} {e q q2 : Int} (hE : EnI H r s) (hF : FrT (hI h) H) (z : Pz (H 62) e F) (he : Er s e) : ∃ k', k' < (121 - pP s).toNat ∧ EnQ h r k' [.inr (.inr (some 62)), .inl 0] (rI (rI (rI (wI h H) 62 F) 71 T) 62 (up (up F 15 q) 18 q2)) :=
  EnQ.no (H' := ur (ur (ur H 62 F) 71 T) 62 (up (up F 15 q) 18 q2)) hE (hF.e1 z) (by rw [ur_self, up_ne (by decide), up_ne (by decide), z.o.1, he.1]) (by rw [ur_self, up_ne (by decide), up_ne (by decide), z.o.1]; exact he.2)
theorem en_n2 {h : Hp} {H r s : Rw} {F T U : Int → Int} {e q q2 : Int} (hE : EnI H r s) (hF : FrT (hI h) H) (z : Pz (H 62) e F) (he : Er s e) : ∃ k', k' < (121 - pP s).toNat ∧ EnQ h r k' [.inr (.inr (some 62)), .inl 0] (rI (rI (rI (rI (wI h H) 62 F) 71 T) 62 (up (up F 15 q) 18 q2)) 73 U) :=
  EnQ.no (H' := ur (ur (ur (ur H 62 F) 71 T) 62 (up (up F 15 q) 18 q2)) 73 U) hE (hF.e1 z).e2 (by rw [ur_ne (by decide), ur_self, up_ne (by decide), up_ne (by decide), z.o.1, he.1]) (by rw [ur_ne (by decide), ur_self, up_ne (by decide), up_ne (by decide), z.o.1]; exact he.2)
def EnY (h : Hp) (H r s : Rw) (F : Int → Int) (k x y q q1 q2 : Int) : Prop :=
    (¬ 0 < q2 - 1 → ∃ k', k' < (121 - pP s).toNat ∧ EnQ h r k' [.inr (.inr (some 62)), .inl 1] (rI (rI (rI (wI h H) 62 F) 71 (tkF (H 71) q k x y)) 62 (up (up F 15 (q1 + 1)) 18 (q2 - 1)))) ∧
    (0 < q2 - 1 → ∃ k', k' < (121 - pP s).toNat ∧ EnQ h r k' [.inr (.inr (some 62)), .inl 1] (rI (rI (rI (rI (wI h H) 62 F) 71 (tkF (H 71) q k x y)) 62 (up (up F 15 (q1 + 1)) 18 (q2 - 1))) 73 (up (H 73) (q2 - 1 - 1) (H 73 (q2 - 1 - 1) + 1))))
theorem dgX.c {r s : Rw} (h : SmR r s) {p e : Int} (x : dgX r p e) : dgX s p e := by
  unfold dgX
  rw [h.t, h.k]
  exact x
theorem en_y {h : Hp} {H r s s1 : Rw} {F : Int → Int} {k n x y q q1 q2 : Int} (hE : EnI H r s) (hH : FrT (hI h) H) (hf : Fl s1) (f1 : fin s1 = fin s) (lt : pP s ≤ pP s1) (S1 : SmR s s1) (z7 : ¬ 0 < s1 57 (pO s1 - 1)) (hk : s1 55 (pO s1 - 1) = k) (hn : s1 58 (pO s1 - 1) = n) (tk : TkE k x y k n (-1)) (hc : tA s1 (spk s1 (pP s1)) = 41)
    (z : Pz (H 62) (spk s1 (pP s1) + 1) F) (hq : q = H 62 15) (hq1 : q1 = H 62 15) (hq2 : q2 = H 62 18) :
    EnY h H r s F k x y q q1 q2 := by
  obtain ⟨e1, e2, e3, e4, e5, e6, e7⟩ := hE.o
  obtain ⟨hg, o1, b0, hz⟩ := hf.o
  have c := cl1 hf z7 hc
  obtain ⟨c1, c2, c3, c4, c5, c6, c7, c8⟩ := c
  have s0 := hg.o.2.2.2.2.2.2.o.1
  have a3 := e3.o.2.2.1
  have a4 := e3.o.2.2.2.1
  have s8 := S1.2.2.2.2.2.2.2.1
  have s9 := S1.2.2.2.2.2.2.2.2
  have z1 := e3.z (Pz.up (H 62) (pP s1)) S1 rfl
  have z2 := z1.pop
  have C := z2.ad2 (H' := ur (ur (ur H 62 F) 71 (tkF (H 71) q k x y)) 62 (up (up F 15 (q1 + 1)) 18 (q2 - 1))) (s := sF (avS (skS s1)) 11 (pO s1 - 1)) (k := k) (n := n) (w := -1) (x := x) (y := y) s0 ⟨rfl, rfl, rfl, rfl, rfl, rfl, rfl, rfl, rfl⟩ tk ⟨by
      rw [ur_self, ur_self, ur_self, up_ne (by decide), up_ne (by decide), up_ne (by decide), up_ne (by decide)]
      exact z.o.2 6 (by decide) (by decide), by
      rw [ur_ne (by decide), ur_ne (by decide), ur_ne (by decide), ur_ne (by decide), ur_ne (by decide)], by
      rw [ur_ne (by decide), ur_self, ur_ne (by decide), ur_ne (by decide), hq, a4]
      show _ = tkF (H 71) (pS s1) k x y
      rw [s9], by
      rw [ur_ne (by decide), ur_ne (by decide), ur_ne (by decide), ur_ne (by decide), ur_ne (by decide)], by
      rw [ur_ne (by decide), ur_ne (by decide), ur_ne (by decide), ur_ne (by decide), ur_ne (by decide)], by
      rw [ur_self, ur_self, up_self, up_self, hq2, a3, s8], by
      rw [ur_self, up_ne (by decide), up_self, hq1, a4]
      show _ = pS s1 + 1
      rw [s9]⟩ (by
      rw [ur_self, up_ne (by decide), up_ne (by decide), z.o.1]
      exact (avP (skS s1)).symm)
  have C : CrR (ur (ur (ur H 62 F) 71 (tkF (H 71) q k x y)) 62 (up (up F 15 (q1 + 1)) 18 (q2 - 1))) (kS s1) 1 := by
    unfold kS
    rw [hk, hn]
    exact C
  have lt2 : pP s < pP (kS s1) := by omega
  have hp0 : 0 < pS (kS s1) := by omega
  have hfr := hH.e1 (T := tkF (H 71) q k x y) (q := q1 + 1) (q2 := q2 - 1) z
  refine ⟨fun w => EnQ.ok hE hfr (Box.i ⟨c1, c2.trans (f1.trans e2), C.got0 (by omega), hp0, c7, c8, by omega⟩) lt2, fun w => EnQ.ok hE hfr.e2 (Box.i ⟨c1, c2.trans (f1.trans e2), ?_, hp0, c7, c8, by omega⟩) lt2⟩
  have g := C.got (by omega)
  rw [c5, ur_ne (by decide), ur_ne (by decide), ur_ne (by decide)] at g
  have e9 : pO s1 - 1 - 1 = q2 - 1 - 1 := by rw [hq2, a3, s8]
  rw [e9] at g
  exact g
def s_X10_takesEnds : CS := (zc 4, ap [(3, 62)] (fun  h Rt X =>
∃ r, EnI (hI h) r r ∧ (∀ H, FrT (hI h) H → H 62 19 = rdA (fin r) → 0 ≤ H 62 19 → Rt (some (.inl 0)) (wI h H)) ∧ (∀ H s, FrT (hI h) H → EnW H r s → Rt (some (.inl 1)) (wI h H))))
set_option maxRecDepth 100000 in
set_option maxHeartbeats 4000000 in
theorem o_X10_takesEnds : Obl true 2 5 (sp [(264, s_X10_operands), (265, s_X10_digits), (270, s_X10_takesDigit), (271, s_X10_takes), (269, s_X10_gives)]) [] code_X10_takesEnds s_X10_takesEnds := by
  refine oblL (by rfl) [(2, [0, 1])] ?_
  intro  h Rt X hh hf hs
  obtain ⟨r, hE, h3, h4⟩ := hs
  refine ⟨fun m _ vs g => EnQ h r m vs g, ?_, ?_⟩
  · repeat' (first | apply And.intro | (with_reducible assumption) | (intro h9; first | (exfalso; omega) | (simp only [rI_rI, rJ_rJ, hI_rI, hJ_rI, hI_rJ, hJ_rJ, hI_rR, hR_rI, hR_rJ, hN_rI, hN_rJ, svH_63, svH_66, rfH_63, wvH_63, wvH_62, wvH_67, wvH_68, wvH_69, sc_63, sc_n62, sc_n67, sc_n68, sc_n69, sc_n70, reduceIte, Nat.reduceEqDiff, eq_self, up_up, up_self, up_ne, ne_eq, not_false_eq_true, Int.reduceEq, Int.reduceNeg, hI_wI] at h9; first | (exfalso; omega) | skip) | skip) | exact Exists.intro _ ⟨hI h, rfl, FrT.rf _, Or.inr ⟨r, rfl, hE, rfl⟩⟩ | exact h3 | exact h3 (by omega) | exact h4 | exact h4 (by omega) | omega | exact True.intro | (simp only [rI_rI, rJ_rJ, hI_rI, hJ_rI, hI_rJ, hJ_rJ, hI_rR, hR_rI, hR_rJ, hN_rI, hN_rJ, svH_63, svH_66, rfH_63, wvH_63, wvH_62, wvH_67, wvH_68, wvH_69, sc_63, sc_n62, sc_n67, sc_n68, sc_n69, sc_n70, reduceIte, Nat.reduceEqDiff, eq_self, up_up, up_self, up_ne, ne_eq, not_false_eq_true, Int.reduceEq, Int.reduceNeg, hI_wI]; omega))
  · rintro m pc vs' vs g hl ⟨H, rfl, hF, ⟨rfl, hp, rfl⟩ | ⟨s, rfl, hE1, rfl⟩⟩ hv hh1 hf1
    · obtain ⟨rfl, rfl⟩ := look1 hl
      have k := h3 H hF hp.1 hp.2
      repeat' (first | apply And.intro | (with_reducible assumption) | (intro h9; first | (exfalso; omega) | (simp only [rI_rI, rJ_rJ, hI_rI, hJ_rI, hI_rJ, hJ_rJ, hI_rR, hR_rI, hR_rJ, hN_rI, hN_rJ, svH_63, svH_66, rfH_63, wvH_63, wvH_62, wvH_67, wvH_68, wvH_69, sc_63, sc_n62, sc_n67, sc_n68, sc_n69, sc_n70, reduceIte, Nat.reduceEqDiff, eq_self, up_up, up_self, up_ne, ne_eq, not_false_eq_true, Int.reduceEq, Int.reduceNeg, hI_wI] at h9; first | (exfalso; omega) | skip) | skip) | exact k | exact h3 | exact h3 (by omega) | exact h4 | exact h4 (by omega) | omega | exact True.intro | (simp only [rI_rI, rJ_rJ, hI_rI, hJ_rI, hI_rJ, hJ_rJ, hI_rR, hR_rI, hR_rJ, hN_rI, hN_rJ, svH_63, svH_66, rfH_63, wvH_63, wvH_62, wvH_67, wvH_68, wvH_69, sc_63, sc_n62, sc_n67, sc_n68, sc_n69, sc_n70, reduceIte, Nat.reduceEqDiff, eq_self, up_up, up_self, up_ne, ne_eq, not_false_eq_true, Int.reduceEq, Int.reduceNeg, hI_wI]; omega))
    · obtain ⟨rfl, rfl⟩ := look1 hl
      obtain ⟨hg, fs, hC, p0, hD, hz, le⟩ := hE1.o
      obtain ⟨hT, e19, e18, e15, c5, c6⟩ := hC.o
      obtain ⟨g1, g2, g3, g4, g5, g6, g7⟩ := hg.o
      obtain ⟨s0, o0, q3, q4, q5, q6⟩ := g7.o
      have rg := nd_rng hg
      by_cases o1 : 0 < pO s
      · have c := c5 (pO s - 1) (by omega) (by omega)
        rw [if_pos rfl, ← e18] at c
        have t := (q3 (pO s - 1) (by omega) (by omega)).o
        have kd : H 72 (H 62 18 - 1) = s 55 (pO s - 1) := by rw [c.1, e18]
        have kb : H 73 (H 62 18 - 1) = opc (H 72 (H 62 18 - 1)) - s 56 (pO s - 1) := by rw [kd, c.2, e18]; omega
        have k2 : 2 ≤ H 72 (H 62 18 - 1) := by rw [kd]; exact t.1
        have b73 : ∀ i, 0 ≤ i → i < pO s → 0 ≤ H 73 i ∧ H 73 i ≤ 3 := fun i i0 i1 => by
          have c := c5 i i0 i1
          have u := (q3 i i0 i1).o
          have w := opc_rng (s 55 i)
          have := c.2
          split at this <;> omega
        by_cases b0 : s 56 (pO s - 1) = 0
        · have fl : Fl s := Box.i ⟨hg, o1, b0, hz⟩
          have dd := hD.o o1
          have n0 := t.2.2.2.2.2.2.2.2.2.1 dd
          have dr := dgc_rng (s 55 (pO s - 1))
          rw [← kd] at dr dd
          have b15 : H 62 15 < 60 := by omega
          have rg2 := spk_rng s (p := H 62 19) (by omega)
          have u1 : ∀ x, 0 ≤ x → x < pO s → -2147483648 ≤ H 73 x + 1 := fun x x0 x1 => by have := b73 x x0 x1; omega
          have u2 : ∀ x, 0 ≤ x → x < pO s → H 73 x + 1 < 2147483648 := fun x x0 x1 => by have := b73 x x0 x1; omega
          have T1 : ∀ F p, Pz (H 62) p F → TeQ (hI (rI (wI h H) 62 F)) s := fun F p z => TeQ.z (h := wI h H) hT z
          have T2 : ∀ F p G q, Pz (H 62) p F → Pz F q G → TeQ (hI (rI (wI h H) 62 G)) s := fun F p G q z y => T1 G q (z.tr y)
          have pr : ∀ F p, Pz (H 62) p F → F 15 = H 62 15 ∧ F 18 = H 62 18 := fun F p z => ⟨(pzN z).2.1, (pzN z).2.2⟩
          have z58 : dgc (H 72 (H 62 18 - 1)) = 0 ∨ dgc (H 72 (H 62 18 - 1)) = 1 ∨ dgc (H 72 (H 62 18 - 1)) = 2 := by omega
          rcases z58 with z | z | z
          · have Y : ∀ F, tA s (spk s (H 62 19)) = 41 → Pz (H 62) (spk s (H 62 19) + 1) F → EnY h H r s F (H 72 (H 62 18 - 1)) (-1) (-1) (F 15) (F 15) (F 18) := fun F hc hz => en_y (x := -1) (y := -1) (q := F 15) (q1 := F 15) (q2 := F 18) hE1 hF fl rfl (Int.le_refl _) ⟨rfl, rfl, rfl, rfl, rfl, rfl, rfl, rfl, rfl⟩ (by omega) kd.symm n0 (Box.i ⟨rfl, fun q => by omega, fun q => by omega, fun q => by omega, fun q => by omega⟩) (by rw [← e19]; exact hc) (by rw [← e19]; exact hz) (pzN hz).2.1 (pzN hz).2.1 (pzN hz).2.2
            have N := cl0 fl (by omega)
            rw [← e19] at N
            repeat' (first | apply And.intro | (with_reducible assumption) | (intro h9; first | (exfalso; omega) | (simp only [rI_rI, rJ_rJ, hI_rI, hJ_rI, hI_rJ, hJ_rJ, hI_rR, hR_rI, hR_rJ, hN_rI, hN_rJ, svH_63, svH_66, rfH_63, wvH_63, wvH_62, wvH_67, wvH_68, wvH_69, sc_63, sc_n62, sc_n67, sc_n68, sc_n69, sc_n70, reduceIte, Nat.reduceEqDiff, eq_self, up_up, up_self, up_ne, ne_eq, not_false_eq_true, Int.reduceEq, Int.reduceNeg, hI_wI] at h9; first | (exfalso; omega) | (have w9 := pzN h9; skip) | (have w9 := pdN h9; skip) | skip) | (have w9 := pzN h9; skip) | (have w9 := pdN h9; skip) | skip) | refine Exists.intro s ?_ | exact hT | exact (Y _ (by assumption) (by assumption)).1 (by omega) | exact (Y _ (by assumption) (by assumption)).2 (by omega) | exact en_n1 hE1 hF (by assumption) (N (by assumption)) | exact en_n2 hE1 hF (by assumption) (N (by assumption)) | (simp only [rI_rI, rJ_rJ, hI_rI, hJ_rI, hI_rJ, hJ_rJ, hI_rR, hR_rI, hR_rJ, hN_rI, hN_rJ, svH_63, svH_66, rfH_63, wvH_63, wvH_62, wvH_67, wvH_68, wvH_69, sc_63, sc_n62, sc_n67, sc_n68, sc_n69, sc_n70, reduceIte, Nat.reduceEqDiff, eq_self, up_up, up_self, up_ne, ne_eq, not_false_eq_true, Int.reduceEq, Int.reduceNeg, hI_wI]; first | exact u1 _ (by omega) (by omega) | exact u2 _ (by omega) (by omega) | exact (Y _ (by assumption) (by assumption)).1 (by omega) | exact (Y _ (by assumption) (by assumption)).2 (by omega) | exact en_n1 hE1 hF (by assumption) (N (by assumption)) | exact en_n2 hE1 hF (by assumption) (N (by assumption))) | exact h3 | exact h3 (by omega) | exact h4 | exact h4 (by omega) | omega | exact True.intro | (simp only [rI_rI, rJ_rJ, hI_rI, hJ_rI, hI_rJ, hJ_rJ, hI_rR, hR_rI, hR_rJ, hN_rI, hN_rJ, svH_63, svH_66, rfH_63, wvH_63, wvH_62, wvH_67, wvH_68, wvH_69, sc_63, sc_n62, sc_n67, sc_n68, sc_n69, sc_n70, reduceIte, Nat.reduceEqDiff, eq_self, up_up, up_self, up_ne, ne_eq, not_false_eq_true, Int.reduceEq, Int.reduceNeg, hI_wI]; omega))
          · have hd : 0 < s 57 (pO s - 1) := by omega
            have ND : ∀ e, dgX s (H 62 19) e → Er s e := fun e q => wd0 fl hd (by rw [← e19]; exact q)
            have W : isD (tA s (spk s (H 62 19))) → ¬ isD (tA s (spk s (H 62 19) + 1)) → _ := fun d1 d2 => wd1 fl hd (by rw [← e19]; exact d1) (by rw [← e19]; exact d2)
            rw [← e19] at W
            have Y : ∀ F1 F2, isD (tA s (spk s (H 62 19))) → ¬ isD (tA s (spk s (H 62 19) + 1)) → Pd (H 62) (spk s (H 62 19) + 1) (tA s (spk s (H 62 19)) - 48) F1 → tA s (spk s (F1 19)) = 41 → Pz F1 (spk s (F1 19) + 1) F2 → EnY h H r s F2 (H 72 (H 62 18 - 1)) (F1 20) (-1) (F2 15) (F2 15) (F2 18) := fun F1 F2 d1 d2 hp hc hz => by
              obtain ⟨w1, w2, w3, w4, w5, w6⟩ := W d1 d2
              have a := pdN hp
              have b := pzN hz
              have po := w4.2.2.2.2.2.2.2.1
              rw [a.1] at hc hz
              refine en_y (s1 := wdS (skS s)) (n := tA s (spk s (H 62 19)) - 48) hE1 hF w1 w2 (by omega) w4 (by rw [po, w5, up_self]; omega) (by rw [po, w4.2.2.2.2.2.1]; exact kd.symm) (by rw [po, w6, up_self, n0]; omega) (Box.i ⟨rfl, fun q => by omega, fun q => by omega, fun q => by omega, fun q => by omega⟩) (by rw [w4.t, w4.k, w3]; exact hc) (by rw [w4.k, w3]; exact hp.z.tr hz) (by omega) (by omega) (by omega)
            have N : ∀ F1, isD (tA s (spk s (H 62 19))) → ¬ isD (tA s (spk s (H 62 19) + 1)) → Pd (H 62) (spk s (H 62 19) + 1) (tA s (spk s (H 62 19)) - 48) F1 → tA s (spk s (F1 19)) ≠ 41 → Er s (spk s (F1 19)) := fun F1 d1 d2 hp hc => by
              obtain ⟨w1, w2, w3, w4, w5, w6⟩ := W d1 d2
              have a := pdN hp
              have po := w4.2.2.2.2.2.2.2.1
              rw [a.1] at hc ⊢
              have q := cl0 w1 (by rw [po, w5, up_self]; omega) (by rw [w4.t, w4.k, w3]; exact hc)
              rw [w4.k, w3, Er, w2] at q
              exact q
            repeat' (first | apply And.intro | (with_reducible assumption) | (intro h9; first | (exfalso; omega) | (simp only [rI_rI, rJ_rJ, hI_rI, hJ_rI, hI_rJ, hJ_rJ, hI_rR, hR_rI, hR_rJ, hN_rI, hN_rJ, svH_63, svH_66, rfH_63, wvH_63, wvH_62, wvH_67, wvH_68, wvH_69, sc_63, sc_n62, sc_n67, sc_n68, sc_n69, sc_n70, reduceIte, Nat.reduceEqDiff, eq_self, up_up, up_self, up_ne, ne_eq, not_false_eq_true, Int.reduceEq, Int.reduceNeg, hI_wI] at h9; first | (exfalso; omega) | (have w9 := pzN h9; skip) | (have w9 := pdN h9; skip) | skip) | (have w9 := pzN h9; skip) | (have w9 := pdN h9; skip) | skip) | refine Exists.intro s ?_ | exact hT | exact en_n1 hE1 hF (by assumption) (ND _ (by assumption)) | exact en_n2 hE1 hF (by assumption) (ND _ (by assumption)) | exact T1 _ _ (Pd.z (by assumption)) | (simp only [rI_rI, rJ_rJ, hI_rI, hJ_rI, hI_rJ, hJ_rJ, hI_rR, hR_rI, hR_rJ, hN_rI, hN_rJ, svH_63, svH_66, rfH_63, wvH_63, wvH_62, wvH_67, wvH_68, wvH_69, sc_63, sc_n62, sc_n67, sc_n68, sc_n69, sc_n70, reduceIte, Nat.reduceEqDiff, eq_self, up_up, up_self, up_ne, ne_eq, not_false_eq_true, Int.reduceEq, Int.reduceNeg, hI_wI]; first | exact u1 _ (by omega) (by omega) | exact u2 _ (by omega) (by omega) | exact dB1 (by assumption) (by assumption) | exact dB2 (by assumption) (by assumption) | exact en_n1 hE1 hF (by assumption) (ND _ (by assumption)) | exact en_n2 hE1 hF (by assumption) (ND _ (by assumption)) | exact en_n1 hE1 hF (Pz.tr (Pd.z (by assumption)) (by assumption)) (N _ (by assumption) (by assumption) (by assumption) (by assumption)) | exact en_n2 hE1 hF (Pz.tr (Pd.z (by assumption)) (by assumption)) (N _ (by assumption) (by assumption) (by assumption) (by assumption)) | exact (Y _ _ (by assumption) (by assumption) (by assumption) (by assumption) (by assumption)).1 (by omega) | exact (Y _ _ (by assumption) (by assumption) (by assumption) (by assumption) (by assumption)).2 (by omega)) | exact h3 | exact h3 (by omega) | exact h4 | exact h4 (by omega) | omega | exact True.intro | (simp only [rI_rI, rJ_rJ, hI_rI, hJ_rI, hI_rJ, hJ_rJ, hI_rR, hR_rI, hR_rJ, hN_rI, hN_rJ, svH_63, svH_66, rfH_63, wvH_63, wvH_62, wvH_67, wvH_68, wvH_69, sc_63, sc_n62, sc_n67, sc_n68, sc_n69, sc_n70, reduceIte, Nat.reduceEqDiff, eq_self, up_up, up_self, up_ne, ne_eq, not_false_eq_true, Int.reduceEq, Int.reduceNeg, hI_wI]; omega))
          · have hd : 0 < s 57 (pO s - 1) := by omega
            have ND : ∀ e, dgX s (H 62 19) e → Er s e := fun e q => wd0 fl hd (by rw [← e19]; exact q)
            have W : isD (tA s (spk s (H 62 19))) → ¬ isD (tA s (spk s (H 62 19) + 1)) → _ := fun d1 d2 => wd1 fl hd (by rw [← e19]; exact d1) (by rw [← e19]; exact d2)
            rw [← e19] at W
            have ND2 : ∀ F1 e, isD (tA s (spk s (H 62 19))) → ¬ isD (tA s (spk s (H 62 19) + 1)) → Pd (H 62) (spk s (H 62 19) + 1) (tA s (spk s (H 62 19)) - 48) F1 → dgX s (F1 19) e → Er s e := fun F1 e d1 d2 hp hx => by
              obtain ⟨w1, w2, w3, w4, w5, w6⟩ := W d1 d2
              have a := pdN hp
              have po := w4.2.2.2.2.2.2.2.1
              rw [a.1] at hx
              have q := wd0 w1 (by rw [po, w5, up_self]; omega) (by rw [w3]; exact dgX.c w4 hx)
              rw [Er, w2] at q
              exact q
            have W2 : ∀ F1, isD (tA s (spk s (H 62 19))) → ¬ isD (tA s (spk s (H 62 19) + 1)) → Pd (H 62) (spk s (H 62 19) + 1) (tA s (spk s (H 62 19)) - 48) F1 → isD (tA s (spk s (F1 19))) → ¬ isD (tA s (spk s (F1 19) + 1)) → ∃ s2, Fl s2 ∧ fin s2 = fin s ∧ pP s2 = spk s (F1 19) + 1 ∧ SmR s s2 ∧ s2 57 (pO s2 - 1) = 0 ∧ s2 58 (pO s2 - 1) = 10 * (tA s (spk s (H 62 19)) - 48) + (tA s (spk s (F1 19)) - 48) := fun F1 d1 d2 hp d3 d4 => by
              obtain ⟨w1, w2, w3, w4, w5, w6⟩ := W d1 d2
              have a := pdN hp
              have po := w4.2.2.2.2.2.2.2.1
              have hd2 : 0 < wdS (skS s) 57 (pO (wdS (skS s)) - 1) := by rw [po, w5, up_self]; omega
              obtain ⟨v1, v2, v3, v4, v5, v6⟩ := wd1 w1 hd2 (by rw [w4.t, w4.k, w3, ← a.1]; exact d3) (by rw [w4.t, w4.k, w3, ← a.1]; exact d4)
              have po2 := v4.2.2.2.2.2.2.2.1
              refine ⟨_, v1, v2.trans w2, by rw [v3, w4.k, w3, a.1], w4.tr v4, ?_, ?_⟩
              · rw [po2, v5, up_self, po, w5, up_self]; omega
              · rw [po2, v6, up_self, po, w6, up_self, n0, w4.t, w4.k, w3, a.1]; omega
            have Y : ∀ F1 F2 F3, isD (tA s (spk s (H 62 19))) → ¬ isD (tA s (spk s (H 62 19) + 1)) → Pd (H 62) (spk s (H 62 19) + 1) (tA s (spk s (H 62 19)) - 48) F1 → isD (tA s (spk s (F1 19))) → ¬ isD (tA s (spk s (F1 19) + 1)) → Pd F1 (spk s (F1 19) + 1) (tA s (spk s (F1 19)) - 48) F2 → tA s (spk s (F2 19)) = 41 → Pz F2 (spk s (F2 19) + 1) F3 → EnY h H r s F3 (H 72 (H 62 18 - 1)) (F1 20) (F2 20) (F3 15) (F3 15) (F3 18) := fun F1 F2 F3 d1 d2 hp d3 d4 hp2 hc hz => by
              obtain ⟨s2, w1, w2, w3, w4, w5, w6⟩ := W2 F1 d1 d2 hp d3 d4
              have a := pdN hp
              have a2 := pdN hp2
              have b := pzN hz
              have po := w4.2.2.2.2.2.2.2.1
              have r1 := tA_rng d3
              have r2 := tA_rng d1
              have r3 := spk_rng s (p := F1 19) (by omega)
              rw [a2.1] at hc hz
              refine en_y (s1 := s2) (n := 10 * (tA s (spk s (H 62 19)) - 48) + (tA s (spk s (F1 19)) - 48)) hE1 hF w1 w2 (by omega) w4 (by rw [w5]; omega) (by rw [po, w4.2.2.2.2.2.1]; exact kd.symm) w6 (Box.i ⟨rfl, fun q => by omega, fun q => by omega, fun q => by omega, fun q => by omega⟩) (by rw [w4.t, w4.k, w3]; exact hc) (by rw [w4.k, w3]; exact (hp.z.tr hp2.z).tr hz) (by omega) (by omega) (by omega)
            have N : ∀ F1 F2, isD (tA s (spk s (H 62 19))) → ¬ isD (tA s (spk s (H 62 19) + 1)) → Pd (H 62) (spk s (H 62 19) + 1) (tA s (spk s (H 62 19)) - 48) F1 → isD (tA s (spk s (F1 19))) → ¬ isD (tA s (spk s (F1 19) + 1)) → Pd F1 (spk s (F1 19) + 1) (tA s (spk s (F1 19)) - 48) F2 → tA s (spk s (F2 19)) ≠ 41 → Er s (spk s (F2 19)) := fun F1 F2 d1 d2 hp d3 d4 hp2 hc => by
              obtain ⟨s2, w1, w2, w3, w4, w5, w6⟩ := W2 F1 d1 d2 hp d3 d4
              have a2 := pdN hp2
              rw [a2.1] at hc ⊢
              have q := cl0 w1 (by rw [w5]; omega) (by rw [w4.t, w4.k, w3]; exact hc)
              rw [w4.k, w3, Er, w2] at q
              exact q
            repeat' (first | apply And.intro | (with_reducible assumption) | (intro h9; first | (exfalso; omega) | (simp only [rI_rI, rJ_rJ, hI_rI, hJ_rI, hI_rJ, hJ_rJ, hI_rR, hR_rI, hR_rJ, hN_rI, hN_rJ, svH_63, svH_66, rfH_63, wvH_63, wvH_62, wvH_67, wvH_68, wvH_69, sc_63, sc_n62, sc_n67, sc_n68, sc_n69, sc_n70, reduceIte, Nat.reduceEqDiff, eq_self, up_up, up_self, up_ne, ne_eq, not_false_eq_true, Int.reduceEq, Int.reduceNeg, hI_wI] at h9; first | (exfalso; omega) | (have w9 := pzN h9; skip) | (have w9 := pdN h9; skip) | skip) | (have w9 := pzN h9; skip) | (have w9 := pdN h9; skip) | skip) | refine Exists.intro s ?_ | exact hT | exact en_n1 hE1 hF (by assumption) (ND _ (by assumption)) | exact en_n2 hE1 hF (by assumption) (ND _ (by assumption)) | exact T1 _ _ (Pd.z (by assumption)) | exact T2 _ _ _ _ (Pd.z (by assumption)) (Pd.z (by assumption)) | (simp only [rI_rI, rJ_rJ, hI_rI, hJ_rI, hI_rJ, hJ_rJ, hI_rR, hR_rI, hR_rJ, hN_rI, hN_rJ, svH_63, svH_66, rfH_63, wvH_63, wvH_62, wvH_67, wvH_68, wvH_69, sc_63, sc_n62, sc_n67, sc_n68, sc_n69, sc_n70, reduceIte, Nat.reduceEqDiff, eq_self, up_up, up_self, up_ne, ne_eq, not_false_eq_true, Int.reduceEq, Int.reduceNeg, hI_wI]; first | exact u1 _ (by omega) (by omega) | exact u2 _ (by omega) (by omega) | exact dB1 (by assumption) (by assumption) | exact dB2 (by assumption) (by assumption) | exact en_n1 hE1 hF (by assumption) (ND _ (by assumption)) | exact en_n2 hE1 hF (by assumption) (ND _ (by assumption)) | exact en_n1 hE1 hF (Pz.tr (Pd.z (by assumption)) (by assumption)) (ND2 _ _ (by assumption) (by assumption) (by assumption) (by assumption)) | exact en_n2 hE1 hF (Pz.tr (Pd.z (by assumption)) (by assumption)) (ND2 _ _ (by assumption) (by assumption) (by assumption) (by assumption)) | exact en_n1 hE1 hF (Pz.tr (Pz.tr (Pd.z (by assumption)) (Pd.z (by assumption))) (by assumption)) (N _ _ (by assumption) (by assumption) (by assumption) (by assumption) (by assumption) (by assumption) (by assumption)) | exact en_n2 hE1 hF (Pz.tr (Pz.tr (Pd.z (by assumption)) (Pd.z (by assumption))) (by assumption)) (N _ _ (by assumption) (by assumption) (by assumption) (by assumption) (by assumption) (by assumption) (by assumption)) | exact (Y _ _ _ (by assumption) (by assumption) (by assumption) (by assumption) (by assumption) (by assumption) (by assumption) (by assumption)).1 (by omega) | exact (Y _ _ _ (by assumption) (by assumption) (by assumption) (by assumption) (by assumption) (by assumption) (by assumption) (by assumption)).2 (by omega)) | exact h3 | exact h3 (by omega) | exact h4 | exact h4 (by omega) | omega | exact True.intro | (simp only [rI_rI, rJ_rJ, hI_rI, hJ_rI, hI_rJ, hJ_rJ, hI_rR, hR_rI, hR_rJ, hN_rI, hN_rJ, svH_63, svH_66, rfH_63, wvH_63, wvH_62, wvH_67, wvH_68, wvH_69, sc_63, sc_n62, sc_n67, sc_n68, sc_n69, sc_n70, reduceIte, Nat.reduceEqDiff, eq_self, up_up, up_self, up_ne, ne_eq, not_false_eq_true, Int.reduceEq, Int.reduceNeg, hI_wI]; omega))
        · have k := h4 H s hF (Box.i ⟨hE1, Or.inr (by omega)⟩)
          repeat' (first | apply And.intro | (with_reducible assumption) | (intro h9; first | (exfalso; omega) | (simp only [rI_rI, rJ_rJ, hI_rI, hJ_rI, hI_rJ, hJ_rJ, hI_rR, hR_rI, hR_rJ, hN_rI, hN_rJ, svH_63, svH_66, rfH_63, wvH_63, wvH_62, wvH_67, wvH_68, wvH_69, sc_63, sc_n62, sc_n67, sc_n68, sc_n69, sc_n70, reduceIte, Nat.reduceEqDiff, eq_self, up_up, up_self, up_ne, ne_eq, not_false_eq_true, Int.reduceEq, Int.reduceNeg, hI_wI] at h9; first | (exfalso; omega) | skip) | skip) | exact k | exact h3 | exact h3 (by omega) | exact h4 | exact h4 (by omega) | omega | exact True.intro | (simp only [rI_rI, rJ_rJ, hI_rI, hJ_rI, hI_rJ, hJ_rJ, hI_rR, hR_rI, hR_rJ, hN_rI, hN_rJ, svH_63, svH_66, rfH_63, wvH_63, wvH_62, wvH_67, wvH_68, wvH_69, sc_63, sc_n62, sc_n67, sc_n68, sc_n69, sc_n70, reduceIte, Nat.reduceEqDiff, eq_self, up_up, up_self, up_ne, ne_eq, not_false_eq_true, Int.reduceEq, Int.reduceNeg, hI_wI]; omega))
      · have k := h4 H s hF (Box.i ⟨hE1, Or.inl (by omega)⟩)
        repeat' (first | apply And.intro | (with_reducible assumption) | (intro h9; first | (exfalso; omega) | (simp only [rI_rI, rJ_rJ, hI_rI, hJ_rI, hI_rJ, hJ_rJ, hI_rR, hR_rI, hR_rJ, hN_rI, hN_rJ, svH_63, svH_66, rfH_63, wvH_63, wvH_62, wvH_67, wvH_68, wvH_69, sc_63, sc_n62, sc_n67, sc_n68, sc_n69, sc_n70, reduceIte, Nat.reduceEqDiff, eq_self, up_up, up_self, up_ne, ne_eq, not_false_eq_true, Int.reduceEq, Int.reduceNeg, hI_wI] at h9; first | (exfalso; omega) | skip) | skip) | exact k | exact h3 | exact h3 (by omega) | exact h4 | exact h4 (by omega) | omega | exact True.intro | (simp only [rI_rI, rJ_rJ, hI_rI, hJ_rI, hI_rJ, hJ_rJ, hI_rR, hR_rI, hR_rJ, hN_rI, hN_rJ, svH_63, svH_66, rfH_63, wvH_63, wvH_62, wvH_67, wvH_68, wvH_69, sc_63, sc_n62, sc_n67, sc_n68, sc_n69, sc_n70, reduceIte, Nat.reduceEqDiff, eq_self, up_up, up_self, up_ne, ne_eq, not_false_eq_true, Int.reduceEq, Int.reduceNeg, hI_wI]; omega))
theorem m_X10_takesEnds : MM 275 s_X10_takesEnds := mm_of (own := 9) (by rfl) k_X10_takesEnds (cl := [(264, s_X10_operands), (265, s_X10_digits), (270, s_X10_takesDigit), (271, s_X10_takes), (269, s_X10_gives)]) ⟨m_X10_operands, m_X10_digits, m_X10_takesDigit, m_X10_takes, m_X10_gives, trivial⟩ o_X10_takesEnds

/-! ===== the reference: the whole text is read ===== -/
/-- the reference's tokens are the reader's steps -/
def TokR (H r : Rw) : Prop := Box (H 62 15 = pS r ∧ ∀ t, 0 ≤ t → t < pS r → TkE (H 71 (3 * t)) (H 71 (3 * t + 1)) (H 71 (3 * t + 2)) (r 52 t) (r 53 t) (r 54 t))
theorem TxO.q {H H' s s' : Rw} (z : TxO s) (a : TeQ H s) (b : TeQ H' s') (f : FrT H H') : TxO s' := by
  obtain ⟨a1, a2, a3, a4⟩ := a.o
  obtain ⟨b1, b2, b3, b4⟩ := b.o
  have f6 := f.o.2 6 (by decide) (by decide) (by decide) (by decide)
  have f66 := f.o.1 66 (by decide) (by decide) (by decide) (by decide)
  refine Box.i fun k k0 k1 => ?_
  have c := b4 k k0 k1
  rw [f66, a4 k k0 (by omega)] at c
  rw [← c]
  exact z.o k k0 (by omega)
/-- the whole is read: what comes behind it -/
theorem wh0 {s : Rw} (hg : Gd s) (hw : whS s) (hz : TxO s) (x : tA s (spk s (pP s)) = -1) : fin s = skS s ∧ rdA (fin s) = -1 := by
  have rg := nd_rng hg
  have f := fin_sk hg
  have q : ¬ pP (skS s) < skS s 49 1 := fun q => by
    have y : spk s (pP s) < s 49 1 := q
    have w := (hz.o (spk s (pP s)) (by have := hg.o.2.2.2.1; omega) y).1
    unfold tA at x
    rw [if_pos ⟨by have := hg.o.2.2.2.1; omega, y⟩] at x
    omega
  have e : fin s = skS s := f.2.symm.trans (fin_stop (Or.inr q))
  refine ⟨e, ?_⟩
  rw [e]
  unfold rdA
  have h1 : pE (skS s) = -1 := hg.o.1
  have h2 : whS (skS s) := hw
  rw [if_neg (fun z => z h1), if_pos h2]
theorem wh1 {s : Rw} (hg : Gd s) (hw : whS s) (x : tA s (spk s (pP s)) ≠ -1) : rdA (fin s) = spk s (pP s) ∧ 0 ≤ spk s (pP s) := by
  have rg := nd_rng hg
  have g4 := hg.o.2.2.2.1
  refine nd_err hg x ?_ (by omega)
  have t : tnS (skS s) = bdS (skS s) := by
    have a1 : tA (skS s) (pP (skS s)) = tA s (spk s (pP s)) := rfl
    have h2 : whS (skS s) := hw
    unfold tnS
    rw [a1, if_neg (spk_ne s (pP s)), if_pos h2]
  rw [t]
  exact bdE _
def RdQ (h : Hp) (q : Rw) (m : Nat) (vs : List AV) (g : Hp) : Prop := ∃ H : Rw, g = wI h H ∧ FrT (hI h) H ∧ ((∃ b, vs = [.inr (.inr (some 62)), .inl 0, .inl b] ∧ (H 62 19 = rdA (fin q) ∧ 0 ≤ H 62 19) ∧ m = 0) ∨
  (∃ s, fin s = fin q ∧ CrR H s 0 ∧ Gd s ∧ TxO s ∧ ((vs = [.inr (.inr (some 62)), .inl 1, .inl 0] ∧ wtS s ∧ ¬ whS s ∧ m = (121 - pP s).toNat + 1) ∨ (vs = [.inr (.inr (some 62)), .inl 1, .inl 1] ∧ whS s ∧ m = 0))))
theorem RdQ.no {h : Hp} {H q : Rw} {b : Int} {m : Nat} (hF : FrT (hI h) H) (e : H 62 19 = rdA (fin q)) (e0 : 0 ≤ H 62 19) : ∃ k', k' < m + 1 ∧ RdQ h q k' [.inr (.inr (some 62)), .inl 0, .inl b] (wI h H) :=
  ⟨0, by omega, H, rfl, hF, Or.inl ⟨b, rfl, ⟨e, e0⟩, rfl⟩⟩
theorem RdQ.go {h : Hp} {H q s S : Rw} (hF : FrT (hI h) H) (hg : Gd s) (lt : pP s < pP S) (e : fin S = fin q) (hC : CrR H S 0) (hG : Gd S) (hz : TxO S) (hw : wtS S) (hn : 0 < pO S) : ∃ k', k' < (121 - pP s).toNat + 1 ∧ RdQ h q k' [.inr (.inr (some 62)), .inl 1, .inl 0] (wI h H) := by
  have g := hg.o
  have g2 := hG.o
  exact ⟨_, by omega, H, rfl, hF, Or.inr ⟨S, e, hC, hG, hz, Or.inl ⟨rfl, hw, fun q => by omega, rfl⟩⟩⟩
theorem RdQ.wh {h : Hp} {H q S : Rw} {m : Nat} (hF : FrT (hI h) H) (e : fin S = fin q) (hC : CrR H S 0) (hG : Gd S) (hz : TxO S) (hw : whS S) : ∃ k', k' < m + 1 ∧ RdQ h q k' [.inr (.inr (some 62)), .inl 1, .inl 1] (wI h H) :=
  ⟨0, by omega, H, rfl, hF, Or.inr ⟨S, e, hC, hG, hz, Or.inr ⟨rfl, hw, rfl⟩⟩⟩
theorem EnI.a {H H' s s' : Rw} (n : NdB H' s s') (z : TxO s) (T : TeQ H s) (f : FrT H H') (o : 0 < H' 62 18) : EnI (ur H' 73 (up (H' 73) (H' 62 18 - 1) (H' 73 (H' 62 18 - 1) + 1))) s' s' := by
  obtain ⟨n1, n2, n3, n4, n5, n6, n7⟩ := n.o
  have e := n5.o.2.2.1
  have g := n5.got (by omega)
  rw [← e] at g
  exact Box.i ⟨n1, rfl, g, n6, n7, z.q T n5.o.1 f, Int.le_refl _⟩
theorem EnI.b {H H' s s' : Rw} (n : NdB H' s s') (z : TxO s) (T : TeQ H s) (f : FrT H H') (o : H' 62 18 ≤ 0) : EnI H' s' s' := by
  obtain ⟨n1, n2, n3, n4, n5, n6, n7⟩ := n.o
  have e := n5.o.2.2.1
  exact Box.i ⟨n1, rfl, n5.got0 (by omega), n6, n7, z.q T n5.o.1 f, Int.le_refl _⟩
/-- a leaf, then an error behind it -/
theorem rd_n1 {h : Hp} {H H1 H2 q s s' : Rw} {b : Int} {U : Int → Int} (hF : FrT (hI h) H) (fs : fin s = fin q) (n : NdB H1 s s') (f1 : FrT H H1) (f2 : FrT (ur H1 73 U) H2) (e : H2 62 19 = rdA (fin s')) (e0 : 0 ≤ H2 62 19) {m : Nat} : ∃ k', k' < m + 1 ∧ RdQ h q k' [.inr (.inr (some 62)), .inl 0, .inl b] (wI h H2) :=
  RdQ.no ((hF.tr f1).e2.tr f2) (by rw [e, n.o.2.1, fs]) e0
theorem rd_n2 {h : Hp} {H H1 H2 q s s' : Rw} {b : Int} (hF : FrT (hI h) H) (fs : fin s = fin q) (n : NdB H1 s s') (f1 : FrT H H1) (f2 : FrT H1 H2) (e : H2 62 19 = rdA (fin s')) (e0 : 0 ≤ H2 62 19) {m : Nat} : ∃ k', k' < m + 1 ∧ RdQ h q k' [.inr (.inr (some 62)), .inl 0, .inl b] (wI h H2) :=
  RdQ.no ((hF.tr f1).tr f2) (by rw [e, n.o.2.1, fs]) e0
theorem rd_y {h : Hp} {H2 q s s' S : Rw} (hF : FrT (hI h) H2) (hG : Gd s) (fs : fin s = fin q) (lt : pP s < pP s') (f : fin s' = fin s) (w : EnW H2 s' S) :
    (H2 62 18 = 0 → ∃ k', k' < (121 - pP s).toNat + 1 ∧ RdQ h q k' [.inr (.inr (some 62)), .inl 1, .inl 1] (wI h H2)) ∧ (H2 62 18 ≠ 0 → ∃ k', k' < (121 - pP s).toNat + 1 ∧ RdQ h q k' [.inr (.inr (some 62)), .inl 1, .inl 0] (wI h H2)) := by
  obtain ⟨⟨_, w1, w2, w3, w4, w5, w6, w7⟩, ww⟩ := w.o
  have e := w3.o.2.2.1
  have o0 := w1.o.2.2.2.2.2.2.o.2.1
  exact ⟨fun z => RdQ.wh hF (w2.trans (f.trans fs)) w3 w1 w6 ⟨by omega, w4⟩, fun z => RdQ.go hF hG (by omega) (w2.trans (f.trans fs)) w3 w1 w6 ww (by omega)⟩
theorem rd_y1 {h : Hp} {H H1 H2 q s s' S : Rw} {U : Int → Int} (hF : FrT (hI h) H) (hG : Gd s) (fs : fin s = fin q) (n : NdB H1 s s') (f1 : FrT H H1) (f2 : FrT (ur H1 73 U) H2) (w : EnW H2 s' S) :
    (H2 62 18 = 0 → ∃ k', k' < (121 - pP s).toNat + 1 ∧ RdQ h q k' [.inr (.inr (some 62)), .inl 1, .inl 1] (wI h H2)) ∧ (H2 62 18 ≠ 0 → ∃ k', k' < (121 - pP s).toNat + 1 ∧ RdQ h q k' [.inr (.inr (some 62)), .inl 1, .inl 0] (wI h H2)) :=
  rd_y ((hF.tr f1).e2.tr f2) hG fs n.o.2.2.1 n.o.2.1 w
theorem rd_y2 {h : Hp} {H H1 H2 q s s' S : Rw} (hF : FrT (hI h) H) (hG : Gd s) (fs : fin s = fin q) (n : NdB H1 s s') (f1 : FrT H H1) (f2 : FrT H1 H2) (w : EnW H2 s' S) :
    (H2 62 18 = 0 → ∃ k', k' < (121 - pP s).toNat + 1 ∧ RdQ h q k' [.inr (.inr (some 62)), .inl 1, .inl 1] (wI h H2)) ∧ (H2 62 18 ≠ 0 → ∃ k', k' < (121 - pP s).toNat + 1 ∧ RdQ h q k' [.inr (.inr (some 62)), .inl 1, .inl 0] (wI h H2)) :=
  rd_y ((hF.tr f1).tr f2) hG fs n.o.2.2.1 n.o.2.1 w
theorem rd_a {h : Hp} {H H1 q s s' : Rw} (hF : FrT (hI h) H) (hG : Gd s) (fs : fin s = fin q) (z : TxO s) (T : TeQ H s) (n : NdA H1 s s') (f1 : FrT H H1) : ∃ k', k' < (121 - pP s).toNat + 1 ∧ RdQ h q k' [.inr (.inr (some 62)), .inl 1, .inl 0] (wI h H1) := by
  obtain ⟨n1, n2, n3, n4, n5, n6⟩ := n.o
  have o0 := hG.o.2.2.2.2.2.2.o.2.1
  exact RdQ.go (hF.tr f1) hG n3 (n2.trans fs) n5 n1 (z.q T n5.o.1 f1) n6 (by omega)
theorem st_CrR {K r : Rw} (hT : TeQ K r) {F : Int → Int} (h6 : F 6 = K 62 6) (h15 : F 15 = 0) (h18 : F 18 = 0) (h19 : F 19 = 0) : CrR (ur K 62 F) (stR r) 0 := by
  obtain ⟨t1, t2, t3, t4⟩ := hT.o
  have a1 : pP (stR r) = 0 := rfl
  have a2 : pS (stR r) = 0 := rfl
  have a3 : pO (stR r) = 0 := rfl
  have a4 : stR r 49 = r 49 := rfl
  have a5 : stR r 50 = r 50 := rfl
  unfold CrR TeQ
  rw [a1, a2, a3, a4, a5, ur_self, h6, h15, h18, h19, ur_ne (by decide)]
  exact Box.i ⟨Box.i ⟨t1, t2, t3, t4⟩, rfl, rfl, rfl, fun i i0 i1 => by omega, fun i i0 i1 => by omega⟩
def s_X10_reads : CS := (zc 6, ap [(3, 62)] (fun  h Rt X =>
∃ r, TeQ (hI h) r ∧ TxO r ∧ (∀ H, FrT (hI h) H → (rdA (fin (stR r)) = -1 → TokR H (fin (stR r))) → Rt (some (.inl (rdA (fin (stR r))))) (wI h H))))
set_option maxRecDepth 100000 in
set_option maxHeartbeats 4000000 in
theorem o_X10_reads : Obl true 1 4 (sp [(274, s_X10_takesNode), (275, s_X10_takesEnds), (268, s_X10_skipped)]) [] code_X10_reads s_X10_reads := by
  refine oblL (by rfl) [(19, [0, 1, 2])] ?_
  intro  h Rt X hh hf hs
  obtain ⟨r, hT, hz, h3⟩ := hs
  obtain ⟨l0, l1, l2, l3⟩ := hT.o
  have g0 := stR_G (r := r) l1 l2
  refine ⟨fun m _ vs g => RdQ h (stR r) m vs g, ?_, ?_⟩
  · have C0 := st_CrR hT (F := up (up (up (hI h 62) 15 0) 18 0) 19 0) (by rw [up_ne (by decide), up_ne (by decide), up_ne (by decide)]) (by rw [up_ne (by decide), up_ne (by decide), up_self]) (by rw [up_ne (by decide), up_self]) (by rw [up_self])
    have F0 : FrT (hI h) (ur (hI h) 62 (up (up (up (hI h 62) 15 0) 18 0) 19 0)) := Box.i ⟨fun a h1 h2 h3 h4 => ur_ne h1, fun j h1 h2 h3 h4 => by rw [ur_self, up_ne h3, up_ne h2, up_ne h1]⟩
    have e : ∀ A B C, rI (rI (rI h 62 A) 62 B) 62 C = wI h (ur (hI h) 62 C) := fun A B C => by rw [rI_rI, rI_rI]; rfl
    exact Exists.intro _ ⟨_, e _ _ _, F0, Or.inr ⟨stR r, rfl, C0, g0, hz.c rfl rfl, Or.inl ⟨rfl, Or.inl rfl, fun q => absurd (show (0 : Int) < 0 from q.2) (by decide), rfl⟩⟩⟩
  · rintro m pc vs' vs g hl ⟨H, rfl, hF, ⟨b, rfl, hp, rfl⟩ | ⟨s, fs, hC, hG, hz1, ⟨rfl, hw, hn, rfl⟩ | ⟨rfl, hw, rfl⟩⟩⟩ hv hh1 hf1
    · obtain ⟨rfl, rfl⟩ := look1 hl
      have k := h3 H hF (fun q => by omega)
      rw [← hp.1] at k
      repeat' (first | apply And.intro | (with_reducible assumption) | (intro h9; first | (exfalso; omega) | (simp only [rI_rI, rJ_rJ, hI_rI, hJ_rI, hI_rJ, hJ_rJ, hI_rR, hR_rI, hR_rJ, hN_rI, hN_rJ, svH_63, svH_66, rfH_63, wvH_63, wvH_62, wvH_67, wvH_68, wvH_69, sc_63, sc_n62, sc_n67, sc_n68, sc_n69, sc_n70, reduceIte, Nat.reduceEqDiff, eq_self, up_up, up_self, up_ne, ne_eq, not_false_eq_true, Int.reduceEq, Int.reduceNeg, hI_wI] at h9; first | (exfalso; omega) | skip) | skip) | exact k | exact h3 | exact h3 (by omega) | omega | exact True.intro | (simp only [rI_rI, rJ_rJ, hI_rI, hJ_rI, hI_rJ, hJ_rJ, hI_rR, hR_rI, hR_rJ, hN_rI, hN_rJ, svH_63, svH_66, rfH_63, wvH_63, wvH_62, wvH_67, wvH_68, wvH_69, sc_63, sc_n62, sc_n67, sc_n68, sc_n69, sc_n70, reduceIte, Nat.reduceEqDiff, eq_self, up_up, up_self, up_ne, ne_eq, not_false_eq_true, Int.reduceEq, Int.reduceNeg, hI_wI]; omega))
    · obtain ⟨rfl, rfl⟩ := look1 hl
      have gs := hG.o
      have e18 := hC.o.2.2.1
      have o0 := hG.o.2.2.2.2.2.2.o.2.1
      have hB : Bgn s := Box.i ⟨hG, hw, hn, hz1⟩
      have N1 : ∀ H', FrT H H' → H' 62 19 = rdA (fin s) → 0 ≤ H' 62 19 → ∃ k', k' < (121 - pP s).toNat + 1 ∧ RdQ h (stR r) k' [.inr (.inr (some 62)), .inl 0, .inl 0] (wI h H') := fun H' f e e0 => RdQ.no (hF.tr f) (by rw [← fs]; exact e) e0
      have T0 : TeQ H s := hC.o.1
      repeat' (first | apply And.intro | (with_reducible assumption) | (intro h9; first | (exfalso; omega) | (simp only [rI_rI, rJ_rJ, hI_rI, hJ_rI, hI_rJ, hJ_rJ, hI_rR, hR_rI, hR_rJ, hN_rI, hN_rJ, svH_63, svH_66, rfH_63, wvH_63, wvH_62, wvH_67, wvH_68, wvH_69, sc_63, sc_n62, sc_n67, sc_n68, sc_n69, sc_n70, reduceIte, Nat.reduceEqDiff, eq_self, up_up, up_self, up_ne, ne_eq, not_false_eq_true, Int.reduceEq, Int.reduceNeg, hI_wI] at h9; first | (exfalso; omega) | skip) | skip) | (refine Exists.intro s ?_; refine And.intro hC (And.intro hB ?_)) | exact N1 _ (by assumption) (by assumption) (by assumption) | (refine Exists.intro _ (And.intro (EnI.a (by assumption) hz1 T0 (by assumption) (by assumption)) ?_)) | (refine Exists.intro _ (And.intro (EnI.b (by assumption) hz1 T0 (by assumption) (by assumption)) ?_)) | exact rd_n1 hF fs (by assumption) (by assumption) (by assumption) (by assumption) (by assumption) | exact rd_n2 hF fs (by assumption) (by assumption) (by assumption) (by assumption) (by assumption) | exact (rd_y1 hF hG fs (by assumption) (by assumption) (by assumption) (by assumption)).1 (by assumption) | exact (rd_y1 hF hG fs (by assumption) (by assumption) (by assumption) (by assumption)).2 (by assumption) | exact (rd_y2 hF hG fs (by assumption) (by assumption) (by assumption) (by assumption)).1 (by assumption) | exact (rd_y2 hF hG fs (by assumption) (by assumption) (by assumption) (by assumption)).2 (by assumption) | exact rd_a hF hG fs hz1 T0 (by assumption) (by assumption) | exact h3 | exact h3 (by omega) | omega | exact True.intro | (simp only [rI_rI, rJ_rJ, hI_rI, hJ_rI, hI_rJ, hJ_rJ, hI_rR, hR_rI, hR_rJ, hN_rI, hN_rJ, svH_63, svH_66, rfH_63, wvH_63, wvH_62, wvH_67, wvH_68, wvH_69, sc_63, sc_n62, sc_n67, sc_n68, sc_n69, sc_n70, reduceIte, Nat.reduceEqDiff, eq_self, up_up, up_self, up_ne, ne_eq, not_false_eq_true, Int.reduceEq, Int.reduceNeg, hI_wI]; omega))
    · obtain ⟨rfl, rfl⟩ := look1 hl
      have e19 := hC.o.2.1
      have rg := nd_rng hG
      have gs := hG.o
      have T0 : TeQ H s := hC.o.1
      have hF2 : FrT (hI h) (ur H 62 (up (H 62) 19 (spk s (H 62 19)))) := hF.tr (FrT.z (Pz.up _ _))
      by_cases x : tA s (spk s (H 62 19)) = -1
      · have w := wh0 hG hw hz1 (by rw [← e19]; exact x)
        have k := h3 (ur H 62 (up (H 62) 19 (spk s (H 62 19)))) hF2 (fun _ => by
          rw [← fs, w.1]
          have c4 := hC.o.2.2.2.1
          refine Box.i ⟨?_, ?_⟩
          · rw [ur_self, up_ne (by decide)]; exact c4
          · rw [ur_ne (by decide)]; exact hC.o.2.2.2.2.2)
        rw [← fs, w.2] at k
        repeat' (first | apply And.intro | (with_reducible assumption) | (intro h9; first | (exfalso; omega) | (simp only [rI_rI, rJ_rJ, hI_rI, hJ_rI, hI_rJ, hJ_rJ, hI_rR, hR_rI, hR_rJ, hN_rI, hN_rJ, svH_63, svH_66, rfH_63, wvH_63, wvH_62, wvH_67, wvH_68, wvH_69, sc_63, sc_n62, sc_n67, sc_n68, sc_n69, sc_n70, reduceIte, Nat.reduceEqDiff, eq_self, up_up, up_self, up_ne, ne_eq, not_false_eq_true, Int.reduceEq, Int.reduceNeg, hI_wI] at h9; first | (exfalso; omega) | skip) | skip) | refine Exists.intro s ?_ | exact T0 | exact absurd x (by assumption) | exact k | exact h3 | exact h3 (by omega) | omega | exact True.intro | (simp only [rI_rI, rJ_rJ, hI_rI, hJ_rI, hI_rJ, hJ_rJ, hI_rR, hR_rI, hR_rJ, hN_rI, hN_rJ, svH_63, svH_66, rfH_63, wvH_63, wvH_62, wvH_67, wvH_68, wvH_69, sc_63, sc_n62, sc_n67, sc_n68, sc_n69, sc_n70, reduceIte, Nat.reduceEqDiff, eq_self, up_up, up_self, up_ne, ne_eq, not_false_eq_true, Int.reduceEq, Int.reduceNeg, hI_wI]; omega))
      · have w := wh1 hG hw (by rw [← e19]; exact x)
        have k := h3 (ur H 62 (up (H 62) 19 (spk s (H 62 19)))) hF2 (fun q => by rw [← fs, w.1] at q; omega)
        rw [← fs, w.1, ← e19] at k
        repeat' (first | apply And.intro | (with_reducible assumption) | (intro h9; first | (exfalso; omega) | (simp only [rI_rI, rJ_rJ, hI_rI, hJ_rI, hI_rJ, hJ_rJ, hI_rR, hR_rI, hR_rJ, hN_rI, hN_rJ, svH_63, svH_66, rfH_63, wvH_63, wvH_62, wvH_67, wvH_68, wvH_69, sc_63, sc_n62, sc_n67, sc_n68, sc_n69, sc_n70, reduceIte, Nat.reduceEqDiff, eq_self, up_up, up_self, up_ne, ne_eq, not_false_eq_true, Int.reduceEq, Int.reduceNeg, hI_wI] at h9; first | (exfalso; omega) | skip) | skip) | refine Exists.intro s ?_ | exact T0 | exact absurd (by assumption) x | exact k | (simp only [rI_rI, rJ_rJ, hI_rI, hJ_rI, hI_rJ, hJ_rJ, hI_rR, hR_rI, hR_rJ, hN_rI, hN_rJ, svH_63, svH_66, rfH_63, wvH_63, wvH_62, wvH_67, wvH_68, wvH_69, sc_63, sc_n62, sc_n67, sc_n68, sc_n69, sc_n70, reduceIte, Nat.reduceEqDiff, eq_self, up_up, up_self, up_ne, ne_eq, not_false_eq_true, Int.reduceEq, Int.reduceNeg, hI_wI]; exact k) | exact h3 | exact h3 (by omega) | omega | exact True.intro | (simp only [rI_rI, rJ_rJ, hI_rI, hJ_rI, hI_rJ, hJ_rJ, hI_rR, hR_rI, hR_rJ, hN_rI, hN_rJ, svH_63, svH_66, rfH_63, wvH_63, wvH_62, wvH_67, wvH_68, wvH_69, sc_63, sc_n62, sc_n67, sc_n68, sc_n69, sc_n70, reduceIte, Nat.reduceEqDiff, eq_self, up_up, up_self, up_ne, ne_eq, not_false_eq_true, Int.reduceEq, Int.reduceNeg, hI_wI]; omega))
theorem m_X10_reads : MM 276 s_X10_reads := mm_of (own := 9) (by rfl) k_X10_reads (cl := [(274, s_X10_takesNode), (275, s_X10_takesEnds), (268, s_X10_skipped)]) ⟨m_X10_takesNode, m_X10_takesEnds, m_X10_skipped, trivial⟩ o_X10_reads
def s_X10_syntaxError : CS := (zc 7, ap [(3, 62)] (fun  h Rt X =>
∃ r, TeQ (hI h) r ∧ TxO r ∧ (∀ H, FrT (hI (rfH h 0)) H → Rt (some (.inl (rdA (fin (stR r))))) (wI h H))))
set_option maxRecDepth 100000 in
set_option maxHeartbeats 4000000 in
theorem o_X10_syntaxError : Obl true 1 1 (sp [(276, s_X10_reads)]) [] code_X10_syntaxError s_X10_syntaxError := by
  refine obl0 (by rfl) ?_
  intro  h Rt X hh hf hs
  obtain ⟨r, hT, hz, h3⟩ := hs
  have T0 : TeQ (hI (rfH h 0)) r := Box.i hT.o
  repeat' (first | apply And.intro | (with_reducible assumption) | (intro h9; first | (exfalso; omega) | (simp only [rI_rI, rJ_rJ, hI_rI, hJ_rI, hI_rJ, hJ_rJ, hI_rR, hR_rI, hR_rJ, hN_rI, hN_rJ, svH_63, svH_66, rfH_63, wvH_63, wvH_62, wvH_67, wvH_68, wvH_69, sc_63, sc_n62, sc_n67, sc_n68, sc_n69, sc_n70, reduceIte, Nat.reduceEqDiff, eq_self, up_up, up_self, up_ne, ne_eq, not_false_eq_true, Int.reduceEq, Int.reduceNeg, hI_wI] at h9; first | (exfalso; omega) | skip) | skip) | refine Exists.intro r ?_ | exact T0 | exact h3 _ (by assumption) | exact h3 | exact h3 (by omega) | omega | exact True.intro | (simp only [rI_rI, rJ_rJ, hI_rI, hJ_rI, hI_rJ, hJ_rJ, hI_rR, hR_rI, hR_rJ, hN_rI, hN_rJ, svH_63, svH_66, rfH_63, wvH_63, wvH_62, wvH_67, wvH_68, wvH_69, sc_63, sc_n62, sc_n67, sc_n68, sc_n69, sc_n70, reduceIte, Nat.reduceEqDiff, eq_self, up_up, up_self, up_ne, ne_eq, not_false_eq_true, Int.reduceEq, Int.reduceNeg, hI_wI]; omega))
theorem m_X10_syntaxError : MM 277 s_X10_syntaxError := mm_of (own := 9) (by rfl) k_X10_syntaxError (cl := [(276, s_X10_reads)]) ⟨m_X10_reads, trivial⟩ o_X10_syntaxError

/-! ===== the reference: the whole text is read ===== -/
/-- the reference's tokens are the reader's steps -/
def TokR (H r : Rw) : Prop := Box (H 62 15 = pS r ∧ ∀ t, 0 ≤ t → t < pS r → TkE (H 71 (3 * t)) (H 71 (3 * t + 1)) (H 71 (3 * t + 2)) (r 52 t) (r 53 t) (r 54 t))
theorem TxO.q {H H' s s' : Rw} (z : TxO s) (a : TeQ H s) (b : TeQ H' s') (f : FrT H H') : TxO s' := by
  obtain ⟨a1, a2, a3, a4⟩ := a.o
  obtain ⟨b1, b2, b3, b4⟩ := b.o
  have f6 := f.o.2 6 (by decide) (by decide) (by decide) (by decide)
  have f66 := f.o.1 66 (by decide) (by decide) (by decide) (by decide)
  refine Box.i fun k k0 k1 => ?_
  have c := b4 k k0 k1
  rw [f66, a4 k k0 (by omega)] at c
  rw [← c]
  exact z.o k k0 (by omega)
/-- the whole is read: what comes behind it -/
theorem wh0 {s : Rw} (hg : Gd s) (hw : whS s) (hz : TxO s) (x : tA s (spk s (pP s)) = -1) : fin s = skS s ∧ rdA (fin s) = -1 := by
  have rg := nd_rng hg
  have f := fin_sk hg
  have q : ¬ pP (skS s) < skS s 49 1 := fun q => by
    have y : spk s (pP s) < s 49 1 := q
    have w := (hz.o (spk s (pP s)) (by have := hg.o.2.2.2.1; omega) y).1
    unfold tA at x
    rw [if_pos ⟨by have := hg.o.2.2.2.1; omega, y⟩] at x
    omega
  have e : fin s = skS s := f.2.symm.trans (fin_stop (Or.inr q))
  refine ⟨e, ?_⟩
  rw [e]
  unfold rdA
  have h1 : pE (skS s) = -1 := hg.o.1
  have h2 : whS (skS s) := hw
  rw [if_neg (fun z => z h1), if_pos h2]
theorem wh1 {s : Rw} (hg : Gd s) (hw : whS s) (x : tA s (spk s (pP s)) ≠ -1) : rdA (fin s) = spk s (pP s) ∧ 0 ≤ spk s (pP s) := by
  have rg := nd_rng hg
  have g4 := hg.o.2.2.2.1
  refine nd_err hg x ?_ (by omega)
  have t : tnS (skS s) = bdS (skS s) := by
    have a1 : tA (skS s) (pP (skS s)) = tA s (spk s (pP s)) := rfl
    have h2 : whS (skS s) := hw
    unfold tnS
    rw [a1, if_neg (spk_ne s (pP s)), if_pos h2]
  rw [t]
  exact bdE _
def RdQ (h : Hp) (q : Rw) (m : Nat) (vs : List AV) (g : Hp) : Prop := ∃ H : Rw, g = wI h H ∧ FrT (hI h) H ∧ ((∃ b, vs = [.inr (.inr (some 62)), .inl 0, .inl b] ∧ (H 62 19 = rdA (fin q) ∧ 0 ≤ H 62 19) ∧ m = 0) ∨
  (∃ s, fin s = fin q ∧ CrR H s 0 ∧ Gd s ∧ TxO s ∧ ((vs = [.inr (.inr (some 62)), .inl 1, .inl 0] ∧ wtS s ∧ ¬ whS s ∧ m = (121 - pP s).toNat + 1) ∨ (vs = [.inr (.inr (some 62)), .inl 1, .inl 1] ∧ whS s ∧ m = 0))))
theorem RdQ.no {h : Hp} {H q : Rw} {b : Int} {m : Nat} (hF : FrT (hI h) H) (e : H 62 19 = rdA (fin q)) (e0 : 0 ≤ H 62 19) : ∃ k', k' < m + 1 ∧ RdQ h q k' [.inr (.inr (some 62)), .inl 0, .inl b] (wI h H) :=
  ⟨0, by omega, H, rfl, hF, Or.inl ⟨b, rfl, ⟨e, e0⟩, rfl⟩⟩
theorem RdQ.go {h : Hp} {H q s S : Rw} (hF : FrT (hI h) H) (hg : Gd s) (lt : pP s < pP S) (e : fin S = fin q) (hC : CrR H S 0) (hG : Gd S) (hz : TxO S) (hw : wtS S) (hn : 0 < pO S) : ∃ k', k' < (121 - pP s).toNat + 1 ∧ RdQ h q k' [.inr (.inr (some 62)), .inl 1, .inl 0] (wI h H) := by
  have g := hg.o
  have g2 := hG.o
  exact ⟨_, by omega, H, rfl, hF, Or.inr ⟨S, e, hC, hG, hz, Or.inl ⟨rfl, hw, fun q => by omega, rfl⟩⟩⟩
theorem RdQ.wh {h : Hp} {H q S : Rw} {m : Nat} (hF : FrT (hI h) H) (e : fin S = fin q) (hC : CrR H S 0) (hG : Gd S) (hz : TxO S) (hw : whS S) : ∃ k', k' < m + 1 ∧ RdQ h q k' [.inr (.inr (some 62)), .inl 1, .inl 1] (wI h H) :=
  ⟨0, by omega, H, rfl, hF, Or.inr ⟨S, e, hC, hG, hz, Or.inr ⟨rfl, hw, rfl⟩⟩⟩
theorem EnI.a {H H' s s' : Rw} (n : NdB H' s s') (z : TxO s) (T : TeQ H s) (f : FrT H H') (o : 0 < H' 62 18) : EnI (ur H' 73 (up (H' 73) (H' 62 18 - 1) (H' 73 (H' 62 18 - 1) + 1))) s' s' := by
  obtain ⟨n1, n2, n3, n4, n5, n6, n7⟩ := n.o
  have e := n5.o.2.2.1
  have g := n5.got (by omega)
  rw [← e] at g
  exact Box.i ⟨n1, rfl, g, n6, n7, z.q T n5.o.1 f, Int.le_refl _⟩
theorem EnI.b {H H' s s' : Rw} (n : NdB H' s s') (z : TxO s) (T : TeQ H s) (f : FrT H H') (o : H' 62 18 ≤ 0) : EnI H' s' s' := by
  obtain ⟨n1, n2, n3, n4, n5, n6, n7⟩ := n.o
  have e := n5.o.2.2.1
  exact Box.i ⟨n1, rfl, n5.got0 (by omega), n6, n7, z.q T n5.o.1 f, Int.le_refl _⟩
/-- a leaf, then an error behind it -/
theorem rd_n1 {h : Hp} {H H1 H2 q s s' : Rw} {b : Int} {U : Int → Int} (hF : FrT (hI h) H) (fs : fin s = fin q) (n : NdB H1 s s') (f1 : FrT H H1) (f2 : FrT (ur H1 73 U) H2) (e : H2 62 19 = rdA (fin s')) (e0 : 0 ≤ H2 62 19) {m : Nat} : ∃ k', k' < m + 1 ∧ RdQ h q k' [.inr (.inr (some 62)), .inl 0, .inl b] (wI h H2) :=
  RdQ.no ((hF.tr f1).e2.tr f2) (by rw [e, n.o.2.1, fs]) e0
theorem rd_n2 {h : Hp} {H H1 H2 q s s' : Rw} {b : Int} (hF : FrT (hI h) H) (fs : fin s = fin q) (n : NdB H1 s s') (f1 : FrT H H1) (f2 : FrT H1 H2) (e : H2 62 19 = rdA (fin s')) (e0 : 0 ≤ H2 62 19) {m : Nat} : ∃ k', k' < m + 1 ∧ RdQ h q k' [.inr (.inr (some 62)), .inl 0, .inl b] (wI h H2) :=
  RdQ.no ((hF.tr f1).tr f2) (by rw [e, n.o.2.1, fs]) e0
theorem rd_y {h : Hp} {H2 q s s' S : Rw} (hF : FrT (hI h) H2) (hG : Gd s) (fs : fin s = fin q) (lt : pP s < pP s') (f : fin s' = fin s) (w : EnW H2 s' S) :
    (H2 62 18 = 0 → ∃ k', k' < (121 - pP s).toNat + 1 ∧ RdQ h q k' [.inr (.inr (some 62)), .inl 1, .inl 1] (wI h H2)) ∧ (H2 62 18 ≠ 0 → ∃ k', k' < (121 - pP s).toNat + 1 ∧ RdQ h q k' [.inr (.inr (some 62)), .inl 1, .inl 0] (wI h H2)) := by
  obtain ⟨⟨_, w1, w2, w3, w4, w5, w6, w7⟩, ww⟩ := w.o
  have e := w3.o.2.2.1
  have o0 := w1.o.2.2.2.2.2.2.o.2.1
  exact ⟨fun z => RdQ.wh hF (w2.trans (f.trans fs)) w3 w1 w6 ⟨by omega, w4⟩, fun z => RdQ.go hF hG (by omega) (w2.trans (f.trans fs)) w3 w1 w6 ww (by omega)⟩
theorem rd_y1 {h : Hp} {H H1 H2 q s s' S : Rw} {U : Int → Int} (hF : FrT (hI h) H) (hG : Gd s) (fs : fin s = fin q) (n : NdB H1 s s') (f1 : FrT H H1) (f2 : FrT (ur H1 73 U) H2) (w : EnW H2 s' S) :
    (H2 62 18 = 0 → ∃ k', k' < (121 - pP s).toNat + 1 ∧ RdQ h q k' [.inr (.inr (some 62)), .inl 1, .inl 1] (wI h H2)) ∧ (H2 62 18 ≠ 0 → ∃ k', k' < (121 - pP s).toNat + 1 ∧ RdQ h q k' [.inr (.inr (some 62)), .inl 1, .inl 0] (wI h H2)) :=
  rd_y ((hF.tr f1).e2.tr f2) hG fs n.o.2.2.1 n.o.2.1 w
theorem rd_y2 {h : Hp} {H H1 H2 q s s' S : Rw} (hF : FrT (hI h) H) (hG : Gd s) (fs : fin s = fin q) (n : NdB H1 s s') (f1 : FrT H H1) (f2 : FrT H1 H2) (w : EnW H2 s' S) :
    (H2 62 18 = 0 → ∃ k', k' < (121 - pP s).toNat + 1 ∧ RdQ h q k' [.inr (.inr (some 62)), .inl 1, .inl 1] (wI h H2)) ∧ (H2 62 18 ≠ 0 → ∃ k', k' < (121 - pP s).toNat + 1 ∧ RdQ h q k' [.inr (.inr (some 62)), .inl 1, .inl 0] (wI h H2)) :=
  rd_y ((hF.tr f1).tr f2) hG fs n.o.2.2.1 n.o.2.1 w
theorem rd_a {h : Hp} {H H1 q s s' : Rw} (hF : FrT (hI h) H) (hG : Gd s) (fs : fin s = fin q) (z : TxO s) (T : TeQ H s) (n : NdA H1 s s') (f1 : FrT H H1) : ∃ k', k' < (121 - pP s).toNat + 1 ∧ RdQ h q k' [.inr (.inr (some 62)), .inl 1, .inl 0] (wI h H1) := by
  obtain ⟨n1, n2, n3, n4, n5, n6⟩ := n.o
  have o0 := hG.o.2.2.2.2.2.2.o.2.1
  exact RdQ.go (hF.tr f1) hG n3 (n2.trans fs) n5 n1 (z.q T n5.o.1 f1) n6 (by omega)
theorem st_CrR {K r : Rw} (hT : TeQ K r) {F : Int → Int} (h6 : F 6 = K 62 6) (h15 : F 15 = 0) (h18 : F 18 = 0) (h19 : F 19 = 0) : CrR (ur K 62 F) (stR r) 0 := by
  obtain ⟨t1, t2, t3, t4⟩ := hT.o
  have a1 : pP (stR r) = 0 := rfl
  have a2 : pS (stR r) = 0 := rfl
  have a3 : pO (stR r) = 0 := rfl
  have a4 : stR r 49 = r 49 := rfl
  have a5 : stR r 50 = r 50 := rfl
  unfold CrR TeQ
  rw [a1, a2, a3, a4, a5, ur_self, h6, h15, h18, h19, ur_ne (by decide)]
  exact Box.i ⟨Box.i ⟨t1, t2, t3, t4⟩, rfl, rfl, rfl, fun i i0 i1 => by omega, fun i i0 i1 => by omega⟩
/-! ===== the reference: parentheses end ===== -/
theorem pzN {F G : Int → Int} {p : Int} (g : Pz F p G) : G 19 = p ∧ G 15 = F 15 ∧ G 18 = F 18 := ⟨g.o.1, g.o.2 15 (by decide) (by decide), g.o.2 18 (by decide) (by decide)⟩
theorem pdN {F G : Int → Int} {p d : Int} (g : Pd F p d G) : G 19 = p ∧ G 15 = F 15 ∧ G 18 = F 18 ∧ G 20 = d := ⟨g.o.1, g.o.2.2 15 (by decide) (by decide), g.o.2.2 18 (by decide) (by decide), g.o.2.1⟩
theorem dB1 {s : Rw} {F G : Int → Int} {d q : Int} (h : isD (tA s q)) (g : Pd F (q + 1) d G) : 0 ≤ G 19 := by
  have := tA_rng h
  rw [g.o.1]
  omega
theorem dB2 {s : Rw} {F G : Int → Int} {d q : Int} (h : isD (tA s q)) (g : Pd F (q + 1) d G) : G 19 ≤ s 49 1 := by
  have := tA_rng h
  rw [g.o.1]
  omega
def EnQ (h : Hp) (r : Rw) (m : Nat) (vs : List AV) (g : Hp) : Prop := ∃ H : Rw, g = wI h H ∧ FrT (hI h) H ∧ ((vs = [.inr (.inr (some 62)), .inl 0] ∧ (H 62 19 = rdA (fin r) ∧ 0 ≤ H 62 19) ∧ m = 0) ∨ (∃ s, vs = [.inr (.inr (some 62)), .inl 1] ∧ EnI H r s ∧ m = (121 - pP s).toNat))
theorem EnQ.no {h : Hp} {H H' r s : Rw} (hE : EnI H r s) (hF : FrT (hI h) H') (e : H' 62 19 = rdA (fin s)) (e0 : 0 ≤ H' 62 19) : ∃ k', k' < (121 - pP s).toNat ∧ EnQ h r k' [.inr (.inr (some 62)), .inl 0] (wI h H') := by
  have g := hE.o.1.o
  exact ⟨0, by omega, H', rfl, hF, Or.inl ⟨rfl, ⟨by rw [e, hE.o.2.1], e0⟩, rfl⟩⟩
theorem EnQ.ok {h : Hp} {H H' r s S : Rw} (hE : EnI H r s) (hF : FrT (hI h) H') (hE' : EnI H' r S) (lt : pP s < pP S) : ∃ k', k' < (121 - pP s).toNat ∧ EnQ h r k' [.inr (.inr (some 62)), .inl 1] (wI h H') := by
  have g := hE.o.1.o
  have g2 := hE'.o.1.o
  exact ⟨_, by omega, H', rfl, hF, Or.inr ⟨S, rfl, hE', rfl⟩⟩
theorem FrT.e1 {K H : Rw} {F T : Int → Int} {e q q2 : Int} (hF : FrT K H) (z : Pz (H 62) e F) : FrT K (ur (ur (ur H 62 F) 71 T) 62 (up (up F 15 q) 18 q2)) := hF.tr (Box.i ⟨fun a h1 h2 h3 h4 => by rw [ur_ne h1, ur_ne h2, ur_ne h1], fun j h1 h2 h3 h4 => by rw [ur_self, up_ne h2, up_ne h1]; exact z.o.2 j h3 h4⟩)
theorem FrT.e2 {K H : Rw} {U : Int → Int} (hF : FrT K H) : FrT K (ur H 73 U) := hF.tr (Box.i ⟨fun a h1 h2 h3 h4 => ur_ne h4, fun j h1 h2 h3 h4 => by rw [ur_ne (by decide)]⟩)
theorem en_n1 {h : Hp} {H r s : Rw} {F T : Int → Int} {e q q2 : Int} (hE : EnI H r s) (hF : FrT (hI h) H) (z : Pz (H 62) e F) (he : Er s e) : ∃ k', k' < (121 - pP s).toNat ∧ EnQ h r k' [.inr (.inr (some 62)), .inl 0] (rI (rI (rI (wI h H) 62 F) 71 T) 62 (up (up F 15 q) 18 q2)) :=
  EnQ.no (H' := ur (ur (ur H 62 F) 71 T) 62 (up (up F 15 q) 18 q2)) hE (hF.e1 z) (by rw [ur_self, up_ne (by decide), up_ne (by decide), z.o.1, he.1]) (by rw [ur_self, up_ne (by decide), up_ne (by decide), z.o.1]; exact he.2)
theorem en_n2 {h : Hp} {H r s : Rw} {F T U : Int → Int} {e q q2 : Int} (hE : EnI H r s) (hF : FrT (hI h) H) (z : Pz (H 62) e F) (he : Er s e) : ∃ k', k' < (121 - pP s).toNat ∧ EnQ h r k' [.inr (.inr (some 62)), .inl 0] (rI (rI (rI (rI (wI h H) 62 F) 71 T) 62 (up (up F 15 q) 18 q2)) 73 U) :=
  EnQ.no (H' := ur (ur (ur (ur H 62 F) 71 T) 62 (up (up F 15 q) 18 q2)) 73 U) hE (hF.e1 z).e2 (by rw [ur_ne (by decide), ur_self, up_ne (by decide), up_ne (by decide), z.o.1, he.1]) (by rw [ur_ne (by decide), ur_self, up_ne (by decide), up_ne (by decide), z.o.1]; exact he.2)
def EnY (h : Hp) (H r s : Rw) (F : Int → Int) (k x y q q1 q2 : Int) : Prop :=
    (¬ 0 < q2 - 1 → ∃ k', k' < (121 - pP s).toNat ∧ EnQ h r k' [.inr (.inr (some 62)), .inl 1] (rI (rI (rI (wI h H) 62 F) 71 (tkF (H 71) q k x y)) 62 (up (up F 15 (q1 + 1)) 18 (q2 - 1)))) ∧
    (0 < q2 - 1 → ∃ k', k' < (121 - pP s).toNat ∧ EnQ h r k' [.inr (.inr (some 62)), .inl 1] (rI (rI (rI (rI (wI h H) 62 F) 71 (tkF (H 71) q k x y)) 62 (up (up F 15 (q1 + 1)) 18 (q2 - 1))) 73 (up (H 73) (q2 - 1 - 1) (H 73 (q2 - 1 - 1) + 1))))
theorem dgX.c {r s : Rw} (h : SmR r s) {p e : Int} (x : dgX r p e) : dgX s p e := by
  unfold dgX
  rw [h.t, h.k]
  exact x
theorem en_y {h : Hp} {H r s s1 : Rw} {F : Int → Int} {k n x y q q1 q2 : Int} (hE : EnI H r s) (hH : FrT (hI h) H) (hf : Fl s1) (f1 : fin s1 = fin s) (lt : pP s ≤ pP s1) (S1 : SmR s s1) (z7 : ¬ 0 < s1 57 (pO s1 - 1)) (hk : s1 55 (pO s1 - 1) = k) (hn : s1 58 (pO s1 - 1) = n) (tk : TkE k x y k n (-1)) (hc : tA s1 (spk s1 (pP s1)) = 41)
    (z : Pz (H 62) (spk s1 (pP s1) + 1) F) (hq : q = H 62 15) (hq1 : q1 = H 62 15) (hq2 : q2 = H 62 18) :
    EnY h H r s F k x y q q1 q2 := by
  obtain ⟨e1, e2, e3, e4, e5, e6, e7⟩ := hE.o
  obtain ⟨hg, o1, b0, hz⟩ := hf.o
  have c := cl1 hf z7 hc
  obtain ⟨c1, c2, c3, c4, c5, c6, c7, c8⟩ := c
  have s0 := hg.o.2.2.2.2.2.2.o.1
  have a3 := e3.o.2.2.1
  have a4 := e3.o.2.2.2.1
  have s8 := S1.2.2.2.2.2.2.2.1
  have s9 := S1.2.2.2.2.2.2.2.2
  have z1 := e3.z (Pz.up (H 62) (pP s1)) S1 rfl
  have z2 := z1.pop
  have C := z2.ad2 (H' := ur (ur (ur H 62 F) 71 (tkF (H 71) q k x y)) 62 (up (up F 15 (q1 + 1)) 18 (q2 - 1))) (s := sF (avS (skS s1)) 11 (pO s1 - 1)) (k := k) (n := n) (w := -1) (x := x) (y := y) s0 ⟨rfl, rfl, rfl, rfl, rfl, rfl, rfl, rfl, rfl⟩ tk ⟨by
      rw [ur_self, ur_self, ur_self, up_ne (by decide), up_ne (by decide), up_ne (by decide), up_ne (by decide)]
      exact z.o.2 6 (by decide) (by decide), by
      rw [ur_ne (by decide), ur_ne (by decide), ur_ne (by decide), ur_ne (by decide), ur_ne (by decide)], by
      rw [ur_ne (by decide), ur_self, ur_ne (by decide), ur_ne (by decide), hq, a4]
      show _ = tkF (H 71) (pS s1) k x y
      rw [s9], by
      rw [ur_ne (by decide), ur_ne (by decide), ur_ne (by decide), ur_ne (by decide), ur_ne (by decide)], by
      rw [ur_ne (by decide), ur_ne (by decide), ur_ne (by decide), ur_ne (by decide), ur_ne (by decide)], by
      rw [ur_self, ur_self, up_self, up_self, hq2, a3, s8], by
      rw [ur_self, up_ne (by decide), up_self, hq1, a4]
      show _ = pS s1 + 1
      rw [s9]⟩ (by
      rw [ur_self, up_ne (by decide), up_ne (by decide), z.o.1]
      exact (avP (skS s1)).symm)
  have C : CrR (ur (ur (ur H 62 F) 71 (tkF (H 71) q k x y)) 62 (up (up F 15 (q1 + 1)) 18 (q2 - 1))) (kS s1) 1 := by
    unfold kS
    rw [hk, hn]
    exact C
  have lt2 : pP s < pP (kS s1) := by omega
  have hp0 : 0 < pS (kS s1) := by omega
  have hfr := hH.e1 (T := tkF (H 71) q k x y) (q := q1 + 1) (q2 := q2 - 1) z
  refine ⟨fun w => EnQ.ok hE hfr (Box.i ⟨c1, c2.trans (f1.trans e2), C.got0 (by omega), hp0, c7, c8, by omega⟩) lt2, fun w => EnQ.ok hE hfr.e2 (Box.i ⟨c1, c2.trans (f1.trans e2), ?_, hp0, c7, c8, by omega⟩) lt2⟩
  have g := C.got (by omega)
  rw [c5, ur_ne (by decide), ur_ne (by decide), ur_ne (by decide)] at g
  have e9 : pO s1 - 1 - 1 = q2 - 1 - 1 := by rw [hq2, a3, s8]
  rw [e9] at g
  exact g
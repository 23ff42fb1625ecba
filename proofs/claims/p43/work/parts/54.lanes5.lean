/-! ===== the class: shifts of words in lanes, differences ===== -/
theorem rJ_comm (h : Hp) {a b : Nat} (e : a ≠ b) (f g : Int → Int64) : rJ (rJ h a f) b g = rJ (rJ h b g) a f := by
  unfold rJ
  congr 3
  funext c
  by_cases e1 : c = a
  · subst e1; simp [e]
  · simp [e1]
theorem shl_ln {P Q Q' : Int → Int64} {n a b to i k s : Int} {f w : Int64} (hn : n = 8) (h0 : 0 ≤ i) (hk : 0 ≤ k) (h : Ln Q to k (fun l => shI n (lw P l a k.toNat) (b2 (lb f l)) (lw P l b i.toNat) k)) (h' : Ln Q' to k (fun l => if lb w l then lw Q l to k.toNat * p2 s % p2 k else lw Q l to k.toNat)) (hw : w = P (b + i)) (hs : s = p2 i) :
    Ln Q' to k (fun l => shI n (lw P l a k.toNat) (b2 (lb f l)) (lw P l b (i + 1).toNat) k) := Box.i fun l hl => by
  have r := lw_rngi P l a hk
  have rb := lw_rngi P l b h0
  have q := shI_st (n := n) (k := k) (i := i) r.1 r.2 (b2_01 (lb f l)) rb.1 h0 (b2_01 (lb w l))
  rw [if_pos hn] at q
  show lw Q' l to k.toNat = shI n (lw P l a k.toNat) (b2 (lb f l)) (lw P l b (i + 1).toNat) k
  rw [h'.o l hl]
  dsimp only
  rw [h.o l hl]
  dsimp only
  rw [lw_i P l b h0, ← hw, ← q, hs]
  cases lb w l <;> simp [b2]
theorem shr_ln {P Q Q' : Int → Int64} {n a b to i k s : Int} {f w : Int64} (hn : n ≠ 8) (h0 : 0 ≤ i) (hk : 0 ≤ k) (h : Ln Q to k (fun l => shI n (lw P l a k.toNat) (b2 (lb f l)) (lw P l b i.toNat) k)) (h' : Ln Q' to k (fun l => if lb w l then exW (lw Q l to k.toNat) (b2 (lb f l)) k / p2 s % p2 k else lw Q l to k.toNat)) (hw : w = P (b + i)) (hs : s = p2 i) :
    Ln Q' to k (fun l => shI n (lw P l a k.toNat) (b2 (lb f l)) (lw P l b (i + 1).toNat) k) := Box.i fun l hl => by
  have r := lw_rngi P l a hk
  have rb := lw_rngi P l b h0
  have q := shI_st (n := n) (k := k) (i := i) r.1 r.2 (b2_01 (lb f l)) rb.1 h0 (b2_01 (lb w l))
  rw [if_neg hn] at q
  show lw Q' l to k.toNat = shI n (lw P l a k.toNat) (b2 (lb f l)) (lw P l b (i + 1).toNat) k
  rw [h'.o l hl]
  dsimp only
  rw [h.o l hl]
  dsimp only
  rw [lw_i P l b h0, ← hw, ← q, hs]
  cases lb w l <;> simp [b2]
theorem top_bit {P : Int → Int64} {l : Nat} {a k : Int} (h1 : 1 ≤ k) : b2 (lb (P (a + k - 1)) l) = if p2 (k - 1) ≤ lw P l a k.toNat then 1 else 0 := by
  have e : (k - 1 + 1).toNat = k.toNat := by congr 1; omega
  have q := lw_i P l a (show 0 ≤ k - 1 by omega)
  rw [e, show a + (k - 1) = a + k - 1 by omega] at q
  have r := lw_rngi P l a (show 0 ≤ k - 1 by omega)
  rcases b2_01 (lb (P (a + k - 1)) l) with u | u <;> rw [u] at q ⊢
  · rw [if_neg (by omega)]
  · rw [if_pos (by omega)]
/-- what is shifted in -/
def shF (P : Int → Int64) (n a k : Int) : Int64 := if n = 10 then P (a + k - 1) else 0
theorem shF_ok {P : Int → Int64} {n a k : Int} (h1 : 1 ≤ k) (l : Nat) : b2 (lb (shF P n a k) l) = if n = 10 ∧ p2 (k - 1) ≤ lw P l a k.toNat then 1 else 0 := by
  unfold shF
  by_cases e : n = 10
  · rw [if_pos e, top_bit h1]
    by_cases z : p2 (k - 1) ≤ lw P l a k.toNat
    · rw [if_pos z, if_pos ⟨e, z⟩]
    · rw [if_neg z, if_neg (fun q => z q.2)]
  · rw [if_neg e, if_neg (fun q => e q.1), lb_0]; rfl
theorem sh_beg {P Q : Int → Int64} {n a b to k : Int} (h1 : 0 ≤ k) (h : Bt Q to k (fun j l => lb (P (a + j)) l)) (f : Int64) : Ln Q to k (fun l => shI n (lw P l a k.toNat) (b2 (lb f l)) (lw P l b (0 : Int).toNat) k) := Box.i fun l hl => by
  have r := lw_rngi P l a h1
  show lw Q l to k.toNat = shI n (lw P l a k.toNat) (b2 (lb f l)) 0 k
  rw [shI_0 r.1 r.2]
  exact lw_cg k.toNat fun j x y => h.o j x (by omega) l hl
theorem sh_end {P Q : Int → Int64} {n a b to k : Int} (h1 : 1 ≤ k) (hn : n = 8 ∨ n = 9 ∨ n = 10) (h : Ln Q to k (fun l => shI n (lw P l a k.toNat) (b2 (lb (shF P n a k) l)) (lw P l b k.toNat) k)) : Ln Q to k (fun l => shfW n (lw P l a k.toNat) (lw P l b k.toNat) k) := Box.i fun l hl => by
  have r := lw_rngi P l a (show 0 ≤ k by omega)
  have rb := lw_rngi P l b (show 0 ≤ k by omega)
  rw [h.o l hl]
  exact shI_fin hn h1 r.1 r.2 rb.1 (shF_ok h1 l)
def s_X3_shift : CS := (zc 2, ap [(3, 43), (0, 0), (0, 0), (0, 0), (0, 0), (0, 0)] (fun n to a b k h Rt X =>
Pl to a b k ∧ (1 ≤ k ∧ (n = 8 ∨ n = 9 ∨ n = 10)) ∧ ∀ Q, Wr (hJ h 44) Q to k → Ln Q to k (fun l => shfW n (lw (hJ h 44) l a k.toNat) (lw (hJ h 44) l b k.toNat) k) → Rt none (rJ h 44 Q)))
set_option maxRecDepth 100000 in
set_option maxHeartbeats 4000000 in
theorem o_X3_shift : Obl true 0 9 (sp [(63, s_X3_shiftLeft), (64, s_X3_shiftRight)]) [] code_X3_shift s_X3_shift := by
  refine oblL (by rfl) [(26, [0, 1, 2, 3, 4, 5, 6, 8]), (60, [0, 1, 2, 4, 5, 6, 8])] ?_
  intro n r_n to r_to a r_a b r_b k r_k h Rt X hh hf hs
  obtain ⟨⟨a1, a2, a3, a4, a5, a6, a7, a8⟩, ⟨k1, n1⟩, h2⟩ := hs
  refine ⟨fun m pc vs g => ∃ (i : Int) (Q : Int → Int64), g = rJ h 44 Q ∧ 0 ≤ i ∧ i ≤ k ∧ ((pc = 26 ∧ vs = [.inr (.inr (some 43)), .inl n, .inl to, .inl a, .inl b, .inl k, .inr (.inl (shF (hJ h 44) n a k)), .inl i] ∧ Wr (hJ h 44) Q to i ∧ Bt Q to i (fun j l => lb (hJ h 44 (a + j)) l) ∧ m = 1000 + (k - i).toNat) ∨
    (pc = 60 ∧ vs = [.inr (.inr (some 43)), .inl n, .inl to, .inl b, .inl k, .inr (.inl (shF (hJ h 44) n a k)), .inl i] ∧ Wr (hJ h 44) Q to k ∧ Ln Q to k (fun l => shI n (lw (hJ h 44) l a k.toNat) (b2 (lb (shF (hJ h 44) n a k) l)) (lw (hJ h 44) l b i.toNat) k) ∧ m = (k - i).toNat)), ?_, ?_⟩
  · by_cases e : n = 10
    · have ef : shF (hJ h 44) n a k = hJ h 44 (a + k - 1) := if_pos e
      repeat' (first | apply And.intro | (with_reducible assumption) | (intro h9; first | (exfalso; omega) | (simp only [rI_rI, rJ_rJ, hI_rI, hJ_rI, hI_rJ, hJ_rJ, hI_rR, hR_rI, hR_rJ, hN_rI, hN_rJ, svH_63, svH_66, rfH_63, wvH_63, wvH_62, wvH_67, wvH_68, wvH_69, sc_63, sc_n62, sc_n67, sc_n68, sc_n69, sc_n70, reduceIte, Nat.reduceEqDiff, eq_self, up_up, up_self, up_ne, ne_eq, not_false_eq_true, Int.reduceEq, Int.reduceNeg] at h9; first | (exfalso; omega) | skip) | skip) | exact Exists.intro _ ⟨0, hJ h 44, (rJ_id h 44).symm, by omega, by omega, Or.inl ⟨rfl, (by rw [ef] <;> rfl), Wr.z _ _, Bt.z _ _ _, rfl⟩⟩ | exact h2 | exact h2 (by omega) | omega | exact True.intro | (simp only [rI_rI, rJ_rJ, hI_rI, hJ_rI, hI_rJ, hJ_rJ, hI_rR, hR_rI, hR_rJ, hN_rI, hN_rJ, svH_63, svH_66, rfH_63, wvH_63, wvH_62, wvH_67, wvH_68, wvH_69, sc_63, sc_n62, sc_n67, sc_n68, sc_n69, sc_n70, reduceIte, Nat.reduceEqDiff, eq_self, up_up, up_self, up_ne, ne_eq, not_false_eq_true, Int.reduceEq, Int.reduceNeg]; omega))
    · have ef : shF (hJ h 44) n a k = 0 := if_neg e
      repeat' (first | apply And.intro | (with_reducible assumption) | (intro h9; first | (exfalso; omega) | (simp only [rI_rI, rJ_rJ, hI_rI, hJ_rI, hI_rJ, hJ_rJ, hI_rR, hR_rI, hR_rJ, hN_rI, hN_rJ, svH_63, svH_66, rfH_63, wvH_63, wvH_62, wvH_67, wvH_68, wvH_69, sc_63, sc_n62, sc_n67, sc_n68, sc_n69, sc_n70, reduceIte, Nat.reduceEqDiff, eq_self, up_up, up_self, up_ne, ne_eq, not_false_eq_true, Int.reduceEq, Int.reduceNeg] at h9; first | (exfalso; omega) | skip) | skip) | exact Exists.intro _ ⟨0, hJ h 44, (rJ_id h 44).symm, by omega, by omega, Or.inl ⟨rfl, (by rw [ef] <;> rfl), Wr.z _ _, Bt.z _ _ _, rfl⟩⟩ | exact h2 | exact h2 (by omega) | omega | exact True.intro | (simp only [rI_rI, rJ_rJ, hI_rI, hJ_rI, hI_rJ, hJ_rJ, hI_rR, hR_rI, hR_rJ, hN_rI, hN_rJ, svH_63, svH_66, rfH_63, wvH_63, wvH_62, wvH_67, wvH_68, wvH_69, sc_63, sc_n62, sc_n67, sc_n68, sc_n69, sc_n70, reduceIte, Nat.reduceEqDiff, eq_self, up_up, up_self, up_ne, ne_eq, not_false_eq_true, Int.reduceEq, Int.reduceNeg]; omega))
  · rintro m pc live vs g hl ⟨i, Q, rfl, i1, i2, ⟨rfl, rfl, i3, i4, rfl⟩ | ⟨rfl, rfl, i3, i4, rfl⟩⟩ hv hh1 hf1
    · rcases look2 hl with ⟨_, rfl⟩ | ⟨q, _⟩
      · by_cases z : i < k
        · have e1 : hJ (rJ h 44 Q) 44 (a + i) = hJ h 44 (a + i) := i3.o _ (by omega)
          have x : ∀ l, l < 64 → lb (hJ (rJ h 44 Q) 44 (a + i)) l = lb (hJ h 44 (a + i)) l := fun l _ => by rw [e1]
          repeat' (first | apply And.intro | (with_reducible assumption) | (intro h9; first | (exfalso; omega) | (simp only [rI_rI, rJ_rJ, hI_rI, hJ_rI, hI_rJ, hJ_rJ, hI_rR, hR_rI, hR_rJ, hN_rI, hN_rJ, svH_63, svH_66, rfH_63, wvH_63, wvH_62, wvH_67, wvH_68, wvH_69, sc_63, sc_n62, sc_n67, sc_n68, sc_n69, sc_n70, reduceIte, Nat.reduceEqDiff, eq_self, up_up, up_self, up_ne, ne_eq, not_false_eq_true, Int.reduceEq, Int.reduceNeg] at h9; first | (exfalso; omega) | skip) | skip) | exact Exists.intro _ ⟨by omega, i + 1, _, rJ_44 _ _ _ _, by omega, by omega, Or.inl ⟨rfl, rfl, i3.st _ i1, i4.st x, rfl⟩⟩ | exact h2 | exact h2 (by omega) | omega | exact True.intro | (simp only [rI_rI, rJ_rJ, hI_rI, hJ_rI, hI_rJ, hJ_rJ, hI_rR, hR_rI, hR_rJ, hN_rI, hN_rJ, svH_63, svH_66, rfH_63, wvH_63, wvH_62, wvH_67, wvH_68, wvH_69, sc_63, sc_n62, sc_n67, sc_n68, sc_n69, sc_n70, reduceIte, Nat.reduceEqDiff, eq_self, up_up, up_self, up_ne, ne_eq, not_false_eq_true, Int.reduceEq, Int.reduceNeg]; omega))
        · obtain rfl : i = k := by omega
          have i5 := sh_beg (n := n) (b := b) i1 i4 (shF (hJ h 44) n a i)
          repeat' (first | apply And.intro | (with_reducible assumption) | (intro h9; first | (exfalso; omega) | (simp only [rI_rI, rJ_rJ, hI_rI, hJ_rI, hI_rJ, hJ_rJ, hI_rR, hR_rI, hR_rJ, hN_rI, hN_rJ, svH_63, svH_66, rfH_63, wvH_63, wvH_62, wvH_67, wvH_68, wvH_69, sc_63, sc_n62, sc_n67, sc_n68, sc_n69, sc_n70, reduceIte, Nat.reduceEqDiff, eq_self, up_up, up_self, up_ne, ne_eq, not_false_eq_true, Int.reduceEq, Int.reduceNeg] at h9; first | (exfalso; omega) | skip) | skip) | exact Exists.intro _ ⟨by omega, 0, Q, rfl, by omega, by omega, Or.inr ⟨rfl, rfl, i3, i5, rfl⟩⟩ | exact h2 | exact h2 (by omega) | omega | exact True.intro | (simp only [rI_rI, rJ_rJ, hI_rI, hJ_rI, hI_rJ, hJ_rJ, hI_rR, hR_rI, hR_rJ, hN_rI, hN_rJ, svH_63, svH_66, rfH_63, wvH_63, wvH_62, wvH_67, wvH_68, wvH_69, sc_63, sc_n62, sc_n67, sc_n68, sc_n69, sc_n70, reduceIte, Nat.reduceEqDiff, eq_self, up_up, up_self, up_ne, ne_eq, not_false_eq_true, Int.reduceEq, Int.reduceNeg]; omega))
      · cases q
    · rcases look2 hl with ⟨q, _⟩ | ⟨_, rfl⟩
      · cases q
      · by_cases z : i < k
        · have e2 : hJ (rJ h 44 Q) 44 (b + i) = hJ h 44 (b + i) := i3.o _ (by omega)
          have es : sShl 1 i = p2 i := fullW i1 (by omega)
          have p0 := p2_pos i
          have p7 : p2 i ≤ 128 := p2_le (b := 7) (by omega)
          by_cases e8 : n = 8
          · repeat' (first | apply And.intro | (with_reducible assumption) | (intro h9; first | (exfalso; omega) | (simp only [rI_rI, rJ_rJ, hI_rI, hJ_rI, hI_rJ, hJ_rJ, hI_rR, hR_rI, hR_rJ, hN_rI, hN_rJ, svH_63, svH_66, rfH_63, wvH_63, wvH_62, wvH_67, wvH_68, wvH_69, sc_63, sc_n62, sc_n67, sc_n68, sc_n69, sc_n70, reduceIte, Nat.reduceEqDiff, eq_self, up_up, up_self, up_ne, ne_eq, not_false_eq_true, Int.reduceEq, Int.reduceNeg] at h9; first | (exfalso; omega) | skip) | skip) | exact Exists.intro _ ⟨by omega, i + 1, _, rJ_rJ _ _ _ _, by omega, by omega, Or.inr ⟨rfl, rfl, i3.tr (by assumption), shl_ln e8 i1 a1 i4 (by assumption) e2 es, rfl⟩⟩ | exact h2 | exact h2 (by omega) | omega | exact True.intro | (simp only [rI_rI, rJ_rJ, hI_rI, hJ_rI, hI_rJ, hJ_rJ, hI_rR, hR_rI, hR_rJ, hN_rI, hN_rJ, svH_63, svH_66, rfH_63, wvH_63, wvH_62, wvH_67, wvH_68, wvH_69, sc_63, sc_n62, sc_n67, sc_n68, sc_n69, sc_n70, reduceIte, Nat.reduceEqDiff, eq_self, up_up, up_self, up_ne, ne_eq, not_false_eq_true, Int.reduceEq, Int.reduceNeg]; omega))
          · repeat' (first | apply And.intro | (with_reducible assumption) | (intro h9; first | (exfalso; omega) | (simp only [rI_rI, rJ_rJ, hI_rI, hJ_rI, hI_rJ, hJ_rJ, hI_rR, hR_rI, hR_rJ, hN_rI, hN_rJ, svH_63, svH_66, rfH_63, wvH_63, wvH_62, wvH_67, wvH_68, wvH_69, sc_63, sc_n62, sc_n67, sc_n68, sc_n69, sc_n70, reduceIte, Nat.reduceEqDiff, eq_self, up_up, up_self, up_ne, ne_eq, not_false_eq_true, Int.reduceEq, Int.reduceNeg] at h9; first | (exfalso; omega) | skip) | skip) | exact Exists.intro _ ⟨by omega, i + 1, _, rJ_rJ _ _ _ _, by omega, by omega, Or.inr ⟨rfl, rfl, i3.tr (by assumption), shr_ln e8 i1 a1 i4 (by assumption) e2 es, rfl⟩⟩ | exact h2 | exact h2 (by omega) | omega | exact True.intro | (simp only [rI_rI, rJ_rJ, hI_rI, hJ_rI, hI_rJ, hJ_rJ, hI_rR, hR_rI, hR_rJ, hN_rI, hN_rJ, svH_63, svH_66, rfH_63, wvH_63, wvH_62, wvH_67, wvH_68, wvH_69, sc_63, sc_n62, sc_n67, sc_n68, sc_n69, sc_n70, reduceIte, Nat.reduceEqDiff, eq_self, up_up, up_self, up_ne, ne_eq, not_false_eq_true, Int.reduceEq, Int.reduceNeg]; omega))
        · obtain rfl : i = k := by omega
          have k2 := h2 Q i3 (sh_end k1 n1 i4)
          repeat' (first | apply And.intro | (with_reducible assumption) | (intro h9; first | (exfalso; omega) | (simp only [rI_rI, rJ_rJ, hI_rI, hJ_rI, hI_rJ, hJ_rJ, hI_rR, hR_rI, hR_rJ, hN_rI, hN_rJ, svH_63, svH_66, rfH_63, wvH_63, wvH_62, wvH_67, wvH_68, wvH_69, sc_63, sc_n62, sc_n67, sc_n68, sc_n69, sc_n70, reduceIte, Nat.reduceEqDiff, eq_self, up_up, up_self, up_ne, ne_eq, not_false_eq_true, Int.reduceEq, Int.reduceNeg] at h9; first | (exfalso; omega) | skip) | skip) | exact k2 | exact h2 | exact h2 (by omega) | omega | exact True.intro | (simp only [rI_rI, rJ_rJ, hI_rI, hJ_rI, hI_rJ, hJ_rJ, hI_rR, hR_rI, hR_rJ, hN_rI, hN_rJ, svH_63, svH_66, rfH_63, wvH_63, wvH_62, wvH_67, wvH_68, wvH_69, sc_63, sc_n62, sc_n67, sc_n68, sc_n69, sc_n70, reduceIte, Nat.reduceEqDiff, eq_self, up_up, up_self, up_ne, ne_eq, not_false_eq_true, Int.reduceEq, Int.reduceNeg]; omega))
theorem m_X3_shift : MM 62 s_X3_shift := mm_of (own := 2) (by rfl) k_X3_shift (cl := [(63, s_X3_shiftLeft), (64, s_X3_shiftRight)]) ⟨m_X3_shiftLeft, m_X3_shiftRight, trivial⟩ o_X3_shift
/-- a borrow: one word is smaller than the other -/
def BoI (P R : Int → Int64) (a b i : Int) (c : Int64) : Prop := Box (∀ l, l < 64 → b2 (lb c l) = if lw P l a i.toNat < lw R l b i.toNat then 1 else 0)
theorem bo_step (x y c : Bool) {X Y q : Int} (h0 : 0 ≤ X) (h1 : X < q) (h2 : 0 ≤ Y) (h3 : Y < q) (h : b2 c = if X < Y then 1 else 0) : b2 ((!x && (y || c)) || (y && c)) = if X + b2 x * q < Y + b2 y * q then 1 else 0 := by
  by_cases z : X < Y
  · rw [if_pos z] at h
    cases x <;> cases y <;> cases c <;> simp [b2] at * <;> omega
  · rw [if_neg z] at h
    cases x <;> cases y <;> cases c <;> simp [b2] at * <;> omega
theorem BoI.z (P R : Int → Int64) (a b : Int) : BoI P R a b 0 0 := Box.i fun l _ => by
  rw [lb_0]
  show (0 : Int) = if (0 : Int) < 0 then 1 else 0
  rw [if_neg (by decide)]
theorem BoI.st {P R : Int → Int64} {a b i : Int} {c : Int64} (h : BoI P R a b i c) (h0 : 0 ≤ i) : BoI P R a b (i + 1) ((P (a + i) ^^^ Int64.ofNat 18446744073709551615) &&& (R (b + i) ||| c) ||| R (b + i) &&& c) := Box.i fun l hl => by
  have ra := lw_rngi P l a h0
  have rb := lw_rngi R l b h0
  rw [lw_i _ _ _ h0, lw_i _ _ _ h0, lb_or, lb_and, lb_and, lb_or, lb_not hl]
  exact bo_step _ _ _ ra.1 ra.2 rb.1 rb.2 (h.o l hl)
def s_X3_borrowFromRest : CS := (zc 1, ap [(3, 43), (0, 0), (0, 0), (0, 0)] (fun s b k h Rt X =>
(0 ≤ s ∧ s ≤ k ∧ k ≤ 8 ∧ 0 ≤ b ∧ b ≤ 320) ∧ ∀ c, BoI (hJ h 45) (hJ h 44) s b (k - s) c → Rt (some (.inr (.inl c))) h))
set_option maxRecDepth 100000 in
set_option maxHeartbeats 4000000 in
theorem o_X3_borrowFromRest : Obl true 3 11 (sp []) [] code_X3_borrowFromRest s_X3_borrowFromRest := by
  refine oblL (by rfl) [(6, [0, 1, 2, 3, 4, 6])] ?_
  intro s r_s b r_b k r_k h Rt X hh hf hs
  obtain ⟨⟨a1, a2, a3, a4, a5⟩, h2⟩ := hs
  refine ⟨fun m pc vs g => ∃ (i : Int) (c : Int64), g = h ∧ vs = [.inr (.inr (some 43)), .inl s, .inl b, .inl k, .inr (.inl c), .inl i] ∧ s ≤ i ∧ i ≤ k ∧ BoI (hJ h 45) (hJ h 44) s b (i - s) c ∧ m = (k - i).toNat, ?_, ?_⟩
  · have z := BoI.z (hJ h 45) (hJ h 44) s b
    rw [← Int.sub_self s] at z
    repeat' (first | apply And.intro | (with_reducible assumption) | (intro h9; first | (exfalso; omega) | (simp only [rI_rI, rJ_rJ, hI_rI, hJ_rI, hI_rJ, hJ_rJ, hI_rR, hR_rI, hR_rJ, hN_rI, hN_rJ, svH_63, svH_66, rfH_63, wvH_63, wvH_62, wvH_67, wvH_68, wvH_69, sc_63, sc_n62, sc_n67, sc_n68, sc_n69, sc_n70, reduceIte, Nat.reduceEqDiff, eq_self, up_up, up_self, up_ne, ne_eq, not_false_eq_true, Int.reduceEq, Int.reduceNeg] at h9; first | (exfalso; omega) | skip) | skip) | exact Exists.intro _ ⟨s, 0, rfl, rfl, by omega, by omega, z, rfl⟩ | exact h2 | exact h2 (by omega) | omega | exact True.intro | (simp only [rI_rI, rJ_rJ, hI_rI, hJ_rI, hI_rJ, hJ_rJ, hI_rR, hR_rI, hR_rJ, hN_rI, hN_rJ, svH_63, svH_66, rfH_63, wvH_63, wvH_62, wvH_67, wvH_68, wvH_69, sc_63, sc_n62, sc_n67, sc_n68, sc_n69, sc_n70, reduceIte, Nat.reduceEqDiff, eq_self, up_up, up_self, up_ne, ne_eq, not_false_eq_true, Int.reduceEq, Int.reduceNeg]; omega))
  · rintro m pc live vs g hl ⟨i, c, rfl, rfl, i1, i2, i3, rfl⟩ hv hh1 hf1
    obtain ⟨rfl, rfl⟩ := look1 hl
    by_cases z : i < k
    · have i4 := i3.st (by omega)
      rw [show i - s + 1 = i + 1 - s by omega, show s + (i - s) = i by omega, show b + (i - s) = b + i - s by omega] at i4
      repeat' (first | apply And.intro | (with_reducible assumption) | (intro h9; first | (exfalso; omega) | (simp only [rI_rI, rJ_rJ, hI_rI, hJ_rI, hI_rJ, hJ_rJ, hI_rR, hR_rI, hR_rJ, hN_rI, hN_rJ, svH_63, svH_66, rfH_63, wvH_63, wvH_62, wvH_67, wvH_68, wvH_69, sc_63, sc_n62, sc_n67, sc_n68, sc_n69, sc_n70, reduceIte, Nat.reduceEqDiff, eq_self, up_up, up_self, up_ne, ne_eq, not_false_eq_true, Int.reduceEq, Int.reduceNeg] at h9; first | (exfalso; omega) | skip) | skip) | exact Exists.intro _ ⟨by omega, i + 1, _, rfl, rfl, by omega, by omega, i4, rfl⟩ | exact h2 | exact h2 (by omega) | omega | exact True.intro | (simp only [rI_rI, rJ_rJ, hI_rI, hJ_rI, hI_rJ, hJ_rJ, hI_rR, hR_rI, hR_rJ, hN_rI, hN_rJ, svH_63, svH_66, rfH_63, wvH_63, wvH_62, wvH_67, wvH_68, wvH_69, sc_63, sc_n62, sc_n67, sc_n68, sc_n69, sc_n70, reduceIte, Nat.reduceEqDiff, eq_self, up_up, up_self, up_ne, ne_eq, not_false_eq_true, Int.reduceEq, Int.reduceNeg]; omega))
    · obtain rfl : i = k := by omega
      have k2 := h2 c i3
      repeat' (first | apply And.intro | (with_reducible assumption) | (intro h9; first | (exfalso; omega) | (simp only [rI_rI, rJ_rJ, hI_rI, hJ_rI, hI_rJ, hJ_rJ, hI_rR, hR_rI, hR_rJ, hN_rI, hN_rJ, svH_63, svH_66, rfH_63, wvH_63, wvH_62, wvH_67, wvH_68, wvH_69, sc_63, sc_n62, sc_n67, sc_n68, sc_n69, sc_n70, reduceIte, Nat.reduceEqDiff, eq_self, up_up, up_self, up_ne, ne_eq, not_false_eq_true, Int.reduceEq, Int.reduceNeg] at h9; first | (exfalso; omega) | skip) | skip) | exact k2 | exact h2 | exact h2 (by omega) | omega | exact True.intro | (simp only [rI_rI, rJ_rJ, hI_rI, hJ_rI, hI_rJ, hJ_rJ, hI_rR, hR_rI, hR_rJ, hN_rI, hN_rJ, svH_63, svH_66, rfH_63, wvH_63, wvH_62, wvH_67, wvH_68, wvH_69, sc_63, sc_n62, sc_n67, sc_n68, sc_n69, sc_n70, reduceIte, Nat.reduceEqDiff, eq_self, up_up, up_self, up_ne, ne_eq, not_false_eq_true, Int.reduceEq, Int.reduceNeg]; omega))
theorem m_X3_borrowFromRest : MM 66 s_X3_borrowFromRest := mm_of (own := 2) (by rfl) k_X3_borrowFromRest (cl := []) trivial o_X3_borrowFromRest
/-- where it fits in, it is taken away -/
def TkI (P R R' : Int → Int64) (s b i : Int) (w c : Int64) : Prop := Box (∀ l, l < 64 → lw R' l s i.toNat = if lb w l then lw R l s i.toNat - lw P l b i.toNat + b2 (lb c l) * p2 i else lw R l s i.toNat)
theorem tk_step (x y c w : Bool) {q A B S : Int} (h : S = if w then A - B + b2 c * q else A) : S + b2 (x ^^ ((y ^^ c) && w)) * q = if w then (A + b2 x * q) - (B + b2 y * q) + b2 ((!x && (y || c)) || (y && c)) * (2 * q) else A + b2 x * q := by
  cases x <;> cases y <;> cases c <;> cases w <;> simp [b2] at * <;> omega
theorem TkI.z (P R : Int → Int64) (s b : Int) (w : Int64) : TkI P R R s b 0 w 0 := Box.i fun l _ => by
  rw [lb_0]
  show (0 : Int) = if lb w l then 0 - 0 + 0 * p2 0 else 0
  rw [Int.zero_mul]
  split <;> rfl
theorem TkI.st {P R R' : Int → Int64} {s b i : Int} {w c : Int64} (h : TkI P R R' s b i w c) (h0 : 0 ≤ i) : TkI P R (up R' (s + i) (R (s + i) ^^^ ((P (b + i) ^^^ c) &&& w))) s b (i + 1) w ((R (s + i) ^^^ Int64.ofNat 18446744073709551615) &&& (P (b + i) ||| c) ||| P (b + i) &&& c) := Box.i fun l hl => by
  rw [lw_upi h0, lw_i _ _ _ h0, lw_i _ _ _ h0, p2_succ h0]
  rw [lb_or, lb_and, lb_and, lb_or, lb_not hl, lb_xor, lb_and, lb_xor]
  exact tk_step _ _ _ _ (h.o l hl)
theorem TkI.fin {P R R' : Int → Int64} {s b i : Int} {w c : Int64} (h : TkI P R R' s b i w c) (h0 : 0 ≤ i) : Ln R' s i (fun l => if lb w l then (lw R l s i.toNat - lw P l b i.toNat) % p2 i else lw R l s i.toNat) := Box.i fun l hl => by
  have r := lw_rngi R' l s h0
  have q := h.o l hl
  show lw R' l s i.toNat = if lb w l then (lw R l s i.toNat - lw P l b i.toNat) % p2 i else lw R l s i.toNat
  by_cases e : lb w l = true
  · rw [if_pos e] at q ⊢
    have : (lw R l s i.toNat - lw P l b i.toNat) % p2 i = lw R' l s i.toNat % p2 i := by rw [q, Int.add_mul_emod_self_right]
    rw [this, Int.emod_eq_of_lt r.1 r.2]
  · rw [if_neg e] at q ⊢; exact q
theorem rJ_45 (h : Hp) (Q : Int → Int64) (k : Int) (x : Int64) : rJ (rJ h 45 Q) 45 (up (hJ (rJ h 45 Q) 45) k x) = rJ h 45 (up Q k x) := by
  rw [rJ_rJ]
  rfl
def s_X3_takeFromRest : CS := (zc 1, ap [(3, 43), (0, 0), (0, 0), (0, 0), (1, 0)] (fun s b k w h Rt X =>
(0 ≤ s ∧ s ≤ k ∧ k ≤ 8 ∧ 0 ≤ b ∧ b ≤ 320) ∧ ∀ R, Wr (hJ h 45) R s (k - s) → Ln R s (k - s) (fun l => if lb w l then (lw (hJ h 45) l s (k - s).toNat - lw (hJ h 44) l b (k - s).toNat) % p2 (k - s) else lw (hJ h 45) l s (k - s).toNat) → Rt none (rJ h 45 R)))
set_option maxRecDepth 100000 in
set_option maxHeartbeats 4000000 in
theorem o_X3_takeFromRest : Obl true 0 13 (sp []) [] code_X3_takeFromRest s_X3_takeFromRest := by
  refine oblL (by rfl) [(6, [0, 1, 2, 3, 4, 6, 8])] ?_
  intro s r_s b r_b k r_k w h Rt X hh hf hs
  obtain ⟨⟨a1, a2, a3, a4, a5⟩, h2⟩ := hs
  refine ⟨fun m pc vs g => ∃ (i : Int) (R : Int → Int64) (c : Int64), g = rJ h 45 R ∧ vs = [.inr (.inr (some 43)), .inl s, .inl b, .inl k, .inr (.inl w), .inr (.inl c), .inl i] ∧ s ≤ i ∧ i ≤ k ∧ Wr (hJ h 45) R s (i - s) ∧ TkI (hJ h 44) (hJ h 45) R s b (i - s) w c ∧ m = (k - i).toNat, ?_, ?_⟩
  · have z := TkI.z (hJ h 44) (hJ h 45) s b w
    have z2 := Wr.z (hJ h 45) s
    rw [← Int.sub_self s] at z z2
    repeat' (first | apply And.intro | (with_reducible assumption) | (intro h9; first | (exfalso; omega) | (simp only [rI_rI, rJ_rJ, hI_rI, hJ_rI, hI_rJ, hJ_rJ, hI_rR, hR_rI, hR_rJ, hN_rI, hN_rJ, svH_63, svH_66, rfH_63, wvH_63, wvH_62, wvH_67, wvH_68, wvH_69, sc_63, sc_n62, sc_n67, sc_n68, sc_n69, sc_n70, reduceIte, Nat.reduceEqDiff, eq_self, up_up, up_self, up_ne, ne_eq, not_false_eq_true, Int.reduceEq, Int.reduceNeg] at h9; first | (exfalso; omega) | skip) | skip) | exact Exists.intro _ ⟨s, hJ h 45, 0, (rJ_id h 45).symm, rfl, by omega, by omega, z2, z, rfl⟩ | exact h2 | exact h2 (by omega) | omega | exact True.intro | (simp only [rI_rI, rJ_rJ, hI_rI, hJ_rI, hI_rJ, hJ_rJ, hI_rR, hR_rI, hR_rJ, hN_rI, hN_rJ, svH_63, svH_66, rfH_63, wvH_63, wvH_62, wvH_67, wvH_68, wvH_69, sc_63, sc_n62, sc_n67, sc_n68, sc_n69, sc_n70, reduceIte, Nat.reduceEqDiff, eq_self, up_up, up_self, up_ne, ne_eq, not_false_eq_true, Int.reduceEq, Int.reduceNeg]; omega))
  · rintro m pc live vs g hl ⟨i, R, c, rfl, rfl, i1, i2, i3, i4, rfl⟩ hv hh1 hf1
    obtain ⟨rfl, rfl⟩ := look1 hl
    by_cases z : i < k
    · have e1 : hJ (rJ h 45 R) 45 i = hJ h 45 i := i3.o _ (by omega)
      have i5 := i4.st (by omega)
      have i6 : ∀ x, Wr (hJ h 45) (up R i x) s (i + 1 - s) := fun x => by
        have := i3.st x (by omega)
        rw [show i - s + 1 = i + 1 - s by omega, show s + (i - s) = i by omega] at this
        exact this
      rw [show i - s + 1 = i + 1 - s by omega, show s + (i - s) = i by omega, show b + (i - s) = b + i - s by omega, ← e1] at i5
      repeat' (first | apply And.intro | (with_reducible assumption) | (intro h9; first | (exfalso; omega) | (simp only [rI_rI, rJ_rJ, hI_rI, hJ_rI, hI_rJ, hJ_rJ, hI_rR, hR_rI, hR_rJ, hN_rI, hN_rJ, svH_63, svH_66, rfH_63, wvH_63, wvH_62, wvH_67, wvH_68, wvH_69, sc_63, sc_n62, sc_n67, sc_n68, sc_n69, sc_n70, reduceIte, Nat.reduceEqDiff, eq_self, up_up, up_self, up_ne, ne_eq, not_false_eq_true, Int.reduceEq, Int.reduceNeg] at h9; first | (exfalso; omega) | skip) | skip) | exact Exists.intro _ ⟨by omega, i + 1, _, _, rJ_45 _ _ _ _, rfl, by omega, by omega, i6 _, i5, rfl⟩ | exact h2 | exact h2 (by omega) | omega | exact True.intro | (simp only [rI_rI, rJ_rJ, hI_rI, hJ_rI, hI_rJ, hJ_rJ, hI_rR, hR_rI, hR_rJ, hN_rI, hN_rJ, svH_63, svH_66, rfH_63, wvH_63, wvH_62, wvH_67, wvH_68, wvH_69, sc_63, sc_n62, sc_n67, sc_n68, sc_n69, sc_n70, reduceIte, Nat.reduceEqDiff, eq_self, up_up, up_self, up_ne, ne_eq, not_false_eq_true, Int.reduceEq, Int.reduceNeg]; omega))
    · obtain rfl : i = k := by omega
      have k2 := h2 R i3 (i4.fin (by omega))
      repeat' (first | apply And.intro | (with_reducible assumption) | (intro h9; first | (exfalso; omega) | (simp only [rI_rI, rJ_rJ, hI_rI, hJ_rI, hI_rJ, hJ_rJ, hI_rR, hR_rI, hR_rJ, hN_rI, hN_rJ, svH_63, svH_66, rfH_63, wvH_63, wvH_62, wvH_67, wvH_68, wvH_69, sc_63, sc_n62, sc_n67, sc_n68, sc_n69, sc_n70, reduceIte, Nat.reduceEqDiff, eq_self, up_up, up_self, up_ne, ne_eq, not_false_eq_true, Int.reduceEq, Int.reduceNeg] at h9; first | (exfalso; omega) | skip) | skip) | exact k2 | exact h2 | exact h2 (by omega) | omega | exact True.intro | (simp only [rI_rI, rJ_rJ, hI_rI, hJ_rI, hI_rJ, hJ_rJ, hI_rR, hR_rI, hR_rJ, hN_rI, hN_rJ, svH_63, svH_66, rfH_63, wvH_63, wvH_62, wvH_67, wvH_68, wvH_69, sc_63, sc_n62, sc_n67, sc_n68, sc_n69, sc_n70, reduceIte, Nat.reduceEqDiff, eq_self, up_up, up_self, up_ne, ne_eq, not_false_eq_true, Int.reduceEq, Int.reduceNeg]; omega))
theorem m_X3_takeFromRest : MM 67 s_X3_takeFromRest := mm_of (own := 2) (by rfl) k_X3_takeFromRest (cl := []) trivial o_X3_takeFromRest
/-- whether a plane has a bit from a place on -/
def AnI (P : Int → Int64) (b s i : Int) (c : Int64) : Prop := Box (∀ l, l < 64 → (lb c l = false ↔ ∀ j, s ≤ j → j < i → lb (P (b + j)) l = false))
theorem AnI.st {P : Int → Int64} {b s i : Int} {c : Int64} (h : AnI P b s i c) (h0 : s ≤ i) : AnI P b s (i + 1) (c ||| P (b + i)) := Box.i fun l hl => by
  rw [lb_or, Bool.or_eq_false_iff, h.o l hl]
  refine ⟨fun ⟨q1, q2⟩ j j0 j1 => ?_, fun q => ⟨fun j j0 j1 => q j j0 (by omega), q i h0 (by omega)⟩⟩
  by_cases e : j = i
  · subst e; exact q2
  · exact q1 j j0 (by omega)
def s_X3_anyBit : CS := (zc 1, ap [(3, 43), (0, 0), (0, 0), (0, 0)] (fun b s k h Rt X =>
(0 ≤ s ∧ s ≤ k ∧ k ≤ 8 ∧ 0 ≤ b ∧ b ≤ 320) ∧ ∀ c, AnI (hJ h 44) b s k c → Rt (some (.inr (.inl c))) h))
set_option maxRecDepth 100000 in
set_option maxHeartbeats 4000000 in
theorem o_X3_anyBit : Obl true 3 7 (sp []) [] code_X3_anyBit s_X3_anyBit := by
  refine oblL (by rfl) [(6, [0, 1, 3, 4, 6])] ?_
  intro b r_b s r_s k r_k h Rt X hh hf hs
  obtain ⟨⟨a1, a2, a3, a4, a5⟩, h2⟩ := hs
  refine ⟨fun m pc vs g => ∃ (i : Int) (c : Int64), g = h ∧ vs = [.inr (.inr (some 43)), .inl b, .inl k, .inr (.inl c), .inl i] ∧ s ≤ i ∧ i ≤ k ∧ AnI (hJ h 44) b s i c ∧ m = (k - i).toNat, ?_, ?_⟩
  · have z : AnI (hJ h 44) b s s 0 := Box.i fun l _ => ⟨fun _ j j0 j1 => by omega, fun _ => lb_0 l⟩
    repeat' (first | apply And.intro | (with_reducible assumption) | (intro h9; first | (exfalso; omega) | (simp only [rI_rI, rJ_rJ, hI_rI, hJ_rI, hI_rJ, hJ_rJ, hI_rR, hR_rI, hR_rJ, hN_rI, hN_rJ, svH_63, svH_66, rfH_63, wvH_63, wvH_62, wvH_67, wvH_68, wvH_69, sc_63, sc_n62, sc_n67, sc_n68, sc_n69, sc_n70, reduceIte, Nat.reduceEqDiff, eq_self, up_up, up_self, up_ne, ne_eq, not_false_eq_true, Int.reduceEq, Int.reduceNeg] at h9; first | (exfalso; omega) | skip) | skip) | exact Exists.intro _ ⟨s, 0, rfl, rfl, by omega, by omega, z, rfl⟩ | exact h2 | exact h2 (by omega) | omega | exact True.intro | (simp only [rI_rI, rJ_rJ, hI_rI, hJ_rI, hI_rJ, hJ_rJ, hI_rR, hR_rI, hR_rJ, hN_rI, hN_rJ, svH_63, svH_66, rfH_63, wvH_63, wvH_62, wvH_67, wvH_68, wvH_69, sc_63, sc_n62, sc_n67, sc_n68, sc_n69, sc_n70, reduceIte, Nat.reduceEqDiff, eq_self, up_up, up_self, up_ne, ne_eq, not_false_eq_true, Int.reduceEq, Int.reduceNeg]; omega))
  · rintro m pc live vs g hl ⟨i, c, rfl, rfl, i1, i2, i3, rfl⟩ hv hh1 hf1
    obtain ⟨rfl, rfl⟩ := look1 hl
    by_cases z : i < k
    · have i4 := i3.st i1
      repeat' (first | apply And.intro | (with_reducible assumption) | (intro h9; first | (exfalso; omega) | (simp only [rI_rI, rJ_rJ, hI_rI, hJ_rI, hI_rJ, hJ_rJ, hI_rR, hR_rI, hR_rJ, hN_rI, hN_rJ, svH_63, svH_66, rfH_63, wvH_63, wvH_62, wvH_67, wvH_68, wvH_69, sc_63, sc_n62, sc_n67, sc_n68, sc_n69, sc_n70, reduceIte, Nat.reduceEqDiff, eq_self, up_up, up_self, up_ne, ne_eq, not_false_eq_true, Int.reduceEq, Int.reduceNeg] at h9; first | (exfalso; omega) | skip) | skip) | exact Exists.intro _ ⟨by omega, i + 1, _, rfl, rfl, by omega, by omega, i4, rfl⟩ | exact h2 | exact h2 (by omega) | omega | exact True.intro | (simp only [rI_rI, rJ_rJ, hI_rI, hJ_rI, hI_rJ, hJ_rJ, hI_rR, hR_rI, hR_rJ, hN_rI, hN_rJ, svH_63, svH_66, rfH_63, wvH_63, wvH_62, wvH_67, wvH_68, wvH_69, sc_63, sc_n62, sc_n67, sc_n68, sc_n69, sc_n70, reduceIte, Nat.reduceEqDiff, eq_self, up_up, up_self, up_ne, ne_eq, not_false_eq_true, Int.reduceEq, Int.reduceNeg]; omega))
    · obtain rfl : i = k := by omega
      have k2 := h2 c i3
      repeat' (first | apply And.intro | (with_reducible assumption) | (intro h9; first | (exfalso; omega) | (simp only [rI_rI, rJ_rJ, hI_rI, hJ_rI, hI_rJ, hJ_rJ, hI_rR, hR_rI, hR_rJ, hN_rI, hN_rJ, svH_63, svH_66, rfH_63, wvH_63, wvH_62, wvH_67, wvH_68, wvH_69, sc_63, sc_n62, sc_n67, sc_n68, sc_n69, sc_n70, reduceIte, Nat.reduceEqDiff, eq_self, up_up, up_self, up_ne, ne_eq, not_false_eq_true, Int.reduceEq, Int.reduceNeg] at h9; first | (exfalso; omega) | skip) | skip) | exact k2 | exact h2 | exact h2 (by omega) | omega | exact True.intro | (simp only [rI_rI, rJ_rJ, hI_rI, hJ_rI, hI_rJ, hJ_rJ, hI_rR, hR_rI, hR_rJ, hN_rI, hN_rJ, svH_63, svH_66, rfH_63, wvH_63, wvH_62, wvH_67, wvH_68, wvH_69, sc_63, sc_n62, sc_n67, sc_n68, sc_n69, sc_n70, reduceIte, Nat.reduceEqDiff, eq_self, up_up, up_self, up_ne, ne_eq, not_false_eq_true, Int.reduceEq, Int.reduceNeg]; omega))
theorem m_X3_anyBit : MM 68 s_X3_anyBit := mm_of (own := 2) (by rfl) k_X3_anyBit (cl := []) trivial o_X3_anyBit

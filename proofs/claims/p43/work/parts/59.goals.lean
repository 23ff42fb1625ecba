/-! ===== the class: goals in lanes ===== -/
theorem lb_spr' (f i : Int) {l : Nat} (hl : l < 64) : lb (spr f i) l = ib f i := by
  apply b2_inj
  rw [lb_spr f i hl, b2_ib]
theorem xr_fin {P Q : Int → Int64} {to a k f : Int} (h0 : 0 ≤ k) (h8 : k ≤ 8) (f0 : 0 ≤ f) (f1 : f < p2 k) (h : Bt Q to k (fun j l => lb (P (a + j)) l ^^ ib f j)) : Ln Q to k (fun l => bXor (lw P l a k.toNat) f) := Box.i fun l hl => by
  have r := lw_rngi P l a h0
  have p8 := p2_le8 h8
  have q := xor_rng r.1 r.2 f0 f1 h8
  refine lw_of h0 q.1 q.2 fun j x y => ?_
  rw [h.o j x y l hl, ib_xor r.1 (by omega) f0 (by omega), ib_lw _ _ _ x y]
def s_X3_setGoalToNode : CS := (zc 2, ap [(3, 43), (0, 0), (0, 0)] (fun n f h Rt X =>
∃ w, GH h w ∧ WF w ∧ (0 ≤ n ∧ n < w 0) ∧ (0 ≤ f ∧ f < p2 (nd w n 1)) ∧ ∀ Q, Wr (hJ h 44) Q 320 8 → Ln Q 320 (nd w n 1) (fun l => bXor (lv w (hJ h 44) l n) f) → Rt none (rJ h 44 Q)))
set_option maxRecDepth 100000 in
set_option maxHeartbeats 4000000 in
theorem o_X3_setGoalToNode : Obl true 0 4 (sp [(5, s_X0_get), (47, s_X3_plane), (53, s_X3_spread)]) [] code_X3_setGoalToNode s_X3_setGoalToNode := by
  refine oblL (by rfl) [(2, [0, 1, 2, 3])] ?_
  intro n r_n f r_f h Rt X hh hf hs
  obtain ⟨w, hG, hW, ⟨n0, n1⟩, ⟨f0, f1⟩, h2⟩ := hs
  have g0 := hG.n
  have g1 := hW.nn
  have c1 := hG.k1 n0 n1
  have wn := hW.wd n0 n1
  refine ⟨fun m pc vs g => ∃ (i : Int) (Q : Int → Int64), g = rJ h 44 Q ∧ vs = [.inr (.inr (some 43)), .inl n, .inl f, .inl i] ∧ 0 ≤ i ∧ i ≤ nd w n 1 ∧ Wr (hJ h 44) Q 320 i ∧ Bt Q 320 i (fun j l => lb (hJ h 44 (n * 8 + j)) l ^^ ib f j) ∧ m = (nd w n 1 - i).toNat, ?_, ?_⟩
  · repeat' (first | apply And.intro | (with_reducible assumption) | (intro h9; first | (exfalso; omega) | (simp only [rI_rI, rJ_rJ, hI_rI, hJ_rI, hI_rJ, hJ_rJ, hI_rR, hR_rI, hR_rJ, hN_rI, hN_rJ, svH_63, svH_66, rfH_63, wvH_63, wvH_62, wvH_67, wvH_68, wvH_69, sc_63, sc_n62, sc_n67, sc_n68, sc_n69, sc_n70, reduceIte, Nat.reduceEqDiff, eq_self, up_up, up_self, up_ne, ne_eq, not_false_eq_true, Int.reduceEq, Int.reduceNeg] at h9; first | (exfalso; omega) | skip) | skip) | exact Exists.intro _ ⟨0, hJ h 44, (rJ_id h 44).symm, rfl, by omega, by omega, Wr.z _ _, Bt.z _ _ _, rfl⟩ | exact h2 | exact h2 (by omega) | omega | exact True.intro | (simp only [rI_rI, rJ_rJ, hI_rI, hJ_rI, hI_rJ, hJ_rJ, hI_rR, hR_rI, hR_rJ, hN_rI, hN_rJ, svH_63, svH_66, rfH_63, wvH_63, wvH_62, wvH_67, wvH_68, wvH_69, sc_63, sc_n62, sc_n67, sc_n68, sc_n69, sc_n70, reduceIte, Nat.reduceEqDiff, eq_self, up_up, up_self, up_ne, ne_eq, not_false_eq_true, Int.reduceEq, Int.reduceNeg]; omega))
  · rintro m pc live vs g hl ⟨i, Q, rfl, rfl, i1, i2, i3, i4, rfl⟩ hv hh1 hf1
    obtain ⟨rfl, rfl⟩ := look1 hl
    have e9 : hI (rJ h 44 Q) 2 (n * 8 + 1) = nd w n 1 := c1
    by_cases z : i < nd w n 1
    · have e1 : hJ (rJ h 44 Q) 44 (n * 8 + i) = hJ h 44 (n * 8 + i) := i3.o _ (by omega)
      have x : ∀ l, l < 64 → lb (hJ (rJ h 44 Q) 44 (n * 8 + i) ^^^ spr f i) l = (lb (hJ h 44 (n * 8 + i)) l ^^ ib f i) := fun l hl => by rw [lb_xor, e1, lb_spr' f i hl]
      repeat' (first | apply And.intro | (with_reducible assumption) | (intro h9; first | (exfalso; omega) | (simp only [rI_rI, rJ_rJ, hI_rI, hJ_rI, hI_rJ, hJ_rJ, hI_rR, hR_rI, hR_rJ, hN_rI, hN_rJ, svH_63, svH_66, rfH_63, wvH_63, wvH_62, wvH_67, wvH_68, wvH_69, sc_63, sc_n62, sc_n67, sc_n68, sc_n69, sc_n70, reduceIte, Nat.reduceEqDiff, eq_self, up_up, up_self, up_ne, ne_eq, not_false_eq_true, Int.reduceEq, Int.reduceNeg] at h9; first | (exfalso; omega) | skip) | skip) | exact Exists.intro _ ⟨by omega, i + 1, _, rJ_44 _ _ _ _, rfl, by omega, by omega, i3.st _ i1, i4.st x, rfl⟩ | exact h2 | exact h2 (by omega) | omega | exact True.intro | (simp only [rI_rI, rJ_rJ, hI_rI, hJ_rI, hI_rJ, hJ_rJ, hI_rR, hR_rI, hR_rJ, hN_rI, hN_rJ, svH_63, svH_66, rfH_63, wvH_63, wvH_62, wvH_67, wvH_68, wvH_69, sc_63, sc_n62, sc_n67, sc_n68, sc_n69, sc_n70, reduceIte, Nat.reduceEqDiff, eq_self, up_up, up_self, up_ne, ne_eq, not_false_eq_true, Int.reduceEq, Int.reduceNeg]; omega))
    · obtain rfl : i = nd w n 1 := by omega
      have k2 := h2 Q (i3.wid wn.2) (xr_fin i1 wn.2 f0 f1 i4)
      repeat' (first | apply And.intro | (with_reducible assumption) | (intro h9; first | (exfalso; omega) | (simp only [rI_rI, rJ_rJ, hI_rI, hJ_rI, hI_rJ, hJ_rJ, hI_rR, hR_rI, hR_rJ, hN_rI, hN_rJ, svH_63, svH_66, rfH_63, wvH_63, wvH_62, wvH_67, wvH_68, wvH_69, sc_63, sc_n62, sc_n67, sc_n68, sc_n69, sc_n70, reduceIte, Nat.reduceEqDiff, eq_self, up_up, up_self, up_ne, ne_eq, not_false_eq_true, Int.reduceEq, Int.reduceNeg] at h9; first | (exfalso; omega) | skip) | skip) | exact k2 | exact h2 | exact h2 (by omega) | omega | exact True.intro | (simp only [rI_rI, rJ_rJ, hI_rI, hJ_rI, hI_rJ, hJ_rJ, hI_rR, hR_rI, hR_rJ, hN_rI, hN_rJ, svH_63, svH_66, rfH_63, wvH_63, wvH_62, wvH_67, wvH_68, wvH_69, sc_63, sc_n62, sc_n67, sc_n68, sc_n69, sc_n70, reduceIte, Nat.reduceEqDiff, eq_self, up_up, up_self, up_ne, ne_eq, not_false_eq_true, Int.reduceEq, Int.reduceNeg]; omega))
theorem m_X3_setGoalToNode : MM 49 s_X3_setGoalToNode := mm_of (own := 2) (by rfl) k_X3_setGoalToNode (cl := [(5, s_X0_get), (47, s_X3_plane), (53, s_X3_spread)]) ⟨m_X0_get, m_X3_plane, m_X3_spread, trivial⟩ o_X3_setGoalToNode
def s_X3_setGoalToDifference : CS := (zc 2, ap [(3, 43), (0, 0), (0, 0)] (fun a b h Rt X =>
∃ w, GH h w ∧ WF w ∧ (0 ≤ a ∧ a < w 0 ∧ 0 ≤ b ∧ b < w 0 ∧ nd w a 1 = nd w b 1) ∧ ∀ Q, Wr (hJ h 44) Q 320 8 → Ln Q 320 1 (fun l => if lv w (hJ h 44) l a = lv w (hJ h 44) l b then 0 else 1) → Rt none (rJ h 44 Q)))
set_option maxRecDepth 100000 in
set_option maxHeartbeats 4000000 in
theorem o_X3_setGoalToDifference : Obl true 0 3 (sp [(5, s_X0_get), (70, s_X3_differs)]) [] code_X3_setGoalToDifference s_X3_setGoalToDifference := by
  refine obl0 (by rfl) ?_
  intro a r_a b r_b h Rt X hh hf hs
  obtain ⟨w, hG, hW, ⟨a0, a1, b0, b1, e⟩, h2⟩ := hs
  have g0 := hG.n
  have g1 := hW.nn
  have c1 := hG.k1 a0 a1
  have wn := hW.wd a0 a1
  have k2 : ∀ c, DfI (hJ h 44) (a * 8) (b * 8) (hI h 2 (a * 8 + 1)) c → Rt none (rJ h 44 (up (hJ h 44) 320 c)) := fun c hc => by
    refine h2 _ (Box.i fun x hx => up_ne (by omega)) (Box.i fun l hl => ?_)
    have q := hc.o l hl
    rw [c1] at q
    rw [lw_1, up_self]
    unfold lv
    dsimp only
    rw [← e]
    by_cases z : lw (hJ h 44) l (a * 8) (nd w a 1).toNat = lw (hJ h 44) l (b * 8) (nd w a 1).toNat
    · rw [if_pos z, q.mpr z]; rfl
    · rw [if_neg z]
      cases u : lb c l with
      | true => rfl
      | false => exact absurd (q.mp u) z
  repeat' (first | apply And.intro | (with_reducible assumption) | (intro h9; first | (exfalso; omega) | (simp only [rI_rI, rJ_rJ, hI_rI, hJ_rI, hI_rJ, hJ_rJ, hI_rR, hR_rI, hR_rJ, hN_rI, hN_rJ, svH_63, svH_66, rfH_63, wvH_63, wvH_62, wvH_67, wvH_68, wvH_69, sc_63, sc_n62, sc_n67, sc_n68, sc_n69, sc_n70, reduceIte, Nat.reduceEqDiff, eq_self, up_up, up_self, up_ne, ne_eq, not_false_eq_true, Int.reduceEq, Int.reduceNeg] at h9; first | (exfalso; omega) | skip) | skip) | exact k2 _ (by assumption) | exact h2 | exact h2 (by omega) | omega | exact True.intro | (simp only [rI_rI, rJ_rJ, hI_rI, hJ_rI, hI_rJ, hJ_rJ, hI_rR, hR_rI, hR_rJ, hN_rI, hN_rJ, svH_63, svH_66, rfH_63, wvH_63, wvH_62, wvH_67, wvH_68, wvH_69, sc_63, sc_n62, sc_n67, sc_n68, sc_n69, sc_n70, reduceIte, Nat.reduceEqDiff, eq_self, up_up, up_self, up_ne, ne_eq, not_false_eq_true, Int.reduceEq, Int.reduceNeg]; omega))
/-- a goal and what comes to it -/
def AgI (P Q : Int → Int64) (x i : Int) (s c : Int64) : Prop := Box (∀ l, l < 64 → lw Q l 320 i.toNat + b2 (lb c l) * p2 i = lw P l 320 i.toNat + (if lb s l then x % p2 i else 0))
theorem AgI.st {P Q : Int → Int64} {x i : Int} {s c : Int64} (h : AgI P Q x i s c) (h0 : 0 ≤ i) : AgI P (up Q (320 + i) (P (320 + i) ^^^ (spr x i &&& s) ^^^ c)) x (i + 1) s (P (320 + i) &&& (spr x i &&& s) ||| c &&& (P (320 + i) ^^^ (spr x i &&& s))) := Box.i fun l hl => by
  have e := h.o l hl
  rw [lw_upi h0, lw_i P l 320 h0, p2_succ h0]
  simp only [lb_xor, lb_and, lb_or]
  have q := fa_step (lb (P (320 + i)) l) (lb (spr x i) l && lb s l) (lb c l) e
  refine q.trans ?_
  rw [Int.add_assoc, Int.add_assoc]
  congr 2
  rw [lb_spr' x i hl, Int.mul_comm 2, emod2 x (p2_pos i), Int.mul_comm (p2 i), ← b2_ib]
  cases lb s l <;> cases ib x i <;> simp [b2]
theorem AgI.fin {P Q : Int → Int64} {x : Int} {s c : Int64} (h : AgI P Q x 8 s c) (x0 : 0 ≤ x) (x1 : x < 256) : Ln Q 320 8 (fun l => (lw P l 320 (8 : Int).toNat + (if lb s l then x else 0)) % 256) := Box.i fun l hl => by
  have r := lw_rngi Q l 320 (show (0 : Int) ≤ 8 by decide)
  have e := h.o l hl
  rw [p2_8, Int.emod_eq_of_lt x0 x1] at e
  rw [p2_8] at r
  show _ = (lw P l 320 (8 : Int).toNat + (if lb s l then x else 0)) % 256
  rw [← e, Int.add_mul_emod_self_right, Int.emod_eq_of_lt r.1 r.2]
theorem m_X3_setGoalToDifference : MM 50 s_X3_setGoalToDifference := mm_of (own := 2) (by rfl) k_X3_setGoalToDifference (cl := [(5, s_X0_get), (70, s_X3_differs)]) ⟨m_X0_get, m_X3_differs, trivial⟩ o_X3_setGoalToDifference
def s_X3_addToGoal : CS := (zc 2, ap [(3, 43), (0, 0), (1, 0)] (fun x s h Rt X =>
(1 ≤ x ∧ x ≤ 9) ∧ ∀ Q, Wr (hJ h 44) Q 320 8 → Ln Q 320 8 (fun l => (lw (hJ h 44) l 320 (8 : Int).toNat + (if lb s l then x else 0)) % 256) → Rt none (rJ h 44 Q)))
set_option maxRecDepth 100000 in
set_option maxHeartbeats 4000000 in
theorem o_X3_addToGoal : Obl true 0 11 (sp [(53, s_X3_spread)]) [] code_X3_addToGoal s_X3_addToGoal := by
  refine oblL (by rfl) [(6, [0, 1, 2, 4, 6])] ?_
  intro x r_x s h Rt X hh hf hs
  obtain ⟨⟨x0, x1⟩, h2⟩ := hs
  refine ⟨fun m pc vs g => ∃ (i : Int) (Q : Int → Int64) (c : Int64), g = rJ h 44 Q ∧ vs = [.inr (.inr (some 43)), .inl x, .inr (.inl s), .inr (.inl c), .inl i] ∧ 0 ≤ i ∧ i ≤ 8 ∧ Wr (hJ h 44) Q 320 i ∧ AgI (hJ h 44) Q x i s c ∧ m = (8 - i).toNat, ?_, ?_⟩
  · have z : AgI (hJ h 44) (hJ h 44) x 0 s 0 := Box.i fun l hl => by
      rw [lb_0, p2_0, Int.emod_one]
      show (0 : Int) + 0 * 1 = 0 + if lb s l then 0 else 0
      split <;> rfl
    repeat' (first | apply And.intro | (with_reducible assumption) | (intro h9; first | (exfalso; omega) | (simp only [rI_rI, rJ_rJ, hI_rI, hJ_rI, hI_rJ, hJ_rJ, hI_rR, hR_rI, hR_rJ, hN_rI, hN_rJ, svH_63, svH_66, rfH_63, wvH_63, wvH_62, wvH_67, wvH_68, wvH_69, sc_63, sc_n62, sc_n67, sc_n68, sc_n69, sc_n70, reduceIte, Nat.reduceEqDiff, eq_self, up_up, up_self, up_ne, ne_eq, not_false_eq_true, Int.reduceEq, Int.reduceNeg] at h9; first | (exfalso; omega) | skip) | skip) | exact Exists.intro _ ⟨0, hJ h 44, 0, (rJ_id h 44).symm, rfl, by omega, by omega, Wr.z _ _, z, rfl⟩ | exact h2 | exact h2 (by omega) | omega | exact True.intro | (simp only [rI_rI, rJ_rJ, hI_rI, hJ_rI, hI_rJ, hJ_rJ, hI_rR, hR_rI, hR_rJ, hN_rI, hN_rJ, svH_63, svH_66, rfH_63, wvH_63, wvH_62, wvH_67, wvH_68, wvH_69, sc_63, sc_n62, sc_n67, sc_n68, sc_n69, sc_n70, reduceIte, Nat.reduceEqDiff, eq_self, up_up, up_self, up_ne, ne_eq, not_false_eq_true, Int.reduceEq, Int.reduceNeg]; omega))
  · rintro m pc live vs g hl ⟨i, Q, c, rfl, rfl, i1, i2, i3, i4, rfl⟩ hv hh1 hf1
    obtain ⟨rfl, rfl⟩ := look1 hl
    by_cases z : i < 8
    · have e1 : hJ (rJ h 44 Q) 44 (320 + i) = hJ h 44 (320 + i) := i3.o _ (by omega)
      have i5 := i4.st i1
      rw [← e1] at i5
      repeat' (first | apply And.intro | (with_reducible assumption) | (intro h9; first | (exfalso; omega) | (simp only [rI_rI, rJ_rJ, hI_rI, hJ_rI, hI_rJ, hJ_rJ, hI_rR, hR_rI, hR_rJ, hN_rI, hN_rJ, svH_63, svH_66, rfH_63, wvH_63, wvH_62, wvH_67, wvH_68, wvH_69, sc_63, sc_n62, sc_n67, sc_n68, sc_n69, sc_n70, reduceIte, Nat.reduceEqDiff, eq_self, up_up, up_self, up_ne, ne_eq, not_false_eq_true, Int.reduceEq, Int.reduceNeg] at h9; first | (exfalso; omega) | skip) | skip) | exact Exists.intro _ ⟨by omega, i + 1, _, _, rJ_44 _ _ _ _, rfl, by omega, by omega, i3.st _ i1, i5, rfl⟩ | exact h2 | exact h2 (by omega) | omega | exact True.intro | (simp only [rI_rI, rJ_rJ, hI_rI, hJ_rI, hI_rJ, hJ_rJ, hI_rR, hR_rI, hR_rJ, hN_rI, hN_rJ, svH_63, svH_66, rfH_63, wvH_63, wvH_62, wvH_67, wvH_68, wvH_69, sc_63, sc_n62, sc_n67, sc_n68, sc_n69, sc_n70, reduceIte, Nat.reduceEqDiff, eq_self, up_up, up_self, up_ne, ne_eq, not_false_eq_true, Int.reduceEq, Int.reduceNeg]; omega))
    · obtain rfl : i = 8 := by omega
      have k2 := h2 Q i3 (i4.fin (by omega) (by omega))
      repeat' (first | apply And.intro | (with_reducible assumption) | (intro h9; first | (exfalso; omega) | (simp only [rI_rI, rJ_rJ, hI_rI, hJ_rI, hI_rJ, hJ_rJ, hI_rR, hR_rI, hR_rJ, hN_rI, hN_rJ, svH_63, svH_66, rfH_63, wvH_63, wvH_62, wvH_67, wvH_68, wvH_69, sc_63, sc_n62, sc_n67, sc_n68, sc_n69, sc_n70, reduceIte, Nat.reduceEqDiff, eq_self, up_up, up_self, up_ne, ne_eq, not_false_eq_true, Int.reduceEq, Int.reduceNeg] at h9; first | (exfalso; omega) | skip) | skip) | exact k2 | exact h2 | exact h2 (by omega) | omega | exact True.intro | (simp only [rI_rI, rJ_rJ, hI_rI, hJ_rI, hI_rJ, hJ_rJ, hI_rR, hR_rI, hR_rJ, hN_rI, hN_rJ, svH_63, svH_66, rfH_63, wvH_63, wvH_62, wvH_67, wvH_68, wvH_69, sc_63, sc_n62, sc_n67, sc_n68, sc_n69, sc_n70, reduceIte, Nat.reduceEqDiff, eq_self, up_up, up_self, up_ne, ne_eq, not_false_eq_true, Int.reduceEq, Int.reduceNeg]; omega))
/-- the gain in a lane -/
def gnL (w : Int → Int) (P : Int → Int64) (l : Nat) : Nat → Int
  | 0 => 0
  | k + 1 => gnL w P l k + lv w P l (w (333 + (k : Int))) * w (341 + (k : Int))
theorem gnL_i (w : Int → Int) (P : Int → Int64) (l : Nat) {k : Int} (h : 0 ≤ k) : gnL w P l (k + 1).toNat = gnL w P l k.toNat + lv w P l (w (333 + k)) * w (341 + k) := by
  rw [show (k + 1).toNat = k.toNat + 1 by omega]
  show gnL w P l k.toNat + lv w P l (w (333 + (k.toNat : Int))) * w (341 + (k.toNat : Int)) = _
  rw [show ((k.toNat : Nat) : Int) = k by omega]
theorem lv1 {w : Int → Int} {P : Int → Int64} {l : Nat} {n : Int} (h : nd w n 1 = 1) : lv w P l n = b2 (lb (P (n * 8)) l) := by
  unfold lv
  rw [h, lw_1]
theorem gnL_rng {w : Int → Int} (hW : WF w) (P : Int → Int64) (l : Nat) : ∀ k : Nat, (k : Int) ≤ w 332 → 0 ≤ gnL w P l k ∧ gnL w P l k ≤ 9 * k := by
  intro k
  induction k with
  | zero => intro _; exact ⟨Int.le_refl _, by show (0 : Int) ≤ _; omega⟩
  | succ k ih =>
    intro h
    have a := ih (by omega)
    have c := hW.wish (k := k) (by omega) (by omega)
    have e : gnL w P l (k + 1) = gnL w P l k + lv w P l (w (333 + (k : Int))) * w (341 + (k : Int)) := rfl
    rw [e, lv1 c.2.2.1]
    rcases b2_01 (lb (P (w (333 + (k : Int)) * 8)) l) with u | u <;> rw [u] <;> omega
theorem gl_st {w : Int → Int} {P Q Q' : Int → Int64} {i x : Int} {s : Int64} (hW : WF w) (h0 : 0 ≤ i) (h1 : i < w 332) (hw : Wr P Q 320 8) (h : Ln Q 320 8 (fun l => gnL w P l i.toNat)) (hs : s = Q (w (333 + i) * 8 + 0)) (hx : x = w (341 + i)) (h' : Ln Q' 320 8 (fun l => (lw Q l 320 (8 : Int).toNat + (if lb s l then x else 0)) % 256)) : Ln Q' 320 8 (fun l => gnL w P l (i + 1).toNat) := Box.i fun l hl => by
  have c := hW.wish h0 h1
  have n0 := hW.nn
  have w0 := hW.wn
  have r := gnL_rng hW P l (i + 1).toNat (by omega)
  have e := gnL_i w P l h0
  have es : s = P (w (333 + i) * 8) := by rw [hs, Int.add_zero]; exact hw.o _ (by omega)
  rw [lv1 c.2.2.1, ← es] at e
  have e2 : lw Q l 320 (8 : Int).toNat = gnL w P l i.toNat := h.o l hl
  rw [h'.o l hl]
  dsimp only
  rw [e2]
  show _ = gnL w P l (i + 1).toNat
  have e3 : gnL w P l i.toNat + (if lb s l then x else 0) = gnL w P l (i + 1).toNat := by
    rw [e, hx]
    cases lb s l <;> simp [b2]
  rw [e3, Int.emod_eq_of_lt r.1 (by omega)]
theorem St0.wn {f : Nat → Int → Int} {w : Int → Int} (h : St0 f 5 w) : f 5 5 = w 332 := h.o.2.2.1
theorem St0.ws {f : Nat → Int → Int} {w : Int → Int} (h : St0 f 5 w) {k : Int} (h0 : 0 ≤ k) (h1 : k < w 332) : f 8 k = w (333 + k) ∧ f 9 k = w (341 + k) := h.o.2.2.2.2.1 k h0 h1
theorem St0.cn {f : Nat → Int → Int} {w : Int → Int} (h : St0 f 5 w) : f 5 2 = w 290 := h.o.2.1
theorem St0.cs {f : Nat → Int → Int} {w : Int → Int} (h : St0 f 5 w) {k : Int} (h0 : 0 ≤ k) (h1 : k < w 290) : f 6 k = w (291 + k) ∧ f 7 k = w (311 + k) := h.o.2.2.2.1 k h0 h1
theorem St0.lv {f : Nat → Int → Int} {w : Int → Int} (h : St0 f 5 w) : f 5 1 = w 331 := h.o.1
theorem St0.ip {f : Nat → Int → Int} {w : Int → Int} (h : St0 f 5 w) {v : Int} (h0 : 0 ≤ v) (h1 : v < w 281) : f 10 v = w (286 + v) := h.o.2.2.2.2.2 v h0 h1
theorem Wr.full {P Q : Int → Int64} {a i k : Int} (h : Wr P Q a k) (x : Int64) (h0 : 0 ≤ i) (h1 : i < k) : Wr P (up Q (a + i) x) a k := h.in x h0 h1
theorem m_X3_addToGoal : MM 52 s_X3_addToGoal := mm_of (own := 2) (by rfl) k_X3_addToGoal (cl := [(53, s_X3_spread)]) ⟨m_X3_spread, trivial⟩ o_X3_addToGoal
def s_X3_setGoalToGain : CS := (zc 3, ap [(3, 43), (3, 5)] (fun  h Rt X =>
∃ w, St0 (hI h) 5 w ∧ WF w ∧ ∀ Q, Wr (hJ h 44) Q 320 8 → Ln Q 320 8 (fun l => gnL w (hJ h 44) l (w 332).toNat) → Rt none (rJ h 44 Q)))
set_option maxRecDepth 100000 in
set_option maxHeartbeats 4000000 in
theorem o_X3_setGoalToGain : Obl true 0 3 (sp [(47, s_X3_plane), (52, s_X3_addToGoal)]) [] code_X3_setGoalToGain s_X3_setGoalToGain := by
  refine oblL (by rfl) [(2, [0, 1, 2]), (27, [0, 1, 2])] ?_
  intro  h Rt X hh hf hs
  obtain ⟨w, hS, hW, h2⟩ := hs
  have s0 := hS.wn
  have w0 := hW.wn
  have n0 := hW.nn
  refine ⟨fun m pc vs g => ∃ (i : Int) (Q : Int → Int64), g = rJ h 44 Q ∧ vs = [.inr (.inr (some 43)), .inr (.inr (some 5)), .inl i] ∧ 0 ≤ i ∧ ((pc = 2 ∧ i ≤ 8 ∧ Wr (hJ h 44) Q 320 i ∧ Bt Q 320 i (fun _ _ => false) ∧ m = 1000 + (8 - i).toNat) ∨ (pc = 27 ∧ i ≤ w 332 ∧ Wr (hJ h 44) Q 320 8 ∧ Ln Q 320 8 (fun l => gnL w (hJ h 44) l i.toNat) ∧ m = (w 332 - i).toNat)), ?_, ?_⟩
  · repeat' (first | apply And.intro | (with_reducible assumption) | (intro h9; first | (exfalso; omega) | (simp only [rI_rI, rJ_rJ, hI_rI, hJ_rI, hI_rJ, hJ_rJ, hI_rR, hR_rI, hR_rJ, hN_rI, hN_rJ, svH_63, svH_66, rfH_63, wvH_63, wvH_62, wvH_67, wvH_68, wvH_69, sc_63, sc_n62, sc_n67, sc_n68, sc_n69, sc_n70, reduceIte, Nat.reduceEqDiff, eq_self, up_up, up_self, up_ne, ne_eq, not_false_eq_true, Int.reduceEq, Int.reduceNeg] at h9; first | (exfalso; omega) | skip) | skip) | exact Exists.intro _ ⟨0, hJ h 44, (rJ_id h 44).symm, rfl, by omega, Or.inl ⟨rfl, by omega, Wr.z _ _, Bt.z _ _ _, rfl⟩⟩ | exact h2 | exact h2 (by omega) | omega | exact True.intro | (simp only [rI_rI, rJ_rJ, hI_rI, hJ_rI, hI_rJ, hJ_rJ, hI_rR, hR_rI, hR_rJ, hN_rI, hN_rJ, svH_63, svH_66, rfH_63, wvH_63, wvH_62, wvH_67, wvH_68, wvH_69, sc_63, sc_n62, sc_n67, sc_n68, sc_n69, sc_n70, reduceIte, Nat.reduceEqDiff, eq_self, up_up, up_self, up_ne, ne_eq, not_false_eq_true, Int.reduceEq, Int.reduceNeg]; omega))
  · rintro m pc live vs g hl ⟨i, Q, rfl, rfl, i1, ⟨rfl, i2, i3, i4, rfl⟩ | ⟨rfl, i2, i3, i4, rfl⟩⟩ hv hh1 hf1
    · rcases look2 hl with ⟨_, rfl⟩ | ⟨q, _⟩
      · by_cases z : i < 8
        · have x : ∀ l, l < 64 → lb 0 l = false := fun l _ => lb_0 l
          repeat' (first | apply And.intro | (with_reducible assumption) | (intro h9; first | (exfalso; omega) | (simp only [rI_rI, rJ_rJ, hI_rI, hJ_rI, hI_rJ, hJ_rJ, hI_rR, hR_rI, hR_rJ, hN_rI, hN_rJ, svH_63, svH_66, rfH_63, wvH_63, wvH_62, wvH_67, wvH_68, wvH_69, sc_63, sc_n62, sc_n67, sc_n68, sc_n69, sc_n70, reduceIte, Nat.reduceEqDiff, eq_self, up_up, up_self, up_ne, ne_eq, not_false_eq_true, Int.reduceEq, Int.reduceNeg] at h9; first | (exfalso; omega) | skip) | skip) | exact Exists.intro _ ⟨by omega, i + 1, _, rJ_44 _ _ _ _, rfl, by omega, Or.inl ⟨rfl, by omega, i3.st _ i1, i4.st x, rfl⟩⟩ | exact h2 | exact h2 (by omega) | omega | exact True.intro | (simp only [rI_rI, rJ_rJ, hI_rI, hJ_rI, hI_rJ, hJ_rJ, hI_rR, hR_rI, hR_rJ, hN_rI, hN_rJ, svH_63, svH_66, rfH_63, wvH_63, wvH_62, wvH_67, wvH_68, wvH_69, sc_63, sc_n62, sc_n67, sc_n68, sc_n69, sc_n70, reduceIte, Nat.reduceEqDiff, eq_self, up_up, up_self, up_ne, ne_eq, not_false_eq_true, Int.reduceEq, Int.reduceNeg]; omega))
        · obtain rfl : i = 8 := by omega
          have i5 : Ln Q 320 8 (fun l => gnL w (hJ h 44) l (0 : Int).toNat) := Box.i fun l hl => (lw_zero (by decide)).mp fun j x y => i4.o j x y l hl
          repeat' (first | apply And.intro | (with_reducible assumption) | (intro h9; first | (exfalso; omega) | (simp only [rI_rI, rJ_rJ, hI_rI, hJ_rI, hI_rJ, hJ_rJ, hI_rR, hR_rI, hR_rJ, hN_rI, hN_rJ, svH_63, svH_66, rfH_63, wvH_63, wvH_62, wvH_67, wvH_68, wvH_69, sc_63, sc_n62, sc_n67, sc_n68, sc_n69, sc_n70, reduceIte, Nat.reduceEqDiff, eq_self, up_up, up_self, up_ne, ne_eq, not_false_eq_true, Int.reduceEq, Int.reduceNeg] at h9; first | (exfalso; omega) | skip) | skip) | exact Exists.intro _ ⟨by omega, 0, Q, rfl, rfl, by omega, Or.inr ⟨rfl, by omega, i3, i5, rfl⟩⟩ | exact h2 | exact h2 (by omega) | omega | exact True.intro | (simp only [rI_rI, rJ_rJ, hI_rI, hJ_rI, hI_rJ, hJ_rJ, hI_rR, hR_rI, hR_rJ, hN_rI, hN_rJ, svH_63, svH_66, rfH_63, wvH_63, wvH_62, wvH_67, wvH_68, wvH_69, sc_63, sc_n62, sc_n67, sc_n68, sc_n69, sc_n70, reduceIte, Nat.reduceEqDiff, eq_self, up_up, up_self, up_ne, ne_eq, not_false_eq_true, Int.reduceEq, Int.reduceNeg]; omega))
      · cases q
    · rcases look2 hl with ⟨q, _⟩ | ⟨_, rfl⟩
      · cases q
      · have s1 : hI (rJ h 44 Q) 5 5 = w 332 := s0
        by_cases z : i < w 332
        · have s2 := hS.ws i1 z
          have c := hW.wish i1 z
          have s3 : hI (rJ h 44 Q) 8 i = w (333 + i) := s2.1
          have s4 : hI (rJ h 44 Q) 9 i = w (341 + i) := s2.2
          have s5 : hJ (rJ h 44 Q) 44 (hI (rJ h 44 Q) 8 i * 8 + 0) = Q (w (333 + i) * 8 + 0) := by rw [s3]; rfl
          repeat' (first | apply And.intro | (with_reducible assumption) | (intro h9; first | (exfalso; omega) | (simp only [rI_rI, rJ_rJ, hI_rI, hJ_rI, hI_rJ, hJ_rJ, hI_rR, hR_rI, hR_rJ, hN_rI, hN_rJ, svH_63, svH_66, rfH_63, wvH_63, wvH_62, wvH_67, wvH_68, wvH_69, sc_63, sc_n62, sc_n67, sc_n68, sc_n69, sc_n70, reduceIte, Nat.reduceEqDiff, eq_self, up_up, up_self, up_ne, ne_eq, not_false_eq_true, Int.reduceEq, Int.reduceNeg] at h9; first | (exfalso; omega) | skip) | skip) | exact Exists.intro _ ⟨by omega, i + 1, _, rJ_rJ _ _ _ _, rfl, by omega, Or.inr ⟨rfl, by omega, i3.tr (by assumption), gl_st hW i1 z i3 i4 s5 s4 (by assumption), rfl⟩⟩ | exact h2 | exact h2 (by omega) | omega | exact True.intro | (simp only [rI_rI, rJ_rJ, hI_rI, hJ_rI, hI_rJ, hJ_rJ, hI_rR, hR_rI, hR_rJ, hN_rI, hN_rJ, svH_63, svH_66, rfH_63, wvH_63, wvH_62, wvH_67, wvH_68, wvH_69, sc_63, sc_n62, sc_n67, sc_n68, sc_n69, sc_n70, reduceIte, Nat.reduceEqDiff, eq_self, up_up, up_self, up_ne, ne_eq, not_false_eq_true, Int.reduceEq, Int.reduceNeg]; omega))
        · obtain rfl : i = w 332 := by omega
          have k2 := h2 Q i3 i4
          repeat' (first | apply And.intro | (with_reducible assumption) | (intro h9; first | (exfalso; omega) | (simp only [rI_rI, rJ_rJ, hI_rI, hJ_rI, hI_rJ, hJ_rJ, hI_rR, hR_rI, hR_rJ, hN_rI, hN_rJ, svH_63, svH_66, rfH_63, wvH_63, wvH_62, wvH_67, wvH_68, wvH_69, sc_63, sc_n62, sc_n67, sc_n68, sc_n69, sc_n70, reduceIte, Nat.reduceEqDiff, eq_self, up_up, up_self, up_ne, ne_eq, not_false_eq_true, Int.reduceEq, Int.reduceNeg] at h9; first | (exfalso; omega) | skip) | skip) | exact k2 | exact h2 | exact h2 (by omega) | omega | exact True.intro | (simp only [rI_rI, rJ_rJ, hI_rI, hJ_rI, hI_rJ, hJ_rJ, hI_rR, hR_rI, hR_rJ, hN_rI, hN_rJ, svH_63, svH_66, rfH_63, wvH_63, wvH_62, wvH_67, wvH_68, wvH_69, sc_63, sc_n62, sc_n67, sc_n68, sc_n69, sc_n70, reduceIte, Nat.reduceEqDiff, eq_self, up_up, up_self, up_ne, ne_eq, not_false_eq_true, Int.reduceEq, Int.reduceNeg]; omega))
theorem m_X3_setGoalToGain : MM 51 s_X3_setGoalToGain := mm_of (own := 2) (by rfl) k_X3_setGoalToGain (cl := [(47, s_X3_plane), (52, s_X3_addToGoal)]) ⟨m_X3_plane, m_X3_addToGoal, trivial⟩ o_X3_setGoalToGain

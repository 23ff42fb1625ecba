/-! ===== the class: nodes cut off, states, what is saved ===== -/
/-- the nodes and variables of u are the first ones of w -/
def Pfx (u w : Int → Int) : Prop := Box (0 ≤ u 0 ∧ u 0 ≤ w 0 ∧ 0 ≤ u 281 ∧ u 281 ≤ w 281 ∧ (∀ n j, 0 ≤ n → n < u 0 → 0 ≤ j → j < 7 → nd u n j = nd w n j) ∧ (∀ v, 0 ≤ v → v < u 281 → u (282 + v) = w (282 + v) ∧ u (282 + v) < u 0) ∧ ∀ v, u 281 ≤ v → v < w 281 → u 0 ≤ w (282 + v))
theorem GR.cut {f1 f2 f3 f4 u w : Int → Int} (G : GR f1 f2 f3 f4 w) (hP : Pfx u w) (hW : WF w) : GR (up (up f1 3 (u 0)) 4 (u 281)) f2 f3 f4 u := by
  obtain ⟨p1, p2, p3, p4, p5, p6, p7⟩ := hP.o
  obtain ⟨h1, h2, h3, h4⟩ := G.o
  refine Box.i ⟨by rw [up_ne (by decide), up_self], up_self _ _ _, fun n z0 z1 => ?_, fun v z0 z1 => ?_⟩
  · have := h3 n z0 (by omega)
    rw [p5 n 0 z0 z1 (by decide) (by decide), p5 n 1 z0 z1 (by decide) (by decide), p5 n 2 z0 z1 (by decide) (by decide), p5 n 3 z0 z1 (by decide) (by decide), p5 n 4 z0 z1 (by decide) (by decide), p5 n 5 z0 z1 (by decide) (by decide), p5 n 6 z0 z1 (by decide) (by decide)]
    exact this
  · rw [(p6 v z0 z1).1, (h4 v z0 (by omega)).2]
    refine ⟨(h4 v z0 (by omega)).1, (sumW_cg _ fun x x0 x1 => ⟨(p6 x x0 (by omega)).1, ?_⟩).symm⟩
    have r := hW.var x0 (show x < w 281 by omega)
    have q := p6 x x0 (by omega)
    exact p5 _ 1 r.1 (by omega) (by decide) (by decide)
def s_X0_cutTo : CS := (zc 1, ap [(3, 1), (0, 0)] (fun n h Rt X =>
∃ w u, GH h w ∧ WF w ∧ Pfx u w ∧ n = u 0 ∧ ∀ f, GR f (hI h 2) (hI h 3) (hI h 4) u → Rt none (rI h 1 f)))
set_option maxRecDepth 100000 in
set_option maxHeartbeats 4000000 in
theorem o_X0_cutTo : Obl true 0 2 (sp []) [] code_X0_cutTo s_X0_cutTo := by
  refine oblL (by rfl) [(12, [0])] ?_
  intro n r_n h Rt X hh hf hs
  obtain ⟨w, u, hG, hW, hP, h0, h2⟩ := hs
  obtain ⟨p1, p2, p3, p4, p5, p6, p7⟩ := hP.o
  have c1 := hG.n
  have c2 := hG.v
  have c3 := hW.nn
  have c4 := hW.vn
  refine ⟨fun m pc vs g => ∃ (i : Int), g = rI h 1 (up (up (hI h 1) 3 (u 0)) 4 i) ∧ vs = [.inr (.inr (some 1))] ∧ u 281 ≤ i ∧ i ≤ w 281 ∧ m = i.toNat, ?_, ?_⟩
  · have e : ∀ x, x = u 0 → rI h 1 (up (hI h 1) 3 x) = rI h 1 (up (up (hI h 1) 3 (u 0)) 4 (w 281)) := fun x hx => by
      rw [hx, ← c2, up_comm _ (by decide : (3 : Int) ≠ 4), up_id]
    repeat' (first | apply And.intro | (with_reducible assumption) | (intro h9; first | (exfalso; omega) | (simp only [rI_rI, rJ_rJ, hI_rI, hJ_rI, hI_rJ, hJ_rJ, hR_rI, hR_rJ, hN_rI, hN_rJ, svH_63, svH_66, rfH_63, wvH_63, wvH_62, wvH_67, wvH_68, wvH_69, sc_63, sc_n62, sc_n67, sc_n68, sc_n69, sc_n70, reduceIte, Nat.reduceEqDiff, eq_self, up_up, up_self, up_ne, ne_eq, not_false_eq_true, Int.reduceEq, Int.reduceNeg] at h9; first | (exfalso; omega) | skip) | skip) | exact Exists.intro _ ⟨w 281, e _ (by omega), rfl, by omega, by omega, rfl⟩ | exact h0 | exact h0 (by omega) | exact h2 | exact h2 (by omega) | omega | exact True.intro | (simp only [rI_rI, rJ_rJ, hI_rI, hJ_rI, hI_rJ, hJ_rJ, hR_rI, hR_rJ, hN_rI, hN_rJ, svH_63, svH_66, rfH_63, wvH_63, wvH_62, wvH_67, wvH_68, wvH_69, sc_63, sc_n62, sc_n67, sc_n68, sc_n69, sc_n70, reduceIte, Nat.reduceEqDiff, eq_self, up_up, up_self, up_ne, ne_eq, not_false_eq_true, Int.reduceEq, Int.reduceNeg]; omega))
  · rintro m pc live vs g hl ⟨i, rfl, rfl, i1, i2, rfl⟩ hv hh1 hf1
    obtain ⟨rfl, rfl⟩ := look1 hl
    have e1 : hI (rI h 1 (up (up (hI h 1) 3 (u 0)) 4 i)) 1 4 = i := by show up (up (hI h 1) 3 (u 0)) 4 i 4 = i; exact up_self _ _ _
    have e2 : hI (rI h 1 (up (up (hI h 1) 3 (u 0)) 4 i)) 1 3 = u 0 := by show up (up (hI h 1) 3 (u 0)) 4 i 3 = u 0; rw [up_ne (by decide), up_self]
    have e3 : rI (rI h 1 (up (up (hI h 1) 3 (u 0)) 4 i)) 1 (up (up (up (hI h 1) 3 (u 0)) 4 i) 4 (i - 1)) = rI h 1 (up (up (hI h 1) 3 (u 0)) 4 (i - 1)) := by rw [rI_rI, up_up]
    by_cases z : u 281 < i
    · have q1 := hG.vn (v := i - 1) (by omega) (by omega)
      have q2 := p7 (i - 1) (by omega) (by omega)
      rw [show 282 + (i - 1) = 282 + (i - 1) from rfl, ← q1] at q2
      have e4 : hI (rI h 1 (up (up (hI h 1) 3 (u 0)) 4 i)) 3 (hI (rI h 1 (up (up (hI h 1) 3 (u 0)) 4 i)) 1 4 - 1) = hI h 3 (i - 1) := by rw [e1]; rfl
      repeat' (first | apply And.intro | (with_reducible assumption) | (intro h9; first | (exfalso; omega) | (simp only [rI_rI, rJ_rJ, hI_rI, hJ_rI, hI_rJ, hJ_rJ, hR_rI, hR_rJ, hN_rI, hN_rJ, svH_63, svH_66, rfH_63, wvH_63, wvH_62, wvH_67, wvH_68, wvH_69, sc_63, sc_n62, sc_n67, sc_n68, sc_n69, sc_n70, reduceIte, Nat.reduceEqDiff, eq_self, up_up, up_self, up_ne, ne_eq, not_false_eq_true, Int.reduceEq, Int.reduceNeg] at h9; first | (exfalso; omega) | skip) | skip) | exact Exists.intro _ ⟨by omega, i - 1, (by refine Eq.trans ?_ e3; rw [e1] <;> rfl), rfl, by omega, by omega, rfl⟩ | exact h0 | exact h0 (by omega) | exact h2 | exact h2 (by omega) | omega | exact True.intro | (simp only [rI_rI, rJ_rJ, hI_rI, hJ_rI, hI_rJ, hJ_rJ, hR_rI, hR_rJ, hN_rI, hN_rJ, svH_63, svH_66, rfH_63, wvH_63, wvH_62, wvH_67, wvH_68, wvH_69, sc_63, sc_n62, sc_n67, sc_n68, sc_n69, sc_n70, reduceIte, Nat.reduceEqDiff, eq_self, up_up, up_self, up_ne, ne_eq, not_false_eq_true, Int.reduceEq, Int.reduceNeg]; omega))
    · obtain rfl : i = u 281 := by omega
      have k2 := h2 _ (GR.cut hG hP hW)
      by_cases y : 0 < u 281
      · have q1 := hG.vn (v := u 281 - 1) (by omega) (by omega)
        have q2 := p6 (u 281 - 1) (by omega) (by omega)
        rw [q2.1, ← q1] at q2
        have e4 : hI (rI h 1 (up (up (hI h 1) 3 (u 0)) 4 (u 281))) 3 (hI (rI h 1 (up (up (hI h 1) 3 (u 0)) 4 (u 281))) 1 4 - 1) = hI h 3 (u 281 - 1) := by rw [e1]; rfl
        repeat' (first | apply And.intro | (with_reducible assumption) | (intro h9; first | (exfalso; omega) | (simp only [rI_rI, rJ_rJ, hI_rI, hJ_rI, hI_rJ, hJ_rJ, hR_rI, hR_rJ, hN_rI, hN_rJ, svH_63, svH_66, rfH_63, wvH_63, wvH_62, wvH_67, wvH_68, wvH_69, sc_63, sc_n62, sc_n67, sc_n68, sc_n69, sc_n70, reduceIte, Nat.reduceEqDiff, eq_self, up_up, up_self, up_ne, ne_eq, not_false_eq_true, Int.reduceEq, Int.reduceNeg] at h9; first | (exfalso; omega) | skip) | skip) | exact k2 | exact h0 | exact h0 (by omega) | exact h2 | exact h2 (by omega) | omega | exact True.intro | (simp only [rI_rI, rJ_rJ, hI_rI, hJ_rI, hI_rJ, hJ_rJ, hR_rI, hR_rJ, hN_rI, hN_rJ, svH_63, svH_66, rfH_63, wvH_63, wvH_62, wvH_67, wvH_68, wvH_69, sc_63, sc_n62, sc_n67, sc_n68, sc_n69, sc_n70, reduceIte, Nat.reduceEqDiff, eq_self, up_up, up_self, up_ne, ne_eq, not_false_eq_true, Int.reduceEq, Int.reduceNeg]; omega))
      · repeat' (first | apply And.intro | (with_reducible assumption) | (intro h9; first | (exfalso; omega) | (simp only [rI_rI, rJ_rJ, hI_rI, hJ_rI, hI_rJ, hJ_rJ, hR_rI, hR_rJ, hN_rI, hN_rJ, svH_63, svH_66, rfH_63, wvH_63, wvH_62, wvH_67, wvH_68, wvH_69, sc_63, sc_n62, sc_n67, sc_n68, sc_n69, sc_n70, reduceIte, Nat.reduceEqDiff, eq_self, up_up, up_self, up_ne, ne_eq, not_false_eq_true, Int.reduceEq, Int.reduceNeg] at h9; first | (exfalso; omega) | skip) | skip) | exact k2 | exact h0 | exact h0 (by omega) | exact h2 | exact h2 (by omega) | omega | exact True.intro | (simp only [rI_rI, rJ_rJ, hI_rI, hJ_rI, hI_rJ, hJ_rJ, hR_rI, hR_rJ, hN_rI, hN_rJ, svH_63, svH_66, rfH_63, wvH_63, wvH_62, wvH_67, wvH_68, wvH_69, sc_63, sc_n62, sc_n67, sc_n68, sc_n69, sc_n70, reduceIte, Nat.reduceEqDiff, eq_self, up_up, up_self, up_ne, ne_eq, not_false_eq_true, Int.reduceEq, Int.reduceNeg]; omega))
/-- a state's rows hold all of w but its nodes -/
def St0 (f : Nat → Int → Int) (a : Nat) (w : Int → Int) : Prop := Box (f a 1 = w 331 ∧ f a 2 = w 290 ∧ f a 5 = w 332 ∧ (∀ k, 0 ≤ k → k < w 290 → f (a + 1) k = w (291 + k) ∧ f (a + 2) k = w (311 + k)) ∧ (∀ k, 0 ≤ k → k < w 332 → f (a + 3) k = w (333 + k) ∧ f (a + 4) k = w (341 + k)) ∧ ∀ v, 0 ≤ v → v < w 281 → f (a + 5) v = w (286 + v))
/-- counts of a row that lie in their bounds -/
def Cts (w : Int → Int) : Prop := Box ((0 ≤ w 290 ∧ w 290 ≤ 20) ∧ (0 ≤ w 332 ∧ w 332 ≤ 8) ∧ (0 ≤ w 281 ∧ w 281 ≤ 4))
theorem WF.cts {w : Int → Int} (h : WF w) : Cts w := Box.i ⟨h.cn, h.wn, h.vn⟩
/-- h with the rows of one state anew -/
def stH (h : Hp) (a : Nat) (f : Nat → Int → Int) : Hp := (h.1, (fun q => if a ≤ q ∧ q < a + 6 then f q else h.2.1 q), h.2.2)
def cpy (n : Int) (f g : Int → Int) : Int → Int := fun k => if 0 ≤ k ∧ k < 0 + n then f (0 + (k - 0)) else g k
/-- what copying a state writes -/
def cpS (f : Nat → Int → Int) (a b : Nat) : Nat → Int → Int := fun q => if q = a then up (up (up (up (f a) 0 (f b 0)) 1 (f b 1)) 2 (f b 2)) 5 (f b 5) else if q = a + 1 then cpy 20 (f (b + 1)) (f (a + 1)) else if q = a + 2 then cpy 20 (f (b + 2)) (f (a + 2)) else if q = a + 3 then cpy 8 (f (b + 3)) (f (a + 3)) else if q = a + 4 then cpy 8 (f (b + 4)) (f (a + 4)) else cpy 4 (f (b + 5)) (f (a + 5))
theorem cpS_st {f : Nat → Int → Int} {a b : Nat} {w : Int → Int} (h : St0 f b w) (c : Cts w) : St0 (cpS f a b) a w := by
  obtain ⟨h1, h2, h3, h4, h5, h6⟩ := h.o
  obtain ⟨c1, c2, c3⟩ := c.o
  have e0 : cpS f a b a = up (up (up (up (f a) 0 (f b 0)) 1 (f b 1)) 2 (f b 2)) 5 (f b 5) := by unfold cpS; rw [if_pos rfl]
  have e1 : cpS f a b (a + 1) = cpy 20 (f (b + 1)) (f (a + 1)) := by unfold cpS; rw [if_neg (by omega), if_pos rfl]
  have e2 : cpS f a b (a + 2) = cpy 20 (f (b + 2)) (f (a + 2)) := by unfold cpS; rw [if_neg (by omega), if_neg (by omega), if_pos rfl]
  have e3 : cpS f a b (a + 3) = cpy 8 (f (b + 3)) (f (a + 3)) := by unfold cpS; rw [if_neg (by omega), if_neg (by omega), if_neg (by omega), if_pos rfl]
  have e4 : cpS f a b (a + 4) = cpy 8 (f (b + 4)) (f (a + 4)) := by unfold cpS; rw [if_neg (by omega), if_neg (by omega), if_neg (by omega), if_neg (by omega), if_pos rfl]
  have e5 : cpS f a b (a + 5) = cpy 4 (f (b + 5)) (f (a + 5)) := by unfold cpS; rw [if_neg (by omega), if_neg (by omega), if_neg (by omega), if_neg (by omega), if_neg (by omega)]
  have y : ∀ n f g k, 0 ≤ k → k < n → cpy n f g k = f k := fun n f g k a b => by
    unfold cpy
    rw [if_pos ⟨a, by omega⟩]
    congr 1
    omega
  refine Box.i ⟨?_, ?_, ?_, fun k k0 k1 => ?_, fun k k0 k1 => ?_, fun v v0 v1 => ?_⟩
  · rw [e0, up_ne (by decide), up_ne (by decide), up_self, h1]
  · rw [e0, up_ne (by decide), up_self, h2]
  · rw [e0, up_self, h3]
  · rw [e1, e2, y _ _ _ k k0 (by omega), y _ _ _ k k0 (by omega)]; exact h4 k k0 k1
  · rw [e3, e4, y _ _ _ k k0 (by omega), y _ _ _ k k0 (by omega)]; exact h5 k k0 k1
  · rw [e5, y _ _ _ v v0 (by omega)]; exact h6 v v0 v1
theorem cpS_0 (f : Nat → Int → Int) (a b : Nat) : cpS f a b a 0 = f b 0 := by
  unfold cpS
  rw [if_pos rfl, up_ne (by decide), up_ne (by decide), up_ne (by decide), up_self]
theorem m_X0_cutTo : MM 9 s_X0_cutTo := mm_of (own := 0) (by rfl) k_X0_cutTo (cl := []) trivial o_X0_cutTo

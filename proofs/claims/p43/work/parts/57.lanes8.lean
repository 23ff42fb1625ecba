/-! ===== the class: nodes in lanes ===== -/
/-- the values of the nodes in a lane -/
def lv (w : Int → Int) (P : Int → Int64) (l : Nat) : Int → Int := fun m => lw P l (m * 8) (nd w m 1).toNat
def LnN (w : Int → Int) (E : Nat → Int → Int) (P Q : Int → Int64) (n : Int) : Prop := Box (∀ l, l < 64 → lw Q l (n * 8) (nd w n 1).toNat = nV w (E l) (lv w P l) n)
theorem nV_k {w env f : Int → Int} {n k : Int} (h : nd w n 0 = k) : nV w env f n = opV k (nd w n 1) (nd w (nd w n 2) 1) (nd w (nd w n 3) 1) (f (nd w n 2)) (f (nd w n 3)) (f (nd w n 4)) (nd w n 5) (nd w n 6) env := by unfold nV; rw [h]
def arW (k A B wd : Int) : Int := if k = 2 then (A + B) % p2 wd else if k = 3 then (A - B) % p2 wd else A * B % p2 wd
theorem opV_ar {k wd wa wb a b c x lo : Int} {env : Int → Int} (h : 2 ≤ k) (h' : k ≤ 4) : opV k wd wa wb a b c x lo env = arW k a b wd := by
  have : k = 2 ∨ k = 3 ∨ k = 4 := by omega
  rcases this with rfl | rfl | rfl <;> rfl
theorem opV_bt {k wd wa wb a b c x lo : Int} {env : Int → Int} (h : 5 ≤ k) (h' : k ≤ 7) : opV k wd wa wb a b c x lo env = bitK k a b := by
  have : k = 5 ∨ k = 6 ∨ k = 7 := by omega
  rcases this with rfl | rfl | rfl <;> rfl
theorem opV_sh {k wd wa wb a b c x lo : Int} {env : Int → Int} (h : 8 ≤ k) (h' : k ≤ 10) : opV k wd wa wb a b c x lo env = shfW k a b wd := by
  have : k = 8 ∨ k = 9 ∨ k = 10 := by omega
  rcases this with rfl | rfl | rfl <;> rfl
theorem opV_dv {k wd wa wb a b c x lo : Int} {env : Int → Int} (h : 11 ≤ k) (h' : k ≤ 12) : opV k wd wa wb a b c x lo env = dvW k a b wd := by
  have : k = 11 ∨ k = 12 := by omega
  rcases this with rfl | rfl <;> rfl
theorem opV_cm {k wd wa wb a b c x lo : Int} {env : Int → Int} (h : 13 ≤ k) (h' : k ≤ 17) : opV k wd wa wb a b c x lo env = cmpW k a b wa := by
  have : k = 13 ∨ k = 14 ∨ k = 15 ∨ k = 16 ∨ k = 17 := by omega
  rcases this with rfl | rfl | rfl | rfl | rfl <;> rfl
theorem jn_fin {P Q1 Q2 : Int → Int64} {to a b wa wb : Int} (ha : 0 ≤ wa) (hb : 0 ≤ wb) (h8 : wa + wb ≤ 8) (a2 : a + 8 ≤ to) (w1 : Wr P Q1 to wb) (m1 : Mv P Q1 to b wb) (w2 : Wr Q1 Q2 (to + wb) wa) (m2 : Mv Q1 Q2 (to + wb) a wa) :
    Wr P Q2 to (wa + wb) ∧ ∀ l, lw Q2 l to (wa + wb).toNat = lw P l a wa.toNat * p2 wb + lw P l b wb.toNat := by
  refine ⟨Box.i fun x hx => by rw [w2.o x (by omega), w1.o x (by omega)], fun l => ?_⟩
  have u1 : lw Q2 l (to + wb) wa.toNat = lw P l a wa.toNat := lw_cg wa.toNat fun j x y => by rw [m2.o j x (by omega), w1.o _ (by omega)]
  have u2 : lw Q1 l to wb.toNat = lw P l b wb.toNat := lw_cg wb.toNat fun j x y => by rw [m1.o j x (by omega)]
  rw [lw_cut Q2 l to hb (show wb ≤ wa + wb by omega), show wa + wb - wb = wa by omega, w2.re hb (by omega), u1, u2, Int.mul_comm (p2 wb), Int.add_comm]
theorem ex_fin {P Q1 Q2 : Int → Int64} {to a ow k : Int} {f : Int64} (ho : 0 ≤ ow) (hk : ow ≤ k) (w1 : Wr P Q1 to ow) (m1 : Mv P Q1 to a ow) (w2 : Box (∀ x, ¬ (to + ow ≤ x ∧ x < to + k) → Q2 x = Q1 x)) (f2 : Box (∀ j, ow ≤ j → j < k → Q2 (to + j) = f)) :
    Wr P Q2 to k ∧ ∀ l, lw Q2 l to k.toNat = exW (lw P l a ow.toNat) (b2 (lb f l)) ow % p2 k := by
  refine ⟨Box.i fun x hx => by rw [w2.o x (by omega), w1.o x (by omega)], fun l => lw_val (by omega) fun j x y => ?_⟩
  have r := lw_rngi P l a ho
  rw [exW_bit r.1 r.2 (b2_01 _) x ho]
  by_cases z : j < ow
  · rw [if_pos z, w2.o _ (by omega), m1.o j x z, lw_biti P l a x z]
  · rw [if_neg z, f2.o j (by omega) y]
theorem sl_mv {P Q : Int → Int64} {to a lo ow k : Int} {l : Nat} (h0 : 0 ≤ lo) (h1 : 0 ≤ k) (h2 : lo + k ≤ ow) (m1 : Mv P Q to (a + lo) k) : lw Q l to k.toNat = lw P l a ow.toNat / p2 lo % p2 k := by
  refine lw_val h1 fun j x y => ?_
  have hq := p2_pos lo
  rw [m1.o j x y, Int.ediv_ediv_of_nonneg (by omega), ← p2_add h0 x, lw_biti P l a (show 0 ≤ lo + j by omega) (by omega), Int.add_assoc]
theorem LnN.i {w : Int → Int} {E : Nat → Int → Int} {P Q : Int → Int64} {n k : Int} (hk : nd w n 0 = k) (h : ∀ l, l < 64 → lw Q l (n * 8) (nd w n 1).toNat = opV k (nd w n 1) (nd w (nd w n 2) 1) (nd w (nd w n 3) 1) (lv w P l (nd w n 2)) (lv w P l (nd w n 3)) (lv w P l (nd w n 4)) (nd w n 5) (nd w n 6) (E l)) : LnN w E P Q n := Box.i fun l hl => by
  rw [nV_k hk]; exact h l hl
theorem Wr.e {P Q : Int → Int64} {a k a' k' : Int} (h : Wr P Q a k) (e1 : a = a') (e2 : k = k') : Wr P Q a' k' := e1 ▸ e2 ▸ h
theorem Mv.e {P Q : Int → Int64} {a b k a' b' k' : Int} (h : Mv P Q a b k) (e1 : a = a') (e2 : b = b') (e3 : k = k') : Mv P Q a' b' k' := e1 ▸ e2 ▸ e3 ▸ h
theorem jn_N {w : Int → Int} {E : Nat → Int → Int} {P Q1 Q2 : Int → Int64} {n to to2 b l1 l2 s2 : Int} (hk : nd w n 0 = 18) (hw : nd w n 1 = nd w (nd w n 2) 1 + nd w (nd w n 3) 1) (q : 1 ≤ nd w (nd w n 2) 1 ∧ 1 ≤ nd w (nd w n 3) 1 ∧ nd w n 1 ≤ 8) (q2 : nd w n 2 < n)
    (w1 : Wr P Q1 to l1) (m1 : Mv P Q1 to b l1) (w2 : Wr Q1 Q2 to2 l2) (m2 : Mv Q1 Q2 to2 s2 l2) (e1 : to = n * 8) (e2 : to2 = n * 8 + nd w (nd w n 3) 1) (e3 : l1 = nd w (nd w n 3) 1) (e4 : l2 = nd w (nd w n 2) 1) (e5 : b = nd w n 3 * 8) (e6 : s2 = nd w n 2 * 8) : Wr P Q2 (n * 8) (nd w n 1) ∧ LnN w E P Q2 n := by
  subst e1 e2 e3 e4 e5 e6
  obtain ⟨r1, r2⟩ := jn_fin (by omega) (by omega) (by omega) (by omega) w1 m1 w2 m2
  rw [← hw] at r1 r2
  exact ⟨r1, LnN.i hk fun l _ => r2 l⟩
theorem ex_N {w : Int → Int} {E : Nat → Int → Int} {P Q1 Q2 : Int → Int64} {n k to a ow wd : Int} {f : Int64} (hk : nd w n 0 = k) (hk' : k = 22 ∨ k = 23) (q : 1 ≤ nd w (nd w n 2) 1 ∧ nd w (nd w n 2) 1 < nd w n 1) 
    (w1 : Wr P Q1 to ow) (m1 : Mv P Q1 to a ow) (w2 : Box (∀ x, ¬ (to + ow ≤ x ∧ x < to + wd) → Q2 x = Q1 x)) (f2 : Box (∀ j, ow ≤ j → j < wd → Q2 (to + j) = f)) (hf : (k = 22 ∧ f = 0) ∨ (k = 23 ∧ f = P (a + ow - 1))) (e1 : to = n * 8) (e3 : ow = nd w (nd w n 2) 1) (e4 : wd = nd w n 1) (e6 : a = nd w n 2 * 8) : Wr P Q2 (n * 8) (nd w n 1) ∧ LnN w E P Q2 n := by
  subst e1 e3 e4 e6
  obtain ⟨r1, r2⟩ := ex_fin (by omega) (by omega) w1 m1 w2 f2
  refine ⟨r1, LnN.i hk fun l _ => ?_⟩
  rw [r2 l]
  have r := lw_rngi P l (nd w n 2 * 8) (show 0 ≤ nd w (nd w n 2) 1 by omega)
  rcases hf with ⟨rfl, rfl⟩ | ⟨rfl, rfl⟩
  · rw [lb_0]
    show exW _ 0 _ % _ = lv w P l (nd w n 2)
    unfold exW
    rw [Int.zero_mul, Int.sub_zero, Int.emod_eq_of_lt r.1 (Int.lt_of_lt_of_le r.2 (p2_le (by omega)))]
    rfl
  · rw [top_bit (by omega)]
    show exW _ _ _ % _ = sgn (lw P l (nd w n 2 * 8) (nd w (nd w n 2) 1).toNat) (nd w (nd w n 2) 1) % p2 (nd w n 1)
    congr 1
    unfold exW sgn
    split
    · rw [Int.one_mul]
    · rw [Int.zero_mul, Int.sub_zero]
theorem sl_N {w : Int → Int} {E : Nat → Int → Int} {P Q : Int → Int64} {n to s l1 : Int} (hk : nd w n 0 = 21) (q : 0 ≤ nd w n 6 ∧ nd w n 6 ≤ nd w n 5 ∧ nd w n 5 < nd w (nd w n 2) 1 ∧ nd w n 1 = nd w n 5 - nd w n 6 + 1)
    (w1 : Wr P Q to l1) (m1 : Mv P Q to s l1) (e1 : to = n * 8) (e3 : l1 = nd w n 1) (e6 : s = nd w n 2 * 8 + nd w n 6) : Wr P Q (n * 8) (nd w n 1) ∧ LnN w E P Q n := by
  subst e1 e3 e6
  exact ⟨w1, LnN.i hk fun l _ => sl_mv (ow := nd w (nd w n 2) 1) (by omega) (by omega) (by omega) m1⟩
theorem un_N {w : Int → Int} {E : Nat → Int → Int} {P Q : Int → Int64} {n k to a l1 : Int} (hk : nd w n 0 = k) (q : nd w (nd w n 2) 1 = nd w n 1) (w1 : Wr P Q to l1) (m1 : Ln Q to l1 (fun l => (if k = 19 then -(lw P l a l1.toNat) - 1 else -(lw P l a l1.toNat)) % p2 l1)) (hk' : k = 19 ∨ k = 20) (e1 : to = n * 8) (e3 : l1 = nd w n 1) (e6 : a = nd w n 2 * 8) : Wr P Q (n * 8) (nd w n 1) ∧ LnN w E P Q n := by
  subst e1 e3 e6
  refine ⟨w1, LnN.i hk fun l hl => ?_⟩
  rw [m1.o l hl]
  dsimp only
  have e : lv w P l (nd w n 2) = lw P l (nd w n 2 * 8) (nd w n 1).toNat := by unfold lv; rw [q]
  rcases hk' with rfl | rfl
  · show _ = (-(lv w P l (nd w n 2)) - 1) % p2 (nd w n 1)
    rw [e, if_pos rfl]
  · show _ = -(lv w P l (nd w n 2)) % p2 (nd w n 1)
    rw [e, if_neg (by decide)]
def s_X3_rearrange : CS := (zc 2, ap [(3, 43), (0, 0), (0, 0), (0, 0), (0, 0), (0, 0)] (fun n kd to a b h Rt X =>
∃ w, GH h w ∧ WF w ∧ (0 ≤ n ∧ n < w 0) ∧ (kd = nd w n 0 ∧ to = n * 8 ∧ a = nd w n 2 * 8 ∧ (kd = 18 → b = nd w n 3 * 8)) ∧ (18 ≤ kd ∧ kd ≤ 23) ∧ ∀ Q, (∀ E, Wr (hJ h 44) Q (n * 8) (nd w n 1) ∧ LnN w E (hJ h 44) Q n) → Rt none (rJ h 44 Q)))
set_option maxRecDepth 100000 in
set_option maxHeartbeats 4000000 in
theorem o_X3_rearrange : Obl true 0 8 (sp [(5, s_X0_get), (74, s_X3_move), (76, s_X3_invert), (77, s_X3_negate), (75, s_X3_fillUp)]) [] code_X3_rearrange s_X3_rearrange := by
  refine obl0 (by rfl) ?_
  intro n r_n kd r_kd to r_to a r_a b r_b h Rt X hh hf hs
  obtain ⟨w, hG, hW, ⟨n0, n1⟩, ⟨e1, e2, e3, e4⟩, ⟨e5, e6⟩, h2⟩ := hs
  obtain ⟨⟨k1, k2, k3, k4⟩, ⟨o1, o2, o3, o4, o5, o6⟩, p1, p2c, p3, p4, p5, p6, p7, p8, p9, p10, p11, p12, p13, p14, p15, p16⟩ := (hW.node n0 n1).o
  have g0 := hG.n
  have g1 := hW.nn
  have q1 := p4 (by omega)
  have c1 := hG.k1 n0 n1
  have c2 := hG.k2 n0 n1
  have c5 : hI h 2 (hI h 2 (n * 8 + 2) * 8 + 1) = nd w (nd w n 2) 1 := by rw [c2]; exact hG.k1 q1 (by omega)
  have wa := hW.wd q1 (show nd w n 2 < w 0 by omega)
  clear p1 p2c p3 p4 p6 p7 p8 p9 p10 p11 p16
  have kk : kd = 18 ∨ kd = 19 ∨ kd = 20 ∨ kd = 21 ∨ kd = 22 ∨ kd = 23 := by omega
  rcases kk with kk | kk | kk | kk | kk | kk
  · have e7 := e4 kk
    have q2 := p5 (by omega)
    have q3 := p12 (by omega)
    have wb := hW.wd q2 (show nd w n 3 < w 0 by omega)
    clear p5 p12 p13 p14 p15 e4
    repeat' (first | apply And.intro | (with_reducible assumption) | (intro h9; first | (exfalso; omega) | (simp only [rI_rI, rJ_rJ, hI_rI, hJ_rI, hI_rJ, hJ_rJ, hI_rR, hR_rI, hR_rJ, hN_rI, hN_rJ, svH_63, svH_66, rfH_63, wvH_63, wvH_62, wvH_67, wvH_68, wvH_69, sc_63, sc_n62, sc_n67, sc_n68, sc_n69, sc_n70, reduceIte, Nat.reduceEqDiff, eq_self, up_up, up_self, up_ne, ne_eq, not_false_eq_true, Int.reduceEq, Int.reduceNeg] at h9; first | (exfalso; omega) | skip) | skip) | (refine rt_eq (Rt := Rt) (h2 _ fun E => jn_N (by omega) q3 (by omega) o2 (by assumption) (by assumption) (by assumption) (by assumption) e2 (by omega) (by omega) (by omega) e7 e3) rfl (rJ_rJ _ _ _ _).symm) | exact h2 | exact h2 (by omega) | omega | exact True.intro | (simp only [rI_rI, rJ_rJ, hI_rI, hJ_rI, hI_rJ, hJ_rJ, hI_rR, hR_rI, hR_rJ, hN_rI, hN_rJ, svH_63, svH_66, rfH_63, wvH_63, wvH_62, wvH_67, wvH_68, wvH_69, sc_63, sc_n62, sc_n67, sc_n68, sc_n69, sc_n70, reduceIte, Nat.reduceEqDiff, eq_self, up_up, up_self, up_ne, ne_eq, not_false_eq_true, Int.reduceEq, Int.reduceNeg]; omega))
  · have q3 := p13 (by omega)
    clear p5 p12 p13 p14 p15 e4
    subst kk
    repeat' (first | apply And.intro | (with_reducible assumption) | (intro h9; first | (exfalso; omega) | (simp only [rI_rI, rJ_rJ, hI_rI, hJ_rI, hI_rJ, hJ_rJ, hI_rR, hR_rI, hR_rJ, hN_rI, hN_rJ, svH_63, svH_66, rfH_63, wvH_63, wvH_62, wvH_67, wvH_68, wvH_69, sc_63, sc_n62, sc_n67, sc_n68, sc_n69, sc_n70, reduceIte, Nat.reduceEqDiff, eq_self, up_up, up_self, up_ne, ne_eq, not_false_eq_true, Int.reduceEq, Int.reduceNeg] at h9; first | (exfalso; omega) | skip) | skip) | exact h2 _ fun E => un_N (k := 19) e1.symm q3 (by assumption) (by assumption) (by decide) e2 c1 e3 | exact h2 | exact h2 (by omega) | omega | exact True.intro | (simp only [rI_rI, rJ_rJ, hI_rI, hJ_rI, hI_rJ, hJ_rJ, hI_rR, hR_rI, hR_rJ, hN_rI, hN_rJ, svH_63, svH_66, rfH_63, wvH_63, wvH_62, wvH_67, wvH_68, wvH_69, sc_63, sc_n62, sc_n67, sc_n68, sc_n69, sc_n70, reduceIte, Nat.reduceEqDiff, eq_self, up_up, up_self, up_ne, ne_eq, not_false_eq_true, Int.reduceEq, Int.reduceNeg]; omega))
  · have q3 := p13 (by omega)
    clear p5 p12 p13 p14 p15 e4
    subst kk
    repeat' (first | apply And.intro | (with_reducible assumption) | (intro h9; first | (exfalso; omega) | (simp only [rI_rI, rJ_rJ, hI_rI, hJ_rI, hI_rJ, hJ_rJ, hI_rR, hR_rI, hR_rJ, hN_rI, hN_rJ, svH_63, svH_66, rfH_63, wvH_63, wvH_62, wvH_67, wvH_68, wvH_69, sc_63, sc_n62, sc_n67, sc_n68, sc_n69, sc_n70, reduceIte, Nat.reduceEqDiff, eq_self, up_up, up_self, up_ne, ne_eq, not_false_eq_true, Int.reduceEq, Int.reduceNeg] at h9; first | (exfalso; omega) | skip) | skip) | exact h2 _ fun E => un_N (k := 20) e1.symm q3 (by assumption) (by assumption) (by decide) e2 c1 e3 | exact h2 | exact h2 (by omega) | omega | exact True.intro | (simp only [rI_rI, rJ_rJ, hI_rI, hJ_rI, hI_rJ, hJ_rJ, hI_rR, hR_rI, hR_rJ, hN_rI, hN_rJ, svH_63, svH_66, rfH_63, wvH_63, wvH_62, wvH_67, wvH_68, wvH_69, sc_63, sc_n62, sc_n67, sc_n68, sc_n69, sc_n70, reduceIte, Nat.reduceEqDiff, eq_self, up_up, up_self, up_ne, ne_eq, not_false_eq_true, Int.reduceEq, Int.reduceNeg]; omega))
  · have q3 := p14 (by omega)
    have c7 := (hG.sl n0 n1 (by omega)).2.2
    clear p5 p12 p13 p14 p15 e4
    repeat' (first | apply And.intro | (with_reducible assumption) | (intro h9; first | (exfalso; omega) | (simp only [rI_rI, rJ_rJ, hI_rI, hJ_rI, hI_rJ, hJ_rJ, hI_rR, hR_rI, hR_rJ, hN_rI, hN_rJ, svH_63, svH_66, rfH_63, wvH_63, wvH_62, wvH_67, wvH_68, wvH_69, sc_63, sc_n62, sc_n67, sc_n68, sc_n69, sc_n70, reduceIte, Nat.reduceEqDiff, eq_self, up_up, up_self, up_ne, ne_eq, not_false_eq_true, Int.reduceEq, Int.reduceNeg] at h9; first | (exfalso; omega) | skip) | skip) | exact h2 _ fun E => sl_N (by omega) q3 (by assumption) (by assumption) e2 c1 (by omega) | exact h2 | exact h2 (by omega) | omega | exact True.intro | (simp only [rI_rI, rJ_rJ, hI_rI, hJ_rI, hI_rJ, hJ_rJ, hI_rR, hR_rI, hR_rJ, hN_rI, hN_rJ, svH_63, svH_66, rfH_63, wvH_63, wvH_62, wvH_67, wvH_68, wvH_69, sc_63, sc_n62, sc_n67, sc_n68, sc_n69, sc_n70, reduceIte, Nat.reduceEqDiff, eq_self, up_up, up_self, up_ne, ne_eq, not_false_eq_true, Int.reduceEq, Int.reduceNeg]; omega))
  · have q3 := p15 (by omega)
    clear p5 p12 p13 p14 p15 e4
    repeat' (first | apply And.intro | (with_reducible assumption) | (intro h9; first | (exfalso; omega) | (simp only [rI_rI, rJ_rJ, hI_rI, hJ_rI, hI_rJ, hJ_rJ, hI_rR, hR_rI, hR_rJ, hN_rI, hN_rJ, svH_63, svH_66, rfH_63, wvH_63, wvH_62, wvH_67, wvH_68, wvH_69, sc_63, sc_n62, sc_n67, sc_n68, sc_n69, sc_n70, reduceIte, Nat.reduceEqDiff, eq_self, up_up, up_self, up_ne, ne_eq, not_false_eq_true, Int.reduceEq, Int.reduceNeg] at h9; first | (exfalso; omega) | skip) | skip) | (refine rt_eq (Rt := Rt) (h2 _ fun E => ex_N (k := 22) (by omega) (by decide) (by omega) (by assumption) (by assumption) (by assumption) (by assumption) (Or.inl ⟨rfl, rfl⟩) e2 c5 c1 e3) rfl (rJ_rJ _ _ _ _).symm) | exact h2 | exact h2 (by omega) | omega | exact True.intro | (simp only [rI_rI, rJ_rJ, hI_rI, hJ_rI, hI_rJ, hJ_rJ, hI_rR, hR_rI, hR_rJ, hN_rI, hN_rJ, svH_63, svH_66, rfH_63, wvH_63, wvH_62, wvH_67, wvH_68, wvH_69, sc_63, sc_n62, sc_n67, sc_n68, sc_n69, sc_n70, reduceIte, Nat.reduceEqDiff, eq_self, up_up, up_self, up_ne, ne_eq, not_false_eq_true, Int.reduceEq, Int.reduceNeg]; omega))
  · have q3 := p15 (by omega)
    clear p5 p12 p13 p14 p15 e4
    have t : ∀ Q, Wr (hJ h 44) Q to (hI h 2 (hI h 2 (n * 8 + 2) * 8 + 1)) → Q (a + hI h 2 (hI h 2 (n * 8 + 2) * 8 + 1) - 1) = hJ h 44 (a + hI h 2 (hI h 2 (n * 8 + 2) * 8 + 1) - 1) := fun Q hq => hq.o _ (by omega)
    repeat' (first | apply And.intro | (with_reducible assumption) | (intro h9; first | (exfalso; omega) | (simp only [rI_rI, rJ_rJ, hI_rI, hJ_rI, hI_rJ, hJ_rJ, hI_rR, hR_rI, hR_rJ, hN_rI, hN_rJ, svH_63, svH_66, rfH_63, wvH_63, wvH_62, wvH_67, wvH_68, wvH_69, sc_63, sc_n62, sc_n67, sc_n68, sc_n69, sc_n70, reduceIte, Nat.reduceEqDiff, eq_self, up_up, up_self, up_ne, ne_eq, not_false_eq_true, Int.reduceEq, Int.reduceNeg] at h9; first | (exfalso; omega) | skip) | skip) | (refine rt_eq (Rt := Rt) (h2 _ fun E => ex_N (k := 23) (by omega) (by decide) (by omega) (by assumption) (by assumption) (by assumption) (by assumption) (Or.inr ⟨rfl, t _ (by assumption)⟩) e2 c5 c1 e3) rfl (rJ_rJ _ _ _ _).symm) | exact h2 | exact h2 (by omega) | omega | exact True.intro | (simp only [rI_rI, rJ_rJ, hI_rI, hJ_rI, hI_rJ, hJ_rJ, hI_rR, hR_rI, hR_rJ, hN_rI, hN_rJ, svH_63, svH_66, rfH_63, wvH_63, wvH_62, wvH_67, wvH_68, wvH_69, sc_63, sc_n62, sc_n67, sc_n68, sc_n69, sc_n70, reduceIte, Nat.reduceEqDiff, eq_self, up_up, up_self, up_ne, ne_eq, not_false_eq_true, Int.reduceEq, Int.reduceNeg]; omega))
theorem m_X3_rearrange : MM 73 s_X3_rearrange := mm_of (own := 2) (by rfl) k_X3_rearrange (cl := [(5, s_X0_get), (74, s_X3_move), (76, s_X3_invert), (77, s_X3_negate), (75, s_X3_fillUp)]) ⟨m_X0_get, m_X3_move, m_X3_invert, m_X3_negate, m_X3_fillUp, trivial⟩ o_X3_rearrange
def s_X3_calculate : CS := (zc 2, ap [(3, 43), (0, 0), (0, 0), (0, 0), (0, 0), (0, 0)] (fun n to a b k h Rt X =>
Pl to a b k ∧ (1 ≤ k ∧ 2 ≤ n ∧ n ≤ 4) ∧ ∀ Q, Wr (hJ h 44) Q to k → Ln Q to k (fun l => arW n (lw (hJ h 44) l a k.toNat) (lw (hJ h 44) l b k.toNat) k) → Rt none (rJ h 44 Q)))
set_option maxRecDepth 100000 in
set_option maxHeartbeats 4000000 in
theorem o_X3_calculate : Obl true 0 6 (sp [(58, s_X3_add), (59, s_X3_subtract), (60, s_X3_multiply)]) [] code_X3_calculate s_X3_calculate := by
  refine obl0 (by rfl) ?_
  intro n r_n to r_to a r_a b r_b k r_k h Rt X hh hf hs
  obtain ⟨⟨a1, a2, a3, a4, a5, a6, a7, a8⟩, ⟨k1, n0, n1⟩, h2⟩ := hs
  have kk : n = 2 ∨ n = 3 ∨ n = 4 := by omega
  rcases kk with rfl | rfl | rfl
  · repeat' (first | apply And.intro | (with_reducible assumption) | (intro h9; first | (exfalso; omega) | (simp only [rI_rI, rJ_rJ, hI_rI, hJ_rI, hI_rJ, hJ_rJ, hI_rR, hR_rI, hR_rJ, hN_rI, hN_rJ, svH_63, svH_66, rfH_63, wvH_63, wvH_62, wvH_67, wvH_68, wvH_69, sc_63, sc_n62, sc_n67, sc_n68, sc_n69, sc_n70, reduceIte, Nat.reduceEqDiff, eq_self, up_up, up_self, up_ne, ne_eq, not_false_eq_true, Int.reduceEq, Int.reduceNeg] at h9; first | (exfalso; omega) | skip) | skip) | exact h2 _ (by assumption) (by assumption) | exact h2 | exact h2 (by omega) | omega | exact True.intro | (simp only [rI_rI, rJ_rJ, hI_rI, hJ_rI, hI_rJ, hJ_rJ, hI_rR, hR_rI, hR_rJ, hN_rI, hN_rJ, svH_63, svH_66, rfH_63, wvH_63, wvH_62, wvH_67, wvH_68, wvH_69, sc_63, sc_n62, sc_n67, sc_n68, sc_n69, sc_n70, reduceIte, Nat.reduceEqDiff, eq_self, up_up, up_self, up_ne, ne_eq, not_false_eq_true, Int.reduceEq, Int.reduceNeg]; omega))
  · repeat' (first | apply And.intro | (with_reducible assumption) | (intro h9; first | (exfalso; omega) | (simp only [rI_rI, rJ_rJ, hI_rI, hJ_rI, hI_rJ, hJ_rJ, hI_rR, hR_rI, hR_rJ, hN_rI, hN_rJ, svH_63, svH_66, rfH_63, wvH_63, wvH_62, wvH_67, wvH_68, wvH_69, sc_63, sc_n62, sc_n67, sc_n68, sc_n69, sc_n70, reduceIte, Nat.reduceEqDiff, eq_self, up_up, up_self, up_ne, ne_eq, not_false_eq_true, Int.reduceEq, Int.reduceNeg] at h9; first | (exfalso; omega) | skip) | skip) | exact h2 _ (by assumption) (by assumption) | exact h2 | exact h2 (by omega) | omega | exact True.intro | (simp only [rI_rI, rJ_rJ, hI_rI, hJ_rI, hI_rJ, hJ_rJ, hI_rR, hR_rI, hR_rJ, hN_rI, hN_rJ, svH_63, svH_66, rfH_63, wvH_63, wvH_62, wvH_67, wvH_68, wvH_69, sc_63, sc_n62, sc_n67, sc_n68, sc_n69, sc_n70, reduceIte, Nat.reduceEqDiff, eq_self, up_up, up_self, up_ne, ne_eq, not_false_eq_true, Int.reduceEq, Int.reduceNeg]; omega))
  · repeat' (first | apply And.intro | (with_reducible assumption) | (intro h9; first | (exfalso; omega) | (simp only [rI_rI, rJ_rJ, hI_rI, hJ_rI, hI_rJ, hJ_rJ, hI_rR, hR_rI, hR_rJ, hN_rI, hN_rJ, svH_63, svH_66, rfH_63, wvH_63, wvH_62, wvH_67, wvH_68, wvH_69, sc_63, sc_n62, sc_n67, sc_n68, sc_n69, sc_n70, reduceIte, Nat.reduceEqDiff, eq_self, up_up, up_self, up_ne, ne_eq, not_false_eq_true, Int.reduceEq, Int.reduceNeg] at h9; first | (exfalso; omega) | skip) | skip) | exact h2 _ (by assumption) (by assumption) | exact h2 | exact h2 (by omega) | omega | exact True.intro | (simp only [rI_rI, rJ_rJ, hI_rI, hJ_rI, hI_rJ, hJ_rJ, hI_rR, hR_rI, hR_rJ, hN_rI, hN_rJ, svH_63, svH_66, rfH_63, wvH_63, wvH_62, wvH_67, wvH_68, wvH_69, sc_63, sc_n62, sc_n67, sc_n68, sc_n69, sc_n70, reduceIte, Nat.reduceEqDiff, eq_self, up_up, up_self, up_ne, ne_eq, not_false_eq_true, Int.reduceEq, Int.reduceNeg]; omega))
theorem m_X3_calculate : MM 57 s_X3_calculate := mm_of (own := 2) (by rfl) k_X3_calculate (cl := [(58, s_X3_add), (59, s_X3_subtract), (60, s_X3_multiply)]) ⟨m_X3_add, m_X3_subtract, m_X3_multiply, trivial⟩ o_X3_calculate

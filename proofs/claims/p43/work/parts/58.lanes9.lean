/-! ===== the class: all nodes in lanes ===== -/
def La (w : Int → Int) (B : Int) (l : Nat) : Int → Int := asg w (lane B l)
theorem nV_ops {w env f g : Int → Int} {n : Int} (h : WFn w n) (e2 : 0 ≤ nd w n 2 → f (nd w n 2) = g (nd w n 2)) (e3 : 0 ≤ nd w n 3 → f (nd w n 3) = g (nd w n 3)) (e4 : 0 ≤ nd w n 4 → f (nd w n 4) = g (nd w n 4)) : nV w env f n = nV w env g n := by
  obtain ⟨⟨k1, k2, k3, k4⟩, ⟨o1, o2, o3, o4, o5, o6⟩, p1, p2c, p3, p4, p5, p6, p7, p8, p9, -⟩ := h.o
  by_cases c2 : 0 ≤ nd w n 2
  · by_cases c3 : 0 ≤ nd w n 3
    · by_cases c4 : 0 ≤ nd w n 4
      · exact nV_congr (e2 c2) (e3 c3) (e4 c4)
      · unfold nV
        rw [e2 c2, e3 c3]
        have hk : nd w n 0 ≠ 24 := by omega
        unfold opV
        repeat' split
        all_goals first | rfl | omega
    · unfold nV
      rw [e2 c2]
      have hk : nd w n 0 ≠ 24 := by omega
      have hk2 : ¬ (2 ≤ nd w n 0 ∧ nd w n 0 ≤ 18) := by omega
      unfold opV
      repeat' split
      all_goals first | rfl | omega
  · have hk : nd w n 0 ≤ 1 := by omega
    unfold nV opV
    repeat' split
    all_goals first | rfl | omega
theorem ln_0 {w : Int → Int} {B : Int} {P Q : Int → Int64} {n x k : Int} (hk : nd w n 0 = 0) (q : 0 ≤ nd w n 5 ∧ nd w n 5 < p2 (nd w n 1)) (h : Ln Q (n * 8) k (fun _ => x % p2 k)) (e1 : x = nd w n 5) (e2 : k = nd w n 1) : LnN w (La w B) P Q n := by
  subst e1 e2
  refine LnN.i hk fun l hl => ?_
  rw [h.o l hl]
  dsimp only
  rw [Int.emod_eq_of_lt q.1 q.2]
  rfl
theorem ln_1 {w : Int → Int} {B : Int} {P Q : Int → Int64} {n p k : Int} (hk : nd w n 0 = 1) (q : w (282 + nd w n 5) = n) (h : Ln Q (n * 8) k (fun l => lane B l / p2 p % p2 k)) (e1 : p = plc w (nd w n 5)) (e2 : k = nd w n 1) : LnN w (La w B) P Q n := by
  subst e1 e2
  refine LnN.i hk fun l hl => ?_
  rw [h.o l hl]
  show _ = asg w (lane B l) (nd w n 5)
  unfold asg
  rw [q]
/-- two operands of the node's width -/
theorem ln_2 {w : Int → Int} {B : Int} {P Q : Int → Int64} {F : Int → Int → Int → Int} {n k kd a b : Int} (hk : nd w n 0 = kd) (q : nd w (nd w n 2) 1 = nd w n 1 ∧ nd w (nd w n 3) 1 = nd w n 1) (hF : ∀ wa wb A B c x lo env, opV kd (nd w n 1) wa wb A B c x lo env = F A B (nd w n 1)) (h : Ln Q (n * 8) k (fun l => F (lw P l a k.toNat) (lw P l b k.toNat) k)) (e2 : k = nd w n 1) (e3 : a = nd w n 2 * 8) (e4 : b = nd w n 3 * 8) : LnN w (La w B) P Q n := by
  subst e2 e3 e4
  refine LnN.i hk fun l hl => ?_
  rw [h.o l hl, hF]
  dsimp only
  unfold lv
  rw [q.1, q.2]
theorem ln_cm {w : Int → Int} {B : Int} {P : Int → Int64} {n kd a b k : Int} {c : Int64} (h1 : 13 ≤ kd) (h2 : kd ≤ 17) (hk : nd w n 0 = kd) (q : nd w n 1 = 1 ∧ nd w (nd w n 2) 1 = nd w (nd w n 3) 1) (h : CmL P kd a b k c) (e2 : k = nd w (nd w n 2) 1) (e3 : a = nd w n 2 * 8) (e4 : b = nd w n 3 * 8) : Wr P (up P (n * 8) c) (n * 8) (nd w n 1) ∧ LnN w (La w B) P (up P (n * 8) c) n := by
  subst e2 e3 e4
  refine ⟨Box.i fun x hx => up_ne (by omega), LnN.i hk fun l hl => ?_⟩
  rw [q.1, lw_1, up_self, h.o l hl, opV_cm h1 h2]
  unfold lv
  rw [← q.2]
theorem ln_ch {w : Int → Int} {B : Int} {P Q : Int → Int64} {n a b c k : Int} (hk : nd w n 0 = 24) (q : nd w (nd w n 2) 1 = 1 ∧ nd w (nd w n 3) 1 = nd w n 1 ∧ nd w (nd w n 4) 1 = nd w n 1) (h : Ln Q (n * 8) k (fun l => if lb (P c) l then lw P l a k.toNat else lw P l b k.toNat)) (e2 : k = nd w n 1) (e3 : c = nd w n 2 * 8) (e4 : a = nd w n 3 * 8) (e5 : b = nd w n 4 * 8) : LnN w (La w B) P Q n := by
  subst e2 e3 e4 e5
  refine LnN.i hk fun l hl => ?_
  rw [h.o l hl]
  dsimp only
  show _ = if lv w P l (nd w n 2) = 1 then lv w P l (nd w n 3) else lv w P l (nd w n 4)
  unfold lv
  rw [q.1, q.2.1, q.2.2, lw_1]
  cases lb (P (nd w n 2 * 8)) l <;> rfl
theorem r45 (h : Hp) (Q : Int → Int64) : rJ (rJ h 45 (hJ h 45)) 44 Q = rJ h 44 Q := by rw [rJ_id]
def s_X3_runNode : CS := (zc 3, ap [(3, 43), (0, 0), (0, 0)] (fun n B h Rt X =>
∃ w, GH h w ∧ WF w ∧ (0 ≤ n ∧ n < w 0) ∧ ∀ R Q, Wr (hJ h 44) Q (n * 8) (nd w n 1) → LnN w (La w B) (hJ h 44) Q n → Rt none (rJ (rJ h 45 R) 44 Q)))
set_option maxRecDepth 100000 in
set_option maxHeartbeats 4000000 in
theorem o_X3_runNode : Obl true 0 8 (sp [(5, s_X0_get), (55, s_X3_constantWord), (28, s_X0_placeOf), (56, s_X3_variableWord), (57, s_X3_calculate), (61, s_X3_combine), (62, s_X3_shift), (65, s_X3_divide), (69, s_X3_compare), (72, s_X3_choose), (73, s_X3_rearrange)]) [] code_X3_runNode s_X3_runNode := by
  refine obl0 (by rfl) ?_
  intro n r_n B r_B h Rt X hh hf hs
  obtain ⟨w, hG, hW, ⟨n0, n1⟩, h2⟩ := hs
  have wn := hW.node n0 n1
  obtain ⟨⟨k1, k2, k3, k4⟩, ⟨o1, o2, o3, o4, o5, o6⟩, p1, p2c, p3, p4, p5, p6, p7, p8, p9, p10, p11, p12, p13, p14, p15, p16⟩ := wn.o
  have g0 := hG.n
  have g1 := hW.nn
  have c0 := hG.k0 n0 n1
  have c1 := hG.k1 n0 n1
  have c2 := hG.k2 n0 n1
  have c3 := hG.k3 n0 n1
  have c4 := hG.k4 n0 n1
  have h3 : ∀ Q, Wr (hJ h 44) Q (n * 8) (nd w n 1) → LnN w (La w B) (hJ h 44) Q n → Rt none (rJ h 44 Q) := fun Q a b => by
    have := h2 (hJ h 45) Q a b
    rw [rJ_id] at this
    exact this
  by_cases z0 : nd w n 0 = 0
  · have q := p2c z0
    have c5 := (hG.ns n0 n1 (by omega)).1
    clear p1 p2c p3 p4 p5 p6 p7 p8 p9 p10 p11 p12 p13 p14 p15 p16
    repeat' (first | apply And.intro | (with_reducible assumption) | (intro h9; first | (exfalso; omega) | (simp only [rI_rI, rJ_rJ, hI_rI, hJ_rI, hI_rJ, hJ_rJ, hI_rR, hR_rI, hR_rJ, hN_rI, hN_rJ, svH_63, svH_66, rfH_63, wvH_63, wvH_62, wvH_67, wvH_68, wvH_69, sc_63, sc_n62, sc_n67, sc_n68, sc_n69, sc_n70, reduceIte, Nat.reduceEqDiff, eq_self, up_up, up_self, up_ne, ne_eq, not_false_eq_true, Int.reduceEq, Int.reduceNeg] at h9; first | (exfalso; omega) | skip) | skip) | exact h3 _ (Wr.e (by assumption) rfl c1) (ln_0 z0 q (by assumption) c5 c1) | exact h2 | exact h2 (by omega) | omega | exact True.intro | (simp only [rI_rI, rJ_rJ, hI_rI, hJ_rI, hI_rJ, hJ_rJ, hI_rR, hR_rI, hR_rJ, hN_rI, hN_rJ, svH_63, svH_66, rfH_63, wvH_63, wvH_62, wvH_67, wvH_68, wvH_69, sc_63, sc_n62, sc_n67, sc_n68, sc_n69, sc_n70, reduceIte, Nat.reduceEqDiff, eq_self, up_up, up_self, up_ne, ne_eq, not_false_eq_true, Int.reduceEq, Int.reduceNeg]; omega))
  by_cases z1 : nd w n 0 = 1
  · have q := p3 z1
    have c5 := (hG.ns n0 n1 (by omega)).1
    have pr := plc_rng hW q.1 q.2.1
    have wv := hW.wv q.1 q.2.1
    clear p1 p2c p3 p4 p5 p6 p7 p8 p9 p10 p11 p12 p13 p14 p15 p16
    have q0 : 0 ≤ hI h 2 (n * 8 + 5) ∧ hI h 2 (n * 8 + 5) < w 281 := by rw [c5]; exact ⟨q.1, q.2.1⟩
    have e5 : plc w (hI h 2 (n * 8 + 5)) = plc w (nd w n 5) := by rw [c5]
    repeat' (first | apply And.intro | (with_reducible assumption) | (intro h9; first | (exfalso; omega) | (simp only [rI_rI, rJ_rJ, hI_rI, hJ_rI, hI_rJ, hJ_rJ, hI_rR, hR_rI, hR_rJ, hN_rI, hN_rJ, svH_63, svH_66, rfH_63, wvH_63, wvH_62, wvH_67, wvH_68, wvH_69, sc_63, sc_n62, sc_n67, sc_n68, sc_n69, sc_n70, reduceIte, Nat.reduceEqDiff, eq_self, up_up, up_self, up_ne, ne_eq, not_false_eq_true, Int.reduceEq, Int.reduceNeg] at h9; first | (exfalso; omega) | skip) | skip) | refine Exists.intro w ?_ | exact hG | exact hW | exact h3 _ (Wr.e (by assumption) rfl c1) (ln_1 z1 q.2.2 (by assumption) e5 c1) | exact h2 | exact h2 (by omega) | omega | exact True.intro | (simp only [rI_rI, rJ_rJ, hI_rI, hJ_rI, hI_rJ, hJ_rJ, hI_rR, hR_rI, hR_rJ, hN_rI, hN_rJ, svH_63, svH_66, rfH_63, wvH_63, wvH_62, wvH_67, wvH_68, wvH_69, sc_63, sc_n62, sc_n67, sc_n68, sc_n69, sc_n70, reduceIte, Nat.reduceEqDiff, eq_self, up_up, up_self, up_ne, ne_eq, not_false_eq_true, Int.reduceEq, Int.reduceNeg]; omega))
  have q1 := p4 (by omega)
  by_cases z2 : nd w n 0 ≤ 4
  · have q2 := p5 (by omega)
    have q := p10 (by omega) (by omega)
    clear p1 p2c p3 p4 p5 p6 p7 p8 p9 p10 p11 p12 p13 p14 p15 p16
    repeat' (first | apply And.intro | (with_reducible assumption) | (intro h9; first | (exfalso; omega) | (simp only [rI_rI, rJ_rJ, hI_rI, hJ_rI, hI_rJ, hJ_rJ, hI_rR, hR_rI, hR_rJ, hN_rI, hN_rJ, svH_63, svH_66, rfH_63, wvH_63, wvH_62, wvH_67, wvH_68, wvH_69, sc_63, sc_n62, sc_n67, sc_n68, sc_n69, sc_n70, reduceIte, Nat.reduceEqDiff, eq_self, up_up, up_self, up_ne, ne_eq, not_false_eq_true, Int.reduceEq, Int.reduceNeg] at h9; first | (exfalso; omega) | skip) | skip) | exact h3 _ (Wr.e (by assumption) rfl c1) (ln_2 (F := arW _) c0.symm q (fun _ _ _ _ _ _ _ _ => opV_ar (by omega) (by omega)) (by assumption) c1 (by omega) (by omega)) | exact h2 | exact h2 (by omega) | omega | exact True.intro | (simp only [rI_rI, rJ_rJ, hI_rI, hJ_rI, hI_rJ, hJ_rJ, hI_rR, hR_rI, hR_rJ, hN_rI, hN_rJ, svH_63, svH_66, rfH_63, wvH_63, wvH_62, wvH_67, wvH_68, wvH_69, sc_63, sc_n62, sc_n67, sc_n68, sc_n69, sc_n70, reduceIte, Nat.reduceEqDiff, eq_self, up_up, up_self, up_ne, ne_eq, not_false_eq_true, Int.reduceEq, Int.reduceNeg]; omega))
  by_cases z3 : nd w n 0 ≤ 7
  · have q2 := p5 (by omega)
    have q := p10 (by omega) (by omega)
    clear p1 p2c p3 p4 p5 p6 p7 p8 p9 p10 p11 p12 p13 p14 p15 p16
    repeat' (first | apply And.intro | (with_reducible assumption) | (intro h9; first | (exfalso; omega) | (simp only [rI_rI, rJ_rJ, hI_rI, hJ_rI, hI_rJ, hJ_rJ, hI_rR, hR_rI, hR_rJ, hN_rI, hN_rJ, svH_63, svH_66, rfH_63, wvH_63, wvH_62, wvH_67, wvH_68, wvH_69, sc_63, sc_n62, sc_n67, sc_n68, sc_n69, sc_n70, reduceIte, Nat.reduceEqDiff, eq_self, up_up, up_self, up_ne, ne_eq, not_false_eq_true, Int.reduceEq, Int.reduceNeg] at h9; first | (exfalso; omega) | skip) | skip) | exact h3 _ (Wr.e (by assumption) rfl c1) (ln_2 (F := fun x y _ => bitK _ x y) c0.symm q (fun _ _ _ _ _ _ _ _ => opV_bt (by omega) (by omega)) (by assumption) c1 (by omega) (by omega)) | exact h2 | exact h2 (by omega) | omega | exact True.intro | (simp only [rI_rI, rJ_rJ, hI_rI, hJ_rI, hI_rJ, hJ_rJ, hI_rR, hR_rI, hR_rJ, hN_rI, hN_rJ, svH_63, svH_66, rfH_63, wvH_63, wvH_62, wvH_67, wvH_68, wvH_69, sc_63, sc_n62, sc_n67, sc_n68, sc_n69, sc_n70, reduceIte, Nat.reduceEqDiff, eq_self, up_up, up_self, up_ne, ne_eq, not_false_eq_true, Int.reduceEq, Int.reduceNeg]; omega))
  by_cases z4 : nd w n 0 ≤ 10
  · have q2 := p5 (by omega)
    have q := p10 (by omega) (by omega)
    clear p1 p2c p3 p4 p5 p6 p7 p8 p9 p10 p11 p12 p13 p14 p15 p16
    repeat' (first | apply And.intro | (with_reducible assumption) | (intro h9; first | (exfalso; omega) | (simp only [rI_rI, rJ_rJ, hI_rI, hJ_rI, hI_rJ, hJ_rJ, hI_rR, hR_rI, hR_rJ, hN_rI, hN_rJ, svH_63, svH_66, rfH_63, wvH_63, wvH_62, wvH_67, wvH_68, wvH_69, sc_63, sc_n62, sc_n67, sc_n68, sc_n69, sc_n70, reduceIte, Nat.reduceEqDiff, eq_self, up_up, up_self, up_ne, ne_eq, not_false_eq_true, Int.reduceEq, Int.reduceNeg] at h9; first | (exfalso; omega) | skip) | skip) | exact h3 _ (Wr.e (by assumption) rfl c1) (ln_2 (F := shfW _) c0.symm q (fun _ _ _ _ _ _ _ _ => opV_sh (by omega) (by omega)) (by assumption) c1 (by omega) (by omega)) | exact h2 | exact h2 (by omega) | omega | exact True.intro | (simp only [rI_rI, rJ_rJ, hI_rI, hJ_rI, hI_rJ, hJ_rJ, hI_rR, hR_rI, hR_rJ, hN_rI, hN_rJ, svH_63, svH_66, rfH_63, wvH_63, wvH_62, wvH_67, wvH_68, wvH_69, sc_63, sc_n62, sc_n67, sc_n68, sc_n69, sc_n70, reduceIte, Nat.reduceEqDiff, eq_self, up_up, up_self, up_ne, ne_eq, not_false_eq_true, Int.reduceEq, Int.reduceNeg]; omega))
  by_cases z5 : nd w n 0 ≤ 12
  · have q2 := p5 (by omega)
    have q := p10 (by omega) (by omega)
    clear p1 p2c p3 p4 p5 p6 p7 p8 p9 p10 p11 p12 p13 p14 p15 p16
    repeat' (first | apply And.intro | (with_reducible assumption) | (intro h9; first | (exfalso; omega) | (simp only [rI_rI, rJ_rJ, hI_rI, hJ_rI, hI_rJ, hJ_rJ, hI_rR, hR_rI, hR_rJ, hN_rI, hN_rJ, svH_63, svH_66, rfH_63, wvH_63, wvH_62, wvH_67, wvH_68, wvH_69, sc_63, sc_n62, sc_n67, sc_n68, sc_n69, sc_n70, reduceIte, Nat.reduceEqDiff, eq_self, up_up, up_self, up_ne, ne_eq, not_false_eq_true, Int.reduceEq, Int.reduceNeg] at h9; first | (exfalso; omega) | skip) | skip) | exact h2 _ _ (Wr.e (by assumption) rfl c1) (ln_2 (F := dvW _) c0.symm q (fun _ _ _ _ _ _ _ _ => opV_dv (by omega) (by omega)) (by assumption) c1 (by omega) (by omega)) | exact h2 | exact h2 (by omega) | omega | exact True.intro | (simp only [rI_rI, rJ_rJ, hI_rI, hJ_rI, hI_rJ, hJ_rJ, hI_rR, hR_rI, hR_rJ, hN_rI, hN_rJ, svH_63, svH_66, rfH_63, wvH_63, wvH_62, wvH_67, wvH_68, wvH_69, sc_63, sc_n62, sc_n67, sc_n68, sc_n69, sc_n70, reduceIte, Nat.reduceEqDiff, eq_self, up_up, up_self, up_ne, ne_eq, not_false_eq_true, Int.reduceEq, Int.reduceNeg]; omega))
  by_cases z6 : nd w n 0 ≤ 17
  · have q2 := p5 (by omega)
    have q := p11 (by omega) (by omega)
    have c5 : hI h 2 (hI h 2 (n * 8 + 2) * 8 + 1) = nd w (nd w n 2) 1 := by rw [c2]; exact hG.k1 q1 (by omega)
    have wa := hW.wd q1 (show nd w n 2 < w 0 by omega)
    clear p1 p2c p3 p4 p5 p6 p7 p8 p9 p10 p11 p12 p13 p14 p15 p16
    have h4 : ∀ c, CmL (hJ h 44) (hI h 2 (n * 8 + 0)) (hI h 2 (n * 8 + 2) * 8) (hI h 2 (n * 8 + 3) * 8) (hI h 2 (hI h 2 (n * 8 + 2) * 8 + 1)) c → Rt none (rJ h 44 (up (hJ h 44) (n * 8) c)) := fun c hc => by
      have r := ln_cm (w := w) (B := B) (by omega) (by omega) c0.symm q hc c5 (by omega) (by omega)
      exact h3 _ r.1 r.2
    repeat' (first | apply And.intro | (with_reducible assumption) | (intro h9; first | (exfalso; omega) | (simp only [rI_rI, rJ_rJ, hI_rI, hJ_rI, hI_rJ, hJ_rJ, hI_rR, hR_rI, hR_rJ, hN_rI, hN_rJ, svH_63, svH_66, rfH_63, wvH_63, wvH_62, wvH_67, wvH_68, wvH_69, sc_63, sc_n62, sc_n67, sc_n68, sc_n69, sc_n70, reduceIte, Nat.reduceEqDiff, eq_self, up_up, up_self, up_ne, ne_eq, not_false_eq_true, Int.reduceEq, Int.reduceNeg] at h9; first | (exfalso; omega) | skip) | skip) | exact h4 _ (by assumption) | exact h2 | exact h2 (by omega) | omega | exact True.intro | (simp only [rI_rI, rJ_rJ, hI_rI, hJ_rI, hI_rJ, hJ_rJ, hI_rR, hR_rI, hR_rJ, hN_rI, hN_rJ, svH_63, svH_66, rfH_63, wvH_63, wvH_62, wvH_67, wvH_68, wvH_69, sc_63, sc_n62, sc_n67, sc_n68, sc_n69, sc_n70, reduceIte, Nat.reduceEqDiff, eq_self, up_up, up_self, up_ne, ne_eq, not_false_eq_true, Int.reduceEq, Int.reduceNeg]; omega))
  by_cases z7 : nd w n 0 = 24
  · have q2 := p5 (by omega)
    have q3 := p6 (by omega)
    have q := p16 z7
    clear p1 p2c p3 p4 p5 p6 p7 p8 p9 p10 p11 p12 p13 p14 p15 p16
    repeat' (first | apply And.intro | (with_reducible assumption) | (intro h9; first | (exfalso; omega) | (simp only [rI_rI, rJ_rJ, hI_rI, hJ_rI, hI_rJ, hJ_rJ, hI_rR, hR_rI, hR_rJ, hN_rI, hN_rJ, svH_63, svH_66, rfH_63, wvH_63, wvH_62, wvH_67, wvH_68, wvH_69, sc_63, sc_n62, sc_n67, sc_n68, sc_n69, sc_n70, reduceIte, Nat.reduceEqDiff, eq_self, up_up, up_self, up_ne, ne_eq, not_false_eq_true, Int.reduceEq, Int.reduceNeg] at h9; first | (exfalso; omega) | skip) | skip) | exact h3 _ (Wr.e (by assumption) rfl c1) (ln_ch z7 q (by assumption) c1 (by omega) (by omega) (by omega)) | exact h2 | exact h2 (by omega) | omega | exact True.intro | (simp only [rI_rI, rJ_rJ, hI_rI, hJ_rI, hI_rJ, hJ_rJ, hI_rR, hR_rI, hR_rJ, hN_rI, hN_rJ, svH_63, svH_66, rfH_63, wvH_63, wvH_62, wvH_67, wvH_68, wvH_69, sc_63, sc_n62, sc_n67, sc_n68, sc_n69, sc_n70, reduceIte, Nat.reduceEqDiff, eq_self, up_up, up_self, up_ne, ne_eq, not_false_eq_true, Int.reduceEq, Int.reduceNeg]; omega))
  · clear p1 p2c p3 p4 p6 p7 p8 p9 p10 p11 p12 p13 p14 p15 p16
    have e18 : hI h 2 (n * 8 + 0) = 18 → hI h 2 (n * 8 + 3) * 8 = nd w n 3 * 8 := fun _ => by omega
    have h4 : ∀ Q, (∀ E, Wr (hJ h 44) Q (n * 8) (nd w n 1) ∧ LnN w E (hJ h 44) Q n) → Rt none (rJ h 44 Q) := fun Q a => h3 Q (a (La w B)).1 (a (La w B)).2
    clear p5
    repeat' (first | apply And.intro | (with_reducible assumption) | (intro h9; first | (exfalso; omega) | (simp only [rI_rI, rJ_rJ, hI_rI, hJ_rI, hI_rJ, hJ_rJ, hI_rR, hR_rI, hR_rJ, hN_rI, hN_rJ, svH_63, svH_66, rfH_63, wvH_63, wvH_62, wvH_67, wvH_68, wvH_69, sc_63, sc_n62, sc_n67, sc_n68, sc_n69, sc_n70, reduceIte, Nat.reduceEqDiff, eq_self, up_up, up_self, up_ne, ne_eq, not_false_eq_true, Int.reduceEq, Int.reduceNeg] at h9; first | (exfalso; omega) | skip) | skip) | refine Exists.intro w ?_ | exact hG | exact hW | exact e18 | exact h4 _ (by assumption) | exact h2 | exact h2 (by omega) | omega | exact True.intro | (simp only [rI_rI, rJ_rJ, hI_rI, hJ_rI, hI_rJ, hJ_rJ, hI_rR, hR_rI, hR_rJ, hN_rI, hN_rJ, svH_63, svH_66, rfH_63, wvH_63, wvH_62, wvH_67, wvH_68, wvH_69, sc_63, sc_n62, sc_n67, sc_n68, sc_n69, sc_n70, reduceIte, Nat.reduceEqDiff, eq_self, up_up, up_self, up_ne, ne_eq, not_false_eq_true, Int.reduceEq, Int.reduceNeg]; omega))
/-- a set of nodes with all that they consist of -/
def Clo (w : Int → Int) (s : Int64) : Prop := Box (∀ n, 0 ≤ n → n < w 0 → lb s n.toNat = true → (0 ≤ nd w n 2 → lb s (nd w n 2).toNat = true) ∧ (0 ≤ nd w n 3 → lb s (nd w n 3).toNat = true) ∧ (0 ≤ nd w n 4 → lb s (nd w n 4).toNat = true))
/-- the planes of these nodes hold their values -/
def VlL (w : Int → Int) (P : Int → Int64) (B : Int) (s : Int64) (k : Int) : Prop := Box (∀ n, 0 ≤ n → n < k → lb s n.toNat = true → ∀ l, l < 64 → lv w P l n = vl w (La w B l) n)
theorem VlL.miss {w : Int → Int} {P : Int → Int64} {B i : Int} {s : Int64} (h : VlL w P B s i) (e : lb s i.toNat = false) : VlL w P B s (i + 1) := Box.i fun n a b c l hl => by
  by_cases q : n = i
  · subst q; rw [e] at c; cases c
  · exact h.o n a (by omega) c l hl
theorem VlL.hit {w : Int → Int} {P Q : Int → Int64} {B i : Int} {s : Int64} (hW : WF w) (hc : Clo w s) (h0 : 0 ≤ i) (h1 : i < w 0) (e : lb s i.toNat = true) (h : VlL w P B s i) (hw : Wr P Q (i * 8) (nd w i 1)) (hn : LnN w (La w B) P Q i) : VlL w Q B s (i + 1) := Box.i fun n a b c l hl => by
  by_cases q : n = i
  · subst q
    have wn := hW.node h0 h1
    obtain ⟨-, ⟨o1, o2, o3, o4, o5, o6⟩, -⟩ := wn.o
    have cl := hc.o n h0 h1 e
    rw [vl_eq' h0 wn, show lv w Q l n = nV w (La w B l) (lv w P l) n from hn.o l hl]
    exact nV_ops wn (fun z => h.o _ z o2 (cl.1 z) l hl) (fun z => h.o _ z o4 (cl.2.1 z) l hl) (fun z => h.o _ z o6 (cl.2.2 z) l hl)
  · rw [← h.o n a (by omega) c l hl]
    have wd := hW.wd a (show n < w 0 by omega)
    exact hw.re (by omega) (Or.inl (by omega))
theorem dv_r (h : Hp) (R Q R' Q' : Int → Int64) : rJ (rJ (rJ (rJ h 45 R) 44 Q) 45 R') 44 Q' = rJ (rJ h 45 R') 44 Q' := by
  rw [rJ_comm (rJ h 45 R) (by decide : (44 : Nat) ≠ 45), rJ_rJ, rJ_rJ]
theorem bit1 {x : Int64} {k : Int} (h0 : 0 ≤ k) (h1 : k < 64) : (cmpL (lUshr x k &&& 1) 0 = 0 → lb x k.toNat = false) ∧ (cmpL (lUshr x k &&& 1) 0 ≠ 0 → lb x k.toNat = true) := by
  have u := ush1 (s := x) h0 h1
  refine ⟨fun q => u.mp (cmpL_0.mp q), fun q => ?_⟩
  cases e : lb x k.toNat with
  | true => rfl
  | false => exact absurd (cmpL_0.mpr (u.mpr e)) q
theorem m_X3_runNode : MM 54 s_X3_runNode := mm_of (own := 2) (by rfl) k_X3_runNode (cl := [(5, s_X0_get), (55, s_X3_constantWord), (28, s_X0_placeOf), (56, s_X3_variableWord), (57, s_X3_calculate), (61, s_X3_combine), (62, s_X3_shift), (65, s_X3_divide), (69, s_X3_compare), (72, s_X3_choose), (73, s_X3_rearrange)]) ⟨m_X0_get, m_X3_constantWord, m_X0_placeOf, m_X3_variableWord, m_X3_calculate, m_X3_combine, m_X3_shift, m_X3_divide, m_X3_compare, m_X3_choose, m_X3_rearrange, trivial⟩ o_X3_runNode
def s_X3_run : CS := (zc 4, ap [(3, 43), (0, 0), (1, 0)] (fun B s h Rt X =>
∃ w, GH h w ∧ WF w ∧ Clo w s ∧ ∀ R Q, VlL w Q B s (w 0) → Rt none (rJ (rJ h 45 R) 44 Q)))
set_option maxRecDepth 100000 in
set_option maxHeartbeats 4000000 in
theorem o_X3_run : Obl true 0 5 (sp [(1, s_X0_count), (54, s_X3_runNode)]) [] code_X3_run s_X3_run := by
  refine oblL (by rfl) [(3, [0, 1, 2, 4])] ?_
  intro B r_B s h Rt X hh hf hs
  obtain ⟨w, hG, hW, hC, h2⟩ := hs
  have g0 := hG.n
  have g1 := hW.nn
  refine ⟨fun m pc vs g => ∃ (i : Int) (R Q : Int → Int64), g = rJ (rJ h 45 R) 44 Q ∧ vs = [.inr (.inr (some 43)), .inl B, .inr (.inl s), .inl i] ∧ 0 ≤ i ∧ i ≤ w 0 ∧ VlL w Q B s i ∧ m = (w 0 - i).toNat, ?_, ?_⟩
  · have e : h = rJ (rJ h 45 (hJ h 45)) 44 (hJ h 44) := by rw [rJ_id, rJ_id]
    repeat' (first | apply And.intro | (with_reducible assumption) | (intro h9; first | (exfalso; omega) | (simp only [rI_rI, rJ_rJ, hI_rI, hJ_rI, hI_rJ, hJ_rJ, hI_rR, hR_rI, hR_rJ, hN_rI, hN_rJ, svH_63, svH_66, rfH_63, wvH_63, wvH_62, wvH_67, wvH_68, wvH_69, sc_63, sc_n62, sc_n67, sc_n68, sc_n69, sc_n70, reduceIte, Nat.reduceEqDiff, eq_self, up_up, up_self, up_ne, ne_eq, not_false_eq_true, Int.reduceEq, Int.reduceNeg] at h9; first | (exfalso; omega) | skip) | skip) | exact Exists.intro _ ⟨0, hJ h 45, hJ h 44, e, rfl, by omega, by omega, Box.i (fun n a b => by omega), rfl⟩ | exact h2 | exact h2 (by omega) | omega | exact True.intro | (simp only [rI_rI, rJ_rJ, hI_rI, hJ_rI, hI_rJ, hJ_rJ, hI_rR, hR_rI, hR_rJ, hN_rI, hN_rJ, svH_63, svH_66, rfH_63, wvH_63, wvH_62, wvH_67, wvH_68, wvH_69, sc_63, sc_n62, sc_n67, sc_n68, sc_n69, sc_n70, reduceIte, Nat.reduceEqDiff, eq_self, up_up, up_self, up_ne, ne_eq, not_false_eq_true, Int.reduceEq, Int.reduceNeg]; omega))
  · rintro m pc live vs g hl ⟨i, R, Q, rfl, rfl, i1, i2, i3, rfl⟩ hv hh1 hf1
    obtain ⟨rfl, rfl⟩ := look1 hl
    by_cases z : i < w 0
    · have b := bit1 (x := s) i1 (show i < 64 by omega)
      repeat' (first | apply And.intro | (with_reducible assumption) | (intro h9; first | (exfalso; omega) | (simp only [rI_rI, rJ_rJ, hI_rI, hJ_rI, hI_rJ, hJ_rJ, hI_rR, hR_rI, hR_rJ, hN_rI, hN_rJ, svH_63, svH_66, rfH_63, wvH_63, wvH_62, wvH_67, wvH_68, wvH_69, sc_63, sc_n62, sc_n67, sc_n68, sc_n69, sc_n70, reduceIte, Nat.reduceEqDiff, eq_self, up_up, up_self, up_ne, ne_eq, not_false_eq_true, Int.reduceEq, Int.reduceNeg] at h9; first | (exfalso; omega) | skip) | skip) | exact Exists.intro _ ⟨by omega, i + 1, R, Q, rfl, rfl, by omega, by omega, i3.miss (b.1 (by assumption)), rfl⟩ | refine Exists.intro w ?_ | exact hG | exact hW | exact Exists.intro _ ⟨by omega, i + 1, _, _, dv_r _ _ _ _ _, rfl, by omega, by omega, i3.hit hW hC i1 z (b.2 (by assumption)) (by assumption) (by assumption), rfl⟩ | exact h2 | exact h2 (by omega) | omega | exact True.intro | (simp only [rI_rI, rJ_rJ, hI_rI, hJ_rI, hI_rJ, hJ_rJ, hI_rR, hR_rI, hR_rJ, hN_rI, hN_rJ, svH_63, svH_66, rfH_63, wvH_63, wvH_62, wvH_67, wvH_68, wvH_69, sc_63, sc_n62, sc_n67, sc_n68, sc_n69, sc_n70, reduceIte, Nat.reduceEqDiff, eq_self, up_up, up_self, up_ne, ne_eq, not_false_eq_true, Int.reduceEq, Int.reduceNeg]; omega))
    · obtain rfl : i = w 0 := by omega
      have k2 := h2 R Q i3
      repeat' (first | apply And.intro | (with_reducible assumption) | (intro h9; first | (exfalso; omega) | (simp only [rI_rI, rJ_rJ, hI_rI, hJ_rI, hI_rJ, hJ_rJ, hI_rR, hR_rI, hR_rJ, hN_rI, hN_rJ, svH_63, svH_66, rfH_63, wvH_63, wvH_62, wvH_67, wvH_68, wvH_69, sc_63, sc_n62, sc_n67, sc_n68, sc_n69, sc_n70, reduceIte, Nat.reduceEqDiff, eq_self, up_up, up_self, up_ne, ne_eq, not_false_eq_true, Int.reduceEq, Int.reduceNeg] at h9; first | (exfalso; omega) | skip) | skip) | exact k2 | exact h2 | exact h2 (by omega) | omega | exact True.intro | (simp only [rI_rI, rJ_rJ, hI_rI, hJ_rI, hI_rJ, hJ_rJ, hI_rR, hR_rI, hR_rJ, hN_rI, hN_rJ, svH_63, svH_66, rfH_63, wvH_63, wvH_62, wvH_67, wvH_68, wvH_69, sc_63, sc_n62, sc_n67, sc_n68, sc_n69, sc_n70, reduceIte, Nat.reduceEqDiff, eq_self, up_up, up_self, up_ne, ne_eq, not_false_eq_true, Int.reduceEq, Int.reduceNeg]; omega))
theorem m_X3_run : MM 45 s_X3_run := mm_of (own := 2) (by rfl) k_X3_run (cl := [(1, s_X0_count), (54, s_X3_runNode)]) ⟨m_X0_count, m_X3_runNode, trivial⟩ o_X3_run

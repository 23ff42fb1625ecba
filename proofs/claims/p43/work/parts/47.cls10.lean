/-! ===== the class: saving and bringing back ===== -/
theorem HR.p {f : Nat → Int → Int} {r : Int → Option Nat} {ps : Int → Int} {s : Int} (h : HR f r ps s) : ∃ P : Int → Nat, ((r 0 = some (P 0) ∧ r 1 = some (P 1) ∧ r 2 = some (P 2) ∧ r 3 = some (P 3) ∧ r 4 = some (P 4)) ∧ SL (P 0) ∧ SL (P 1) ∧ SL (P 2) ∧ SL (P 3) ∧ SL (P 4)) := by
  obtain ⟨h1, h2, h3, P, p1, p2, p3⟩ := h.o
  exact ⟨P, ⟨(p1 0 (by omega) (by omega)).1, (p1 1 (by omega) (by omega)).1, (p1 2 (by omega) (by omega)).1, (p1 3 (by omega) (by omega)).1, (p1 4 (by omega) (by omega)).1⟩, (p1 0 (by omega) (by omega)).2, (p1 1 (by omega) (by omega)).2, (p1 2 (by omega) (by omega)).2, (p1 3 (by omega) (by omega)).2, (p1 4 (by omega) (by omega)).2⟩
theorem hs_set {h : Hp} {a b c d e : Nat} {s : Int} (h0 : hR h 12 0 = some a) (h1 : hR h 12 1 = some b) (h2 : hR h 12 2 = some c) (h3 : hR h 12 3 = some d) (h4 : hR h 12 4 = some e) (h5 : hI h 11 1 = s) : ∃ g, h = rI (rR g 12 (U5 (hR g 12) a b c d e)) 11 (up (hI g 11) 1 s) := by
  refine ⟨h, ?_⟩
  rw [U5_id h0 h1 h2 h3 h4, rR_id, ← h5, up_id, rI_id]
theorem dk_HR {h : Hp} {ps : Int → Int} (hr : HR (hI h) (hR h 12) ps 5) : HR (hI (rI (rR h 12 (dk (hR h 12))) 11 (up (hI h 11) 1 4))) (dk (hR h 12)) (pSh ps 1396) 4 := by
  refine drop_HR hr (fun i i0 i1 => ?_) rfl
  have k : i = 0 ∨ i = 1 ∨ i = 2 ∨ i = 3 := by omega
  rcases k with rfl | rfl | rfl | rfl <;> rfl
def s_X1_save : CS := (zc 2, ap [(3, 11), (3, 5), (0, 0)] (fun n h Rt X =>
∃ w ps s, HR (hI h) (hR h 12) ps s ∧ St0 (hI h) 5 w ∧ Cts w ∧ n = w 0 ∧ ∀ f r, HR f r (svPp ps s w) (svS s) → Rt none (hsH h f r)))
set_option maxRecDepth 100000 in
set_option maxHeartbeats 4000000 in
theorem o_X1_save : Obl true 0 3 (sp [(36, s_X1_dropOldest), (119, s_X6_copyFrom)]) [] code_X1_save s_X1_save := by
  refine obl0 (by rfl) ?_
  intro n r_n h Rt X hh hf hs
  obtain ⟨w, ps, s, hH, hS, hC, hn, h2⟩ := hs
  obtain ⟨P, ⟨e0, e1, e2, e3, e4⟩, s0, s1, s2, s3, s4⟩ := hH.p
  have hs1 := hH.o.1
  have hs2 := hH.o.2.1
  have hs3 := hH.o.2.2.1
  by_cases z : s = 5
  · subst z
    have k := h2 (svF' (hI (rI (rR h 12 (dk (hR h 12))) 11 (up (hI h 11) 1 4))) (P 0) n 4) (dk (hR h 12)) (by
      have q := save_HR (f := hI (rI (rR h 12 (dk (hR h 12))) 11 (up (hI h 11) 1 4))) (a := P 0) (n := n) (dk_HR hH) (by decide) (w := w) hS hC hn e0
      unfold svPp svS
      rw [if_pos rfl, if_pos rfl]
      exact q)
    rw [← hs_hs h _ (hI h) (dk (hR h 12)) (dk (hR h 12)) (up (hI h 11) 1 4) (fun _ _ => trivial)] at k
    have e := save_H (rI (rR h 12 (dk (hR h 12))) 11 (up (hI h 11) 1 4)) s0 n
    rw [← bk_st _ s0] at e
    have k2 := rt_eq (Rt := Rt) k rfl e.symm
    clear k e h2
    have x5 : (5 : Int) - 1 = 4 := rfl
    rw [← x5] at k2
    have x8 : ∀ F, hI (bkH (rI (rR h 12 (dk (hR h 12))) 11 (up (hI h 11) 1 (hI h 11 1 - 1))) F) 11 1 = 4 := fun F => by show hI h 11 1 - 1 = 4; rw [hs1]; rfl
    have x9 : ∀ F G, hI (rI (bkH (rI (rR h 12 (dk (hR h 12))) 11 (up (hI h 11) 1 (hI h 11 1 - 1))) F) (P 0) G) 11 1 = 4 := fun F G => by rw [hI_rI, if_neg (by have := s0.o; omega), hs1]; rfl
    have bx : Box (∃ a b c d e : Nat, hR h 12 0 = some a ∧ hR h 12 1 = some b ∧ hR h 12 2 = some c ∧ hR h 12 3 = some d ∧ hR h 12 4 = some e ∧ SL a ∧ SL b ∧ SL c ∧ SL d ∧ SL e) := Box.i ⟨P 0, P 1, P 2, P 3, P 4, e0, e1, e2, e3, e4, s0, s1, s2, s3, s4⟩
    obtain ⟨g, e8⟩ := hs_set e0 e1 e2 e3 e4 hs1
    subst e8
    repeat' (first | apply And.intro | (with_reducible assumption) | (intro h9; first | (exfalso; omega) | (simp only [rI_rI, rJ_rJ, hI_rI, hJ_rI, hI_rJ, hJ_rJ, hI_rR, hR_rI, hR_rJ, hN_rI, hN_rJ, svH_63, svH_66, rfH_63, wvH_63, wvH_62, wvH_67, wvH_68, wvH_69, sc_63, sc_n62, sc_n67, sc_n68, sc_n69, sc_n70, reduceIte, Nat.reduceEqDiff, eq_self, up_up, up_self, up_ne, ne_eq, not_false_eq_true, Int.reduceEq, Int.reduceNeg] at h9; first | (exfalso; omega) | skip) | skip) | exact bx | refine Or.inr ⟨rfl, s0, ?_⟩ | refine ob_i s0.kd ?_ | (rw [x9]; decide) | (rw [x8]; decide) | exact k2 | exact h2 | exact h2 (by omega) | omega | exact True.intro | (simp only [rI_rI, rJ_rJ, hI_rI, hJ_rI, hI_rJ, hJ_rJ, hI_rR, hR_rI, hR_rJ, hN_rI, hN_rJ, svH_63, svH_66, rfH_63, wvH_63, wvH_62, wvH_67, wvH_68, wvH_69, sc_63, sc_n62, sc_n67, sc_n68, sc_n69, sc_n70, reduceIte, Nat.reduceEqDiff, eq_self, up_up, up_self, up_ne, ne_eq, not_false_eq_true, Int.reduceEq, Int.reduceNeg]; omega))
  by_cases z : s = 0
  · subst z
    have k := h2 (svF' (hI h) (P 0) n 0) (hR h 12) (by
      have q := save_HR (n := n) hH (by decide) hS hC hn e0
      unfold svPp svS
      rw [if_neg (by decide), if_neg (by decide)]
      exact q)
    have e := save_H h s0 n
    rw [hs1, ← bk_st _ s0] at e
    have k2 := rt_eq (Rt := Rt) k rfl e.symm
    have x8 : ∀ F, hI (bkH h F) 11 1 = 0 := fun F => hs1
    have x9 : ∀ F G, hI (rI (bkH h F) (P 0) G) 11 1 = 0 := fun F G => by rw [hI_rI, if_neg (by have := s0.o; omega)]; exact hs1
    clear k e h2
    obtain ⟨g, e8⟩ := hs_set e0 e1 e2 e3 e4 hs1
    subst e8
    repeat' (first | apply And.intro | (with_reducible assumption) | (intro h9; first | (exfalso; omega) | (simp only [rI_rI, rJ_rJ, hI_rI, hJ_rI, hI_rJ, hJ_rJ, hI_rR, hR_rI, hR_rJ, hN_rI, hN_rJ, svH_63, svH_66, rfH_63, wvH_63, wvH_62, wvH_67, wvH_68, wvH_69, sc_63, sc_n62, sc_n67, sc_n68, sc_n69, sc_n70, reduceIte, Nat.reduceEqDiff, eq_self, up_up, up_self, up_ne, ne_eq, not_false_eq_true, Int.reduceEq, Int.reduceNeg] at h9; first | (exfalso; omega) | skip) | skip) | refine Or.inr ⟨rfl, s0, ?_⟩ | refine ob_i s0.kd ?_ | (rw [x9]; decide) | (rw [x8]; decide) | exact k2 | exact h2 | exact h2 (by omega) | omega | exact True.intro | (simp only [rI_rI, rJ_rJ, hI_rI, hJ_rI, hI_rJ, hJ_rJ, hI_rR, hR_rI, hR_rJ, hN_rI, hN_rJ, svH_63, svH_66, rfH_63, wvH_63, wvH_62, wvH_67, wvH_68, wvH_69, sc_63, sc_n62, sc_n67, sc_n68, sc_n69, sc_n70, reduceIte, Nat.reduceEqDiff, eq_self, up_up, up_self, up_ne, ne_eq, not_false_eq_true, Int.reduceEq, Int.reduceNeg]; omega))
  by_cases z : s = 1
  · subst z
    have k := h2 (svF' (hI h) (P 1) n 1) (hR h 12) (by
      have q := save_HR (n := n) hH (by decide) hS hC hn e1
      unfold svPp svS
      rw [if_neg (by decide), if_neg (by decide)]
      exact q)
    have e := save_H h s1 n
    rw [hs1, ← bk_st _ s1] at e
    have k2 := rt_eq (Rt := Rt) k rfl e.symm
    have x8 : ∀ F, hI (bkH h F) 11 1 = 1 := fun F => hs1
    have x9 : ∀ F G, hI (rI (bkH h F) (P 1) G) 11 1 = 1 := fun F G => by rw [hI_rI, if_neg (by have := s1.o; omega)]; exact hs1
    clear k e h2
    obtain ⟨g, e8⟩ := hs_set e0 e1 e2 e3 e4 hs1
    subst e8
    repeat' (first | apply And.intro | (with_reducible assumption) | (intro h9; first | (exfalso; omega) | (simp only [rI_rI, rJ_rJ, hI_rI, hJ_rI, hI_rJ, hJ_rJ, hI_rR, hR_rI, hR_rJ, hN_rI, hN_rJ, svH_63, svH_66, rfH_63, wvH_63, wvH_62, wvH_67, wvH_68, wvH_69, sc_63, sc_n62, sc_n67, sc_n68, sc_n69, sc_n70, reduceIte, Nat.reduceEqDiff, eq_self, up_up, up_self, up_ne, ne_eq, not_false_eq_true, Int.reduceEq, Int.reduceNeg] at h9; first | (exfalso; omega) | skip) | skip) | refine Or.inr ⟨rfl, s1, ?_⟩ | refine ob_i s1.kd ?_ | (rw [x9]; decide) | (rw [x8]; decide) | exact k2 | exact h2 | exact h2 (by omega) | omega | exact True.intro | (simp only [rI_rI, rJ_rJ, hI_rI, hJ_rI, hI_rJ, hJ_rJ, hI_rR, hR_rI, hR_rJ, hN_rI, hN_rJ, svH_63, svH_66, rfH_63, wvH_63, wvH_62, wvH_67, wvH_68, wvH_69, sc_63, sc_n62, sc_n67, sc_n68, sc_n69, sc_n70, reduceIte, Nat.reduceEqDiff, eq_self, up_up, up_self, up_ne, ne_eq, not_false_eq_true, Int.reduceEq, Int.reduceNeg]; omega))
  by_cases z : s = 2
  · subst z
    have k := h2 (svF' (hI h) (P 2) n 2) (hR h 12) (by
      have q := save_HR (n := n) hH (by decide) hS hC hn e2
      unfold svPp svS
      rw [if_neg (by decide), if_neg (by decide)]
      exact q)
    have e := save_H h s2 n
    rw [hs1, ← bk_st _ s2] at e
    have k2 := rt_eq (Rt := Rt) k rfl e.symm
    have x8 : ∀ F, hI (bkH h F) 11 1 = 2 := fun F => hs1
    have x9 : ∀ F G, hI (rI (bkH h F) (P 2) G) 11 1 = 2 := fun F G => by rw [hI_rI, if_neg (by have := s2.o; omega)]; exact hs1
    clear k e h2
    obtain ⟨g, e8⟩ := hs_set e0 e1 e2 e3 e4 hs1
    subst e8
    repeat' (first | apply And.intro | (with_reducible assumption) | (intro h9; first | (exfalso; omega) | (simp only [rI_rI, rJ_rJ, hI_rI, hJ_rI, hI_rJ, hJ_rJ, hI_rR, hR_rI, hR_rJ, hN_rI, hN_rJ, svH_63, svH_66, rfH_63, wvH_63, wvH_62, wvH_67, wvH_68, wvH_69, sc_63, sc_n62, sc_n67, sc_n68, sc_n69, sc_n70, reduceIte, Nat.reduceEqDiff, eq_self, up_up, up_self, up_ne, ne_eq, not_false_eq_true, Int.reduceEq, Int.reduceNeg] at h9; first | (exfalso; omega) | skip) | skip) | refine Or.inr ⟨rfl, s2, ?_⟩ | refine ob_i s2.kd ?_ | (rw [x9]; decide) | (rw [x8]; decide) | exact k2 | exact h2 | exact h2 (by omega) | omega | exact True.intro | (simp only [rI_rI, rJ_rJ, hI_rI, hJ_rI, hI_rJ, hJ_rJ, hI_rR, hR_rI, hR_rJ, hN_rI, hN_rJ, svH_63, svH_66, rfH_63, wvH_63, wvH_62, wvH_67, wvH_68, wvH_69, sc_63, sc_n62, sc_n67, sc_n68, sc_n69, sc_n70, reduceIte, Nat.reduceEqDiff, eq_self, up_up, up_self, up_ne, ne_eq, not_false_eq_true, Int.reduceEq, Int.reduceNeg]; omega))
  by_cases z : s = 3
  · subst z
    have k := h2 (svF' (hI h) (P 3) n 3) (hR h 12) (by
      have q := save_HR (n := n) hH (by decide) hS hC hn e3
      unfold svPp svS
      rw [if_neg (by decide), if_neg (by decide)]
      exact q)
    have e := save_H h s3 n
    rw [hs1, ← bk_st _ s3] at e
    have k2 := rt_eq (Rt := Rt) k rfl e.symm
    have x8 : ∀ F, hI (bkH h F) 11 1 = 3 := fun F => hs1
    have x9 : ∀ F G, hI (rI (bkH h F) (P 3) G) 11 1 = 3 := fun F G => by rw [hI_rI, if_neg (by have := s3.o; omega)]; exact hs1
    clear k e h2
    obtain ⟨g, e8⟩ := hs_set e0 e1 e2 e3 e4 hs1
    subst e8
    repeat' (first | apply And.intro | (with_reducible assumption) | (intro h9; first | (exfalso; omega) | (simp only [rI_rI, rJ_rJ, hI_rI, hJ_rI, hI_rJ, hJ_rJ, hI_rR, hR_rI, hR_rJ, hN_rI, hN_rJ, svH_63, svH_66, rfH_63, wvH_63, wvH_62, wvH_67, wvH_68, wvH_69, sc_63, sc_n62, sc_n67, sc_n68, sc_n69, sc_n70, reduceIte, Nat.reduceEqDiff, eq_self, up_up, up_self, up_ne, ne_eq, not_false_eq_true, Int.reduceEq, Int.reduceNeg] at h9; first | (exfalso; omega) | skip) | skip) | refine Or.inr ⟨rfl, s3, ?_⟩ | refine ob_i s3.kd ?_ | (rw [x9]; decide) | (rw [x8]; decide) | exact k2 | exact h2 | exact h2 (by omega) | omega | exact True.intro | (simp only [rI_rI, rJ_rJ, hI_rI, hJ_rI, hI_rJ, hJ_rJ, hI_rR, hR_rI, hR_rJ, hN_rI, hN_rJ, svH_63, svH_66, rfH_63, wvH_63, wvH_62, wvH_67, wvH_68, wvH_69, sc_63, sc_n62, sc_n67, sc_n68, sc_n69, sc_n70, reduceIte, Nat.reduceEqDiff, eq_self, up_up, up_self, up_ne, ne_eq, not_false_eq_true, Int.reduceEq, Int.reduceNeg]; omega))
  by_cases z : s = 4
  · subst z
    have k := h2 (svF' (hI h) (P 4) n 4) (hR h 12) (by
      have q := save_HR (n := n) hH (by decide) hS hC hn e4
      unfold svPp svS
      rw [if_neg (by decide), if_neg (by decide)]
      exact q)
    have e := save_H h s4 n
    rw [hs1, ← bk_st _ s4] at e
    have k2 := rt_eq (Rt := Rt) k rfl e.symm
    have x8 : ∀ F, hI (bkH h F) 11 1 = 4 := fun F => hs1
    have x9 : ∀ F G, hI (rI (bkH h F) (P 4) G) 11 1 = 4 := fun F G => by rw [hI_rI, if_neg (by have := s4.o; omega)]; exact hs1
    clear k e h2
    obtain ⟨g, e8⟩ := hs_set e0 e1 e2 e3 e4 hs1
    subst e8
    repeat' (first | apply And.intro | (with_reducible assumption) | (intro h9; first | (exfalso; omega) | (simp only [rI_rI, rJ_rJ, hI_rI, hJ_rI, hI_rJ, hJ_rJ, hI_rR, hR_rI, hR_rJ, hN_rI, hN_rJ, svH_63, svH_66, rfH_63, wvH_63, wvH_62, wvH_67, wvH_68, wvH_69, sc_63, sc_n62, sc_n67, sc_n68, sc_n69, sc_n70, reduceIte, Nat.reduceEqDiff, eq_self, up_up, up_self, up_ne, ne_eq, not_false_eq_true, Int.reduceEq, Int.reduceNeg] at h9; first | (exfalso; omega) | skip) | skip) | refine Or.inr ⟨rfl, s4, ?_⟩ | refine ob_i s4.kd ?_ | (rw [x9]; decide) | (rw [x8]; decide) | exact k2 | exact h2 | exact h2 (by omega) | omega | exact True.intro | (simp only [rI_rI, rJ_rJ, hI_rI, hJ_rI, hI_rJ, hJ_rJ, hI_rR, hR_rI, hR_rJ, hN_rI, hN_rJ, svH_63, svH_66, rfH_63, wvH_63, wvH_62, wvH_67, wvH_68, wvH_69, sc_63, sc_n62, sc_n67, sc_n68, sc_n69, sc_n70, reduceIte, Nat.reduceEqDiff, eq_self, up_up, up_self, up_ne, ne_eq, not_false_eq_true, Int.reduceEq, Int.reduceNeg]; omega))
  omega
/-- the rows of now and the history's count anew -/
def nwH (h : Hp) (f : Nat → Int → Int) : Hp := (h.1, (fun q => if 5 ≤ q ∧ q < 12 then f q else h.2.1 q), h.2.2)
theorem nw_H (h : Hp) (b : Nat) (x : Int → Int) : stH (rI h 11 x) 5 (cpS (hI (rI h 11 x)) 5 b) = nwH h (fun q => if q = 11 then x else cpS (hI (rI h 11 x)) 5 b q) := by
  unfold nwH stH
  refine Prod.ext rfl (Prod.ext ?_ rfl)
  funext q
  show (if 5 ≤ q ∧ q < 5 + 6 then _ else (if q = 11 then x else h.2.1 q)) = (if 5 ≤ q ∧ q < 12 then _ else _)
  by_cases z : 5 ≤ q ∧ q < 12
  · rw [if_pos z]
    by_cases y : q = 11
    · rw [if_neg (by omega), if_pos y]
      rw [if_pos y]
    · rw [if_pos (by omega), if_neg y]
  · rw [if_neg z, if_neg (by omega)]
    rw [if_neg (by omega)]
theorem nw_HR {h : Hp} {ps : Int → Int} {s : Int} {b : Nat} (hr : HR (hI h) (hR h 12) ps s) (h0 : 0 < s) (hb : hR h 12 (s - 1) = some b) : St0 (hI (nwH h (fun q => if q = 11 then up (hI h 11) 1 (s - 1) else cpS (hI (rI h 11 (up (hI h 11) 1 (s - 1)))) 5 b q))) 5 (rowP ps (s - 1)) ∧ HR (hI (nwH h (fun q => if q = 11 then up (hI h 11) 1 (s - 1) else cpS (hI (rI h 11 (up (hI h 11) 1 (s - 1)))) 5 b q))) (hR h 12) ps (s - 1) ∧ hI (nwH h (fun q => if q = 11 then up (hI h 11) 1 (s - 1) else cpS (hI (rI h 11 (up (hI h 11) 1 (s - 1)))) 5 b q)) 5 0 = rowP ps (s - 1) 0 := by
  obtain ⟨h1, h2, h3, P, p1, p2, p3⟩ := hr.o
  have pb := p1 (s - 1) (by omega) (by omega)
  rw [hb, Option.some_inj] at pb
  obtain ⟨rfl, sb⟩ := pb
  have q := p3 (s - 1) (by omega) (by omega)
  have lb := sb.lo
  have eo : ∀ z, 12 ≤ z → hI (nwH h (fun q => if q = 11 then up (hI h 11) 1 (s - 1) else cpS (hI (rI h 11 (up (hI h 11) 1 (s - 1)))) 5 (P (s - 1)) q)) z = hI h z := fun z hz => by
    show (if 5 ≤ z ∧ z < 12 then _ else _) = _
    rw [if_neg (by omega)]
    rfl
  have ex : ∀ z, 12 ≤ z → hI (rI h 11 (up (hI h 11) 1 (s - 1))) z = hI h z := fun z hz => by
    rw [hI_rI, if_neg (by omega)]
  refine ⟨?_, Box.i ⟨?_, by omega, by omega, P, p1, p2, fun i i0 i1 => ?_⟩, ?_⟩
  · have k := cpS_st (a := 5) (St0_fc (g := hI (rI h 11 (up (hI h 11) 1 (s - 1)))) (fun z a b => ex z (by omega)) q.1) q.2.2
    exact k
  · show up (hI h 11) 1 (s - 1) 1 = s - 1
    exact up_self _ _ _
  · have r := p3 i i0 (by omega)
    have si := (p1 i i0 (by omega)).2.lo
    exact ⟨St0_fc (fun z a b => eo z (by omega)) r.1, by rw [eo _ (by omega)]; exact r.2.1, r.2.2⟩
  · show cpS (hI (rI h 11 (up (hI h 11) 1 (s - 1)))) 5 (P (s - 1)) 5 0 = _
    rw [cpS_0, ex _ (by omega)]
    exact q.2.1
theorem m_X1_save : MM 35 s_X1_save := mm_of (own := 1) (by rfl) k_X1_save (cl := [(36, s_X1_dropOldest), (119, s_X6_copyFrom)]) ⟨m_X1_dropOldest, m_X6_copyFrom, trivial⟩ o_X1_save
def s_X1_restore : CS := (zc 2, ap [(3, 11), (3, 5)] (fun  h Rt X =>
∃ ps s, HR (hI h) (hR h 12) ps s ∧ 0 < s ∧ ∀ f, St0 (hI (nwH h f)) 5 (rowP ps (s - 1)) → hI (nwH h f) 5 0 = rowP ps (s - 1) 0 → HR (hI (nwH h f)) (hR h 12) ps (s - 1) → Rt none (nwH h f)))
set_option maxRecDepth 100000 in
set_option maxHeartbeats 4000000 in
theorem o_X1_restore : Obl true 0 2 (sp [(119, s_X6_copyFrom)]) [] code_X1_restore s_X1_restore := by
  refine obl0 (by rfl) ?_
  intro  h Rt X hh hf hs
  obtain ⟨ps, s, hH, h0, h2⟩ := hs
  obtain ⟨P, ⟨e0, e1, e2, e3, e4⟩, s0, s1, s2, s3, s4⟩ := hH.p
  have hs1 := hH.o.1
  have hs2 := hH.o.2.1
  have hs3 := hH.o.2.2.1
  by_cases z : s = 1
  · subst z
    obtain ⟨n1, n2, n3⟩ := nw_HR (b := P 0) hH (by decide) e0
    have k := h2 _ n1 n3 n2
    rw [← nw_H, ← hs1] at k
    clear n1 n2 n3 h2
    obtain ⟨g, e8⟩ := hs_set e0 e1 e2 e3 e4 hs1
    subst e8
    repeat' (first | apply And.intro | (with_reducible assumption) | (intro h9; first | (exfalso; omega) | (simp only [rI_rI, rJ_rJ, hI_rI, hJ_rI, hI_rJ, hJ_rJ, hI_rR, hR_rI, hR_rJ, hN_rI, hN_rJ, svH_63, svH_66, rfH_63, wvH_63, wvH_62, wvH_67, wvH_68, wvH_69, sc_63, sc_n62, sc_n67, sc_n68, sc_n69, sc_n70, reduceIte, Nat.reduceEqDiff, eq_self, up_up, up_self, up_ne, ne_eq, not_false_eq_true, Int.reduceEq, Int.reduceNeg] at h9; first | (exfalso; omega) | skip) | skip) | refine Or.inl ⟨rfl, s0, ?_⟩ | refine ob_i s0.kd ?_ | exact k | exact h0 | exact h0 (by omega) | exact h2 | exact h2 (by omega) | omega | exact True.intro | (simp only [rI_rI, rJ_rJ, hI_rI, hJ_rI, hI_rJ, hJ_rJ, hI_rR, hR_rI, hR_rJ, hN_rI, hN_rJ, svH_63, svH_66, rfH_63, wvH_63, wvH_62, wvH_67, wvH_68, wvH_69, sc_63, sc_n62, sc_n67, sc_n68, sc_n69, sc_n70, reduceIte, Nat.reduceEqDiff, eq_self, up_up, up_self, up_ne, ne_eq, not_false_eq_true, Int.reduceEq, Int.reduceNeg]; omega))
  by_cases z : s = 2
  · subst z
    obtain ⟨n1, n2, n3⟩ := nw_HR (b := P 1) hH (by decide) e1
    have k := h2 _ n1 n3 n2
    rw [← nw_H, ← hs1] at k
    clear n1 n2 n3 h2
    obtain ⟨g, e8⟩ := hs_set e0 e1 e2 e3 e4 hs1
    subst e8
    repeat' (first | apply And.intro | (with_reducible assumption) | (intro h9; first | (exfalso; omega) | (simp only [rI_rI, rJ_rJ, hI_rI, hJ_rI, hI_rJ, hJ_rJ, hI_rR, hR_rI, hR_rJ, hN_rI, hN_rJ, svH_63, svH_66, rfH_63, wvH_63, wvH_62, wvH_67, wvH_68, wvH_69, sc_63, sc_n62, sc_n67, sc_n68, sc_n69, sc_n70, reduceIte, Nat.reduceEqDiff, eq_self, up_up, up_self, up_ne, ne_eq, not_false_eq_true, Int.reduceEq, Int.reduceNeg] at h9; first | (exfalso; omega) | skip) | skip) | refine Or.inl ⟨rfl, s1, ?_⟩ | refine ob_i s1.kd ?_ | exact k | exact h0 | exact h0 (by omega) | exact h2 | exact h2 (by omega) | omega | exact True.intro | (simp only [rI_rI, rJ_rJ, hI_rI, hJ_rI, hI_rJ, hJ_rJ, hI_rR, hR_rI, hR_rJ, hN_rI, hN_rJ, svH_63, svH_66, rfH_63, wvH_63, wvH_62, wvH_67, wvH_68, wvH_69, sc_63, sc_n62, sc_n67, sc_n68, sc_n69, sc_n70, reduceIte, Nat.reduceEqDiff, eq_self, up_up, up_self, up_ne, ne_eq, not_false_eq_true, Int.reduceEq, Int.reduceNeg]; omega))
  by_cases z : s = 3
  · subst z
    obtain ⟨n1, n2, n3⟩ := nw_HR (b := P 2) hH (by decide) e2
    have k := h2 _ n1 n3 n2
    rw [← nw_H, ← hs1] at k
    clear n1 n2 n3 h2
    obtain ⟨g, e8⟩ := hs_set e0 e1 e2 e3 e4 hs1
    subst e8
    repeat' (first | apply And.intro | (with_reducible assumption) | (intro h9; first | (exfalso; omega) | (simp only [rI_rI, rJ_rJ, hI_rI, hJ_rI, hI_rJ, hJ_rJ, hI_rR, hR_rI, hR_rJ, hN_rI, hN_rJ, svH_63, svH_66, rfH_63, wvH_63, wvH_62, wvH_67, wvH_68, wvH_69, sc_63, sc_n62, sc_n67, sc_n68, sc_n69, sc_n70, reduceIte, Nat.reduceEqDiff, eq_self, up_up, up_self, up_ne, ne_eq, not_false_eq_true, Int.reduceEq, Int.reduceNeg] at h9; first | (exfalso; omega) | skip) | skip) | refine Or.inl ⟨rfl, s2, ?_⟩ | refine ob_i s2.kd ?_ | exact k | exact h0 | exact h0 (by omega) | exact h2 | exact h2 (by omega) | omega | exact True.intro | (simp only [rI_rI, rJ_rJ, hI_rI, hJ_rI, hI_rJ, hJ_rJ, hI_rR, hR_rI, hR_rJ, hN_rI, hN_rJ, svH_63, svH_66, rfH_63, wvH_63, wvH_62, wvH_67, wvH_68, wvH_69, sc_63, sc_n62, sc_n67, sc_n68, sc_n69, sc_n70, reduceIte, Nat.reduceEqDiff, eq_self, up_up, up_self, up_ne, ne_eq, not_false_eq_true, Int.reduceEq, Int.reduceNeg]; omega))
  by_cases z : s = 4
  · subst z
    obtain ⟨n1, n2, n3⟩ := nw_HR (b := P 3) hH (by decide) e3
    have k := h2 _ n1 n3 n2
    rw [← nw_H, ← hs1] at k
    clear n1 n2 n3 h2
    obtain ⟨g, e8⟩ := hs_set e0 e1 e2 e3 e4 hs1
    subst e8
    repeat' (first | apply And.intro | (with_reducible assumption) | (intro h9; first | (exfalso; omega) | (simp only [rI_rI, rJ_rJ, hI_rI, hJ_rI, hI_rJ, hJ_rJ, hI_rR, hR_rI, hR_rJ, hN_rI, hN_rJ, svH_63, svH_66, rfH_63, wvH_63, wvH_62, wvH_67, wvH_68, wvH_69, sc_63, sc_n62, sc_n67, sc_n68, sc_n69, sc_n70, reduceIte, Nat.reduceEqDiff, eq_self, up_up, up_self, up_ne, ne_eq, not_false_eq_true, Int.reduceEq, Int.reduceNeg] at h9; first | (exfalso; omega) | skip) | skip) | refine Or.inl ⟨rfl, s3, ?_⟩ | refine ob_i s3.kd ?_ | exact k | exact h0 | exact h0 (by omega) | exact h2 | exact h2 (by omega) | omega | exact True.intro | (simp only [rI_rI, rJ_rJ, hI_rI, hJ_rI, hI_rJ, hJ_rJ, hI_rR, hR_rI, hR_rJ, hN_rI, hN_rJ, svH_63, svH_66, rfH_63, wvH_63, wvH_62, wvH_67, wvH_68, wvH_69, sc_63, sc_n62, sc_n67, sc_n68, sc_n69, sc_n70, reduceIte, Nat.reduceEqDiff, eq_self, up_up, up_self, up_ne, ne_eq, not_false_eq_true, Int.reduceEq, Int.reduceNeg]; omega))
  by_cases z : s = 5
  · subst z
    obtain ⟨n1, n2, n3⟩ := nw_HR (b := P 4) hH (by decide) e4
    have k := h2 _ n1 n3 n2
    rw [← nw_H, ← hs1] at k
    clear n1 n2 n3 h2
    obtain ⟨g, e8⟩ := hs_set e0 e1 e2 e3 e4 hs1
    subst e8
    repeat' (first | apply And.intro | (with_reducible assumption) | (intro h9; first | (exfalso; omega) | (simp only [rI_rI, rJ_rJ, hI_rI, hJ_rI, hI_rJ, hJ_rJ, hI_rR, hR_rI, hR_rJ, hN_rI, hN_rJ, svH_63, svH_66, rfH_63, wvH_63, wvH_62, wvH_67, wvH_68, wvH_69, sc_63, sc_n62, sc_n67, sc_n68, sc_n69, sc_n70, reduceIte, Nat.reduceEqDiff, eq_self, up_up, up_self, up_ne, ne_eq, not_false_eq_true, Int.reduceEq, Int.reduceNeg] at h9; first | (exfalso; omega) | skip) | skip) | refine Or.inl ⟨rfl, s4, ?_⟩ | refine ob_i s4.kd ?_ | exact k | exact h0 | exact h0 (by omega) | exact h2 | exact h2 (by omega) | omega | exact True.intro | (simp only [rI_rI, rJ_rJ, hI_rI, hJ_rI, hI_rJ, hJ_rJ, hI_rR, hR_rI, hR_rJ, hN_rI, hN_rJ, svH_63, svH_66, rfH_63, wvH_63, wvH_62, wvH_67, wvH_68, wvH_69, sc_63, sc_n62, sc_n67, sc_n68, sc_n69, sc_n70, reduceIte, Nat.reduceEqDiff, eq_self, up_up, up_self, up_ne, ne_eq, not_false_eq_true, Int.reduceEq, Int.reduceNeg]; omega))
  omega
theorem m_X1_restore : MM 37 s_X1_restore := mm_of (own := 1) (by rfl) k_X1_restore (cl := [(119, s_X6_copyFrom)]) ⟨m_X6_copyFrom, trivial⟩ o_X1_restore

/-! ===== the class: what the search knows ===== -/
def se (h : Hp) (F : Int → Int) (R Q L : Int → Int64) : Hp := (h.1, (fun q => if q = 46 then F else h.2.1 q), (fun q => if q = 44 then Q else if q = 45 then R else if q = 47 then L else h.2.2.1 q), h.2.2.2)
theorem se_id (h : Hp) : se h (hI h 46) (hJ h 45) (hJ h 44) (hJ h 47) = h := by
  refine Prod.ext rfl (Prod.ext (funext fun q => ?_) (Prod.ext (funext fun q => ?_) rfl))
  · show (if q = 46 then h.2.1 46 else h.2.1 q) = h.2.1 q
    by_cases e : q = 46
    · rw [if_pos e, e]
    · rw [if_neg e]
  · show (if q = 44 then h.2.2.1 44 else if q = 45 then h.2.2.1 45 else if q = 47 then h.2.2.1 47 else h.2.2.1 q) = h.2.2.1 q
    by_cases e : q = 44
    · rw [if_pos e, e]
    rw [if_neg e]
    by_cases e1 : q = 45
    · rw [if_pos e1, e1]
    rw [if_neg e1]
    by_cases e2 : q = 47
    · rw [if_pos e2, e2]
    rw [if_neg e2]
theorem se_46 (h : Hp) (F F' : Int → Int) (R Q L : Int → Int64) : rI (se h F R Q L) 46 F' = se h F' R Q L := by
  refine Prod.ext rfl (Prod.ext (funext fun q => ?_) rfl)
  show (if q = 46 then F' else if q = 46 then F else h.2.1 q) = if q = 46 then F' else h.2.1 q
  by_cases e : q = 46
  · rw [if_pos e, if_pos e]
  · rw [if_neg e, if_neg e, if_neg e]
theorem se_44 (h : Hp) (F : Int → Int) (R Q Q' L : Int → Int64) : rJ (se h F R Q L) 44 Q' = se h F R Q' L := by
  refine Prod.ext rfl (Prod.ext rfl (Prod.ext (funext fun q => ?_) rfl))
  show (if q = 44 then Q' else if q = 44 then Q else if q = 45 then R else if q = 47 then L else h.2.2.1 q) = if q = 44 then Q' else if q = 45 then R else if q = 47 then L else h.2.2.1 q
  by_cases e : q = 44
  · rw [if_pos e, if_pos e]
  · rw [if_neg e, if_neg e, if_neg e]
theorem se_45 (h : Hp) (F : Int → Int) (R R' Q L : Int → Int64) : rJ (se h F R Q L) 45 R' = se h F R' Q L := by
  refine Prod.ext rfl (Prod.ext rfl (Prod.ext (funext fun q => ?_) rfl))
  show (if q = 45 then R' else if q = 44 then Q else if q = 45 then R else if q = 47 then L else h.2.2.1 q) = if q = 44 then Q else if q = 45 then R' else if q = 47 then L else h.2.2.1 q
  by_cases e : q = 45
  · subst e; rw [if_pos rfl, if_neg (by decide), if_pos rfl]
  · rw [if_neg e, if_neg e, if_neg e]
theorem se_47 (h : Hp) (F : Int → Int) (R Q L L' : Int → Int64) : rJ (se h F R Q L) 47 L' = se h F R Q L' := by
  refine Prod.ext rfl (Prod.ext rfl (Prod.ext (funext fun q => ?_) rfl))
  show (if q = 47 then L' else if q = 44 then Q else if q = 45 then R else if q = 47 then L else h.2.2.1 q) = if q = 44 then Q else if q = 45 then R else if q = 47 then L' else h.2.2.1 q
  by_cases e : q = 47
  · subst e; rw [if_pos rfl, if_neg (by decide), if_neg (by decide), if_pos rfl]
  · rw [if_neg e, if_neg e, if_neg e]
theorem se_se (h : Hp) (F F' : Int → Int) (R Q L R' Q' L' : Int → Int64) : se (se h F R Q L) F' R' Q' L' = se h F' R' Q' L' := by
  refine Prod.ext rfl (Prod.ext (funext fun q => ?_) (Prod.ext (funext fun q => ?_) rfl))
  · show (if q = 46 then F' else if q = 46 then F else h.2.1 q) = if q = 46 then F' else h.2.1 q
    by_cases e : q = 46
    · rw [if_pos e, if_pos e]
    · rw [if_neg e, if_neg e, if_neg e]
  · show (if q = 44 then Q' else if q = 45 then R' else if q = 47 then L' else if q = 44 then Q else if q = 45 then R else if q = 47 then L else h.2.2.1 q) = if q = 44 then Q' else if q = 45 then R' else if q = 47 then L' else h.2.2.1 q
    by_cases e : q = 44
    · simp [e]
    by_cases e1 : q = 45
    · simp [e1]
    by_cases e2 : q = 47
    · simp [e2]
    simp [e, e1, e2]
theorem se_run (h : Hp) (F : Int → Int) (R Q L R' Q' : Int → Int64) : rJ (rJ (se h F R Q L) 45 R') 44 Q' = se h F R' Q' L := by rw [se_45, se_44]
/-! sets of nodes -/
theorem lb_bO {x : Int} (h0 : -1 ≤ x) (h1 : x < 64) {j : Nat} (hj : j < 64) : lb (bO x) j = decide (x = (j : Int)) := by
  unfold bO
  by_cases e : x = -1
  · rw [if_pos e, lb_0]; exact (decide_eq_false (by omega)).symm
  · rw [if_neg e, lb_one (by omega) h1 hj]
    by_cases z : j = x.toNat
    · rw [decide_eq_true z]; exact (decide_eq_true (by omega)).symm
    · rw [decide_eq_false z]; exact (decide_eq_false (by omega)).symm
def OpsIn (w : Int → Int) (s : Int64) (n : Int) : Prop := (0 ≤ nd w n 2 → lb s (nd w n 2).toNat = true) ∧ (0 ≤ nd w n 3 → lb s (nd w n 3).toNat = true) ∧ (0 ≤ nd w n 4 → lb s (nd w n 4).toNat = true)
theorem OpsIn.mono {w : Int → Int} {s t : Int64} {n : Int} (h : OpsIn w s n) (e : ∀ j, lb s j = true → lb t j = true) : OpsIn w t n := ⟨fun q => e _ (h.1 q), fun q => e _ (h.2.1 q), fun q => e _ (h.2.2 q)⟩
theorem orN_lb {w : Int → Int} {s : Int64} {i : Int} (hn : WFn w i) (hi : i < 64) {j : Nat} (hj : j < 64) : lb (orN w s i 2) j = (lb s j || (decide (nd w i 2 = (j : Int)) || decide (nd w i 3 = (j : Int)) || decide (nd w i 4 = (j : Int)))) := by
  obtain ⟨-, ⟨o1, o2, o3, o4, o5, o6⟩, -⟩ := hn.o
  rw [orN_2, lb_or, lb_or, lb_or, lb_bO o1 (by omega) hj, lb_bO o3 (by omega) hj, lb_bO o5 (by omega) hj]
theorem orN_up {w : Int → Int} {s : Int64} {i : Int} {j : Nat} (h : lb s j = true) : lb (orN w s i 2) j = true := by
  rw [orN_2, lb_or, h, Bool.true_or]
theorem cF_mono (w : Int → Int) {j : Nat} : ∀ k : Nat, ∀ s, lb s j = true → lb (cF w k s) j = true := by
  intro k
  induction k with
  | zero => intro s h; exact h
  | succ k ih =>
    intro s h
    unfold cF
    split
    · exact ih _ (orN_up h)
    · exact ih _ h
theorem cF_clo {w : Int → Int} (hW : WF w) : ∀ k : Nat, (k : Int) ≤ w 0 → ∀ s, (∀ n, (k : Int) ≤ n → n < w 0 → lb s n.toNat = true → OpsIn w s n) → Clo w (cF w k s) := by
  have n0 := hW.nn
  intro k
  induction k with
  | zero => intro _ s h; exact Box.i fun n a b c => h n (by omega) b c
  | succ k ih =>
    intro hk s h
    unfold cF
    have wn := hW.node (n := (k : Int)) (by omega) (by omega)
    obtain ⟨-, ⟨o1, o2, o3, o4, o5, o6⟩, -⟩ := wn.o
    split
    · refine ih (by omega) _ fun n a b c => ?_
      by_cases e : n = k
      · subst e
        refine ⟨fun q => ?_, fun q => ?_, fun q => ?_⟩
        · rw [orN_lb wn (by omega) (by omega), decide_eq_true (show nd w k 2 = (((nd w k 2).toNat : Nat) : Int) by omega), Bool.true_or, Bool.true_or, Bool.or_true]
        · rw [orN_lb wn (by omega) (by omega), decide_eq_true (show nd w k 3 = (((nd w k 3).toNat : Nat) : Int) by omega), Bool.or_true, Bool.true_or, Bool.or_true]
        · rw [orN_lb wn (by omega) (by omega), decide_eq_true (show nd w k 4 = (((nd w k 4).toNat : Nat) : Int) by omega), Bool.or_true, Bool.or_true]
      · rw [orN_lb wn (by omega) (by omega), decide_eq_false (by omega), decide_eq_false (by omega), decide_eq_false (by omega), Bool.or_false, Bool.or_false, Bool.or_false] at c
        exact (h n (by omega) b c).mono fun j q => orN_up q
    · rename_i g
      refine ih (by omega) _ fun n a b c => ?_
      by_cases e : n = k
      · subst e
        rw [Int.toNat_natCast] at c
        exact absurd c g
      · exact h n (by omega) b c
theorem cone_clo {w : Int → Int} (hW : WF w) {n : Int} (h0 : 0 ≤ n) (h1 : n < w 0) : Clo w (coneW w n) ∧ lb (coneW w n) n.toNat = true := by
  have n0 := hW.nn
  refine ⟨cF_clo hW _ (by omega) _ fun m a b c => ?_, cF_mono w _ _ ?_⟩
  · rw [lb_one h0 (by omega) (by omega)] at c
    have := of_decide_eq_true c
    omega
  · rw [lb_one h0 (by omega) (by omega)]
    exact decide_eq_true rfl
theorem clo_0 (w : Int → Int) : Clo w 0 := Box.i fun n _ _ c => by rw [lb_0] at c; cases c
theorem clo_or {w : Int → Int} {s t : Int64} (h : Clo w s) (h' : Clo w t) : Clo w (s ||| t) := Box.i fun n a b c => by
  rw [lb_or, Bool.or_eq_true] at c
  have e1 : ∀ j, lb s j = true → lb (s ||| t) j = true := fun j q => by rw [lb_or, q, Bool.true_or]
  have e2 : ∀ j, lb t j = true → lb (s ||| t) j = true := fun j q => by rw [lb_or, q, Bool.or_true]
  rcases c with c | c
  · exact OpsIn.mono (h.o n a b c) e1
  · exact OpsIn.mono (h'.o n a b c) e2
theorem ones_all : ∀ n : Nat, n < 64 → ∀ l : Nat, l < 64 → lb (lShl 1 (n : Int) - 1) l = decide (l < n) := by decide +kernel
theorem lb_ones {n : Int} (h0 : 0 ≤ n) (h1 : n < 64) {l : Nat} (hl : l < 64) : lb (lShl 1 n - 1) l = decide ((l : Int) < n) := by
  have := ones_all n.toNat (by omega) l hl
  rw [show ((n.toNat : Nat) : Int) = n by omega] at this
  rw [this]
  by_cases e : (l : Int) < n
  · rw [decide_eq_true e, decide_eq_true (by omega)]
  · rw [decide_eq_false e, decide_eq_false (by omega)]
theorem clo_all {w : Int → Int} (hW : WF w) : Clo w (lShl 1 (w 0) - 1) := Box.i fun n a b _ => by
  have n0 := hW.nn
  obtain ⟨-, ⟨o1, o2, o3, o4, o5, o6⟩, -⟩ := (hW.node a b).o
  refine ⟨fun q => ?_, fun q => ?_, fun q => ?_⟩ <;> rw [lb_ones (by omega) (by omega) (by omega)] <;> exact decide_eq_true (by omega)
/-- a set that has all constraints' nodes, all wishes' -/
def HasC (w : Int → Int) (s : Int64) (k : Int) : Prop := Box (∀ j, 0 ≤ j → j < k → lb s (w (291 + j)).toNat = true)
def HasW (w : Int → Int) (s : Int64) (k : Int) : Prop := Box (∀ j, 0 ≤ j → j < k → lb s (w (333 + j)).toNat = true)
theorem HasC.st {w : Int → Int} {s t : Int64} {k : Int} (h : HasC w s k) (e : lb t (w (291 + k)).toNat = true) : HasC w (s ||| t) (k + 1) := Box.i fun j a b => by
  by_cases q : j = k
  · subst q; rw [lb_or, e, Bool.or_true]
  · rw [lb_or, h.o j a (by omega), Bool.true_or]
theorem HasW.st {w : Int → Int} {s t : Int64} {k : Int} (h : HasW w s k) (e : lb t (w (333 + k)).toNat = true) : HasW w (s ||| t) (k + 1) := Box.i fun j a b => by
  by_cases q : j = k
  · subst q; rw [lb_or, e, Bool.or_true]
  · rw [lb_or, h.o j a (by omega), Bool.true_or]
def s_X5_forget : CS := (zc 1, ap [(3, 46)] (fun  h Rt X =>
Rt none (rI h 46 (up (hI h 46) 4 0))))
set_option maxRecDepth 100000 in
set_option maxHeartbeats 4000000 in
theorem o_X5_forget : Obl true 0 1 (sp []) [] code_X5_forget s_X5_forget := by
  refine obl0 (by rfl) ?_
  intro  h Rt X hh hf hs
  repeat' (first | apply And.intro | (with_reducible assumption) | (intro h9; first | (exfalso; omega) | (simp only [rI_rI, rJ_rJ, hI_rI, hJ_rI, hI_rJ, hJ_rJ, hI_rR, hR_rI, hR_rJ, hN_rI, hN_rJ, svH_63, svH_66, rfH_63, wvH_63, wvH_62, wvH_67, wvH_68, wvH_69, sc_63, sc_n62, sc_n67, sc_n68, sc_n69, sc_n70, reduceIte, Nat.reduceEqDiff, eq_self, up_up, up_self, up_ne, ne_eq, not_false_eq_true, Int.reduceEq, Int.reduceNeg] at h9; first | (exfalso; omega) | skip) | skip) | exact hs | omega | exact True.intro | (simp only [rI_rI, rJ_rJ, hI_rI, hJ_rI, hI_rJ, hJ_rJ, hI_rR, hR_rI, hR_rJ, hN_rI, hN_rJ, svH_63, svH_66, rfH_63, wvH_63, wvH_62, wvH_67, wvH_68, wvH_69, sc_63, sc_n62, sc_n67, sc_n68, sc_n69, sc_n70, reduceIte, Nat.reduceEqDiff, eq_self, up_up, up_self, up_ne, ne_eq, not_false_eq_true, Int.reduceEq, Int.reduceNeg]; omega))
theorem m_X5_forget : MM 96 s_X5_forget := mm_of (own := 4) (by rfl) k_X5_forget (cl := []) trivial o_X5_forget
def s_X5_best : CS := (zc 1, ap [(3, 46)] (fun  h Rt X =>
Rt (some (.inl (hI h 46 6))) h))
set_option maxRecDepth 100000 in
set_option maxHeartbeats 4000000 in
theorem o_X5_best : Obl true 1 1 (sp []) [] code_X5_best s_X5_best := by
  refine obl0 (by rfl) ?_
  intro  h Rt X hh hf hs
  repeat' (first | apply And.intro | (with_reducible assumption) | (intro h9; first | (exfalso; omega) | (simp only [rI_rI, rJ_rJ, hI_rI, hJ_rI, hI_rJ, hJ_rJ, hI_rR, hR_rI, hR_rJ, hN_rI, hN_rJ, svH_63, svH_66, rfH_63, wvH_63, wvH_62, wvH_67, wvH_68, wvH_69, sc_63, sc_n62, sc_n67, sc_n68, sc_n69, sc_n70, reduceIte, Nat.reduceEqDiff, eq_self, up_up, up_self, up_ne, ne_eq, not_false_eq_true, Int.reduceEq, Int.reduceNeg] at h9; first | (exfalso; omega) | skip) | skip) | exact hs | omega | exact True.intro | (simp only [rI_rI, rJ_rJ, hI_rI, hJ_rI, hI_rJ, hJ_rJ, hI_rR, hR_rI, hR_rJ, hN_rI, hN_rJ, svH_63, svH_66, rfH_63, wvH_63, wvH_62, wvH_67, wvH_68, wvH_69, sc_63, sc_n62, sc_n67, sc_n68, sc_n69, sc_n70, reduceIte, Nat.reduceEqDiff, eq_self, up_up, up_self, up_ne, ne_eq, not_false_eq_true, Int.reduceEq, Int.reduceNeg]; omega))
theorem m_X5_best : MM 103 s_X5_best := mm_of (own := 4) (by rfl) k_X5_best (cl := []) trivial o_X5_best
def s_X5_bestModel : CS := (zc 1, ap [(3, 46)] (fun  h Rt X =>
Rt (some (.inl (hI h 46 7))) h))
set_option maxRecDepth 100000 in
set_option maxHeartbeats 4000000 in
theorem o_X5_bestModel : Obl true 1 1 (sp []) [] code_X5_bestModel s_X5_bestModel := by
  refine obl0 (by rfl) ?_
  intro  h Rt X hh hf hs
  repeat' (first | apply And.intro | (with_reducible assumption) | (intro h9; first | (exfalso; omega) | (simp only [rI_rI, rJ_rJ, hI_rI, hJ_rI, hI_rJ, hJ_rJ, hI_rR, hR_rI, hR_rJ, hN_rI, hN_rJ, svH_63, svH_66, rfH_63, wvH_63, wvH_62, wvH_67, wvH_68, wvH_69, sc_63, sc_n62, sc_n67, sc_n68, sc_n69, sc_n70, reduceIte, Nat.reduceEqDiff, eq_self, up_up, up_self, up_ne, ne_eq, not_false_eq_true, Int.reduceEq, Int.reduceNeg] at h9; first | (exfalso; omega) | skip) | skip) | exact hs | omega | exact True.intro | (simp only [rI_rI, rJ_rJ, hI_rI, hJ_rI, hI_rJ, hJ_rJ, hI_rR, hR_rI, hR_rJ, hN_rI, hN_rJ, svH_63, svH_66, rfH_63, wvH_63, wvH_62, wvH_67, wvH_68, wvH_69, sc_63, sc_n62, sc_n67, sc_n68, sc_n69, sc_n70, reduceIte, Nat.reduceEqDiff, eq_self, up_up, up_self, up_ne, ne_eq, not_false_eq_true, Int.reduceEq, Int.reduceNeg]; omega))
theorem m_X5_bestModel : MM 104 s_X5_bestModel := mm_of (own := 4) (by rfl) k_X5_bestModel (cl := []) trivial o_X5_bestModel
def s_X5_constraintCones : CS := (zc 3, ap [(3, 46)] (fun  h Rt X =>
∃ w, GH h w ∧ WF w ∧ St0 (hI h) 5 w ∧ ∀ s, Clo w s → HasC w s (w 290) → Rt (some (.inr (.inl s))) h))
set_option maxRecDepth 100000 in
set_option maxHeartbeats 4000000 in
theorem o_X5_constraintCones : Obl true 3 4 (sp [(25, s_X0_cone)]) [] code_X5_constraintCones s_X5_constraintCones := by
  refine oblL (by rfl) [(4, [0, 1, 3])] ?_
  intro  h Rt X hh hf hs
  obtain ⟨w, hG, hW, hS, h2⟩ := hs
  have s0 := hS.cn
  have c0 := hW.cn
  refine ⟨fun m pc vs g => ∃ (i : Int) (s : Int64), g = h ∧ vs = [.inr (.inr (some 46)), .inr (.inl s), .inl i] ∧ 0 ≤ i ∧ i ≤ w 290 ∧ Clo w s ∧ HasC w s i ∧ m = (w 290 - i).toNat, ?_, ?_⟩
  · repeat' (first | apply And.intro | (with_reducible assumption) | (intro h9; first | (exfalso; omega) | (simp only [rI_rI, rJ_rJ, hI_rI, hJ_rI, hI_rJ, hJ_rJ, hI_rR, hR_rI, hR_rJ, hN_rI, hN_rJ, svH_63, svH_66, rfH_63, wvH_63, wvH_62, wvH_67, wvH_68, wvH_69, sc_63, sc_n62, sc_n67, sc_n68, sc_n69, sc_n70, reduceIte, Nat.reduceEqDiff, eq_self, up_up, up_self, up_ne, ne_eq, not_false_eq_true, Int.reduceEq, Int.reduceNeg] at h9; first | (exfalso; omega) | skip) | skip) | exact Exists.intro _ ⟨0, 0, rfl, rfl, by omega, by omega, clo_0 _, Box.i (fun j a b => by omega), rfl⟩ | exact h2 | exact h2 (by omega) | omega | exact True.intro | (simp only [rI_rI, rJ_rJ, hI_rI, hJ_rI, hI_rJ, hJ_rJ, hI_rR, hR_rI, hR_rJ, hN_rI, hN_rJ, svH_63, svH_66, rfH_63, wvH_63, wvH_62, wvH_67, wvH_68, wvH_69, sc_63, sc_n62, sc_n67, sc_n68, sc_n69, sc_n70, reduceIte, Nat.reduceEqDiff, eq_self, up_up, up_self, up_ne, ne_eq, not_false_eq_true, Int.reduceEq, Int.reduceNeg]; omega))
  · rintro m pc live vs g hl ⟨i, s, rfl, rfl, i1, i2, i3, i4, rfl⟩ hv hh1 hf1
    obtain ⟨rfl, rfl⟩ := look1 hl
    by_cases z : i < w 290
    · have s1 := (hS.cs i1 z).1
      have c := hW.con i1 z
      have q := cone_clo hW c.1 c.2.1
      have q2 := i4.st q.2
      have q3 := clo_or i3 q.1
      rw [← s1] at q2 q3
      repeat' (first | apply And.intro | (with_reducible assumption) | (intro h9; first | (exfalso; omega) | (simp only [rI_rI, rJ_rJ, hI_rI, hJ_rI, hI_rJ, hJ_rJ, hI_rR, hR_rI, hR_rJ, hN_rI, hN_rJ, svH_63, svH_66, rfH_63, wvH_63, wvH_62, wvH_67, wvH_68, wvH_69, sc_63, sc_n62, sc_n67, sc_n68, sc_n69, sc_n70, reduceIte, Nat.reduceEqDiff, eq_self, up_up, up_self, up_ne, ne_eq, not_false_eq_true, Int.reduceEq, Int.reduceNeg] at h9; first | (exfalso; omega) | skip) | skip) | refine Exists.intro w ?_ | exact hG | exact hW | exact Exists.intro _ ⟨by omega, i + 1, _, rfl, rfl, by omega, by omega, q3, q2, rfl⟩ | exact h2 | exact h2 (by omega) | omega | exact True.intro | (simp only [rI_rI, rJ_rJ, hI_rI, hJ_rI, hI_rJ, hJ_rJ, hI_rR, hR_rI, hR_rJ, hN_rI, hN_rJ, svH_63, svH_66, rfH_63, wvH_63, wvH_62, wvH_67, wvH_68, wvH_69, sc_63, sc_n62, sc_n67, sc_n68, sc_n69, sc_n70, reduceIte, Nat.reduceEqDiff, eq_self, up_up, up_self, up_ne, ne_eq, not_false_eq_true, Int.reduceEq, Int.reduceNeg]; omega))
    · obtain rfl : i = w 290 := by omega
      have k2 := h2 s i3 i4
      repeat' (first | apply And.intro | (with_reducible assumption) | (intro h9; first | (exfalso; omega) | (simp only [rI_rI, rJ_rJ, hI_rI, hJ_rI, hI_rJ, hJ_rJ, hI_rR, hR_rI, hR_rJ, hN_rI, hN_rJ, svH_63, svH_66, rfH_63, wvH_63, wvH_62, wvH_67, wvH_68, wvH_69, sc_63, sc_n62, sc_n67, sc_n68, sc_n69, sc_n70, reduceIte, Nat.reduceEqDiff, eq_self, up_up, up_self, up_ne, ne_eq, not_false_eq_true, Int.reduceEq, Int.reduceNeg] at h9; first | (exfalso; omega) | skip) | skip) | exact k2 | exact h2 | exact h2 (by omega) | omega | exact True.intro | (simp only [rI_rI, rJ_rJ, hI_rI, hJ_rI, hI_rJ, hJ_rJ, hI_rR, hR_rI, hR_rJ, hN_rI, hN_rJ, svH_63, svH_66, rfH_63, wvH_63, wvH_62, wvH_67, wvH_68, wvH_69, sc_63, sc_n62, sc_n67, sc_n68, sc_n69, sc_n70, reduceIte, Nat.reduceEqDiff, eq_self, up_up, up_self, up_ne, ne_eq, not_false_eq_true, Int.reduceEq, Int.reduceNeg]; omega))
theorem m_X5_constraintCones : MM 99 s_X5_constraintCones := mm_of (own := 4) (by rfl) k_X5_constraintCones (cl := [(25, s_X0_cone)]) ⟨m_X0_cone, trivial⟩ o_X5_constraintCones
def s_X5_wishCones : CS := (zc 3, ap [(3, 46)] (fun  h Rt X =>
∃ w, GH h w ∧ WF w ∧ St0 (hI h) 5 w ∧ ∀ s, Clo w s → HasW w s (w 332) → Rt (some (.inr (.inl s))) h))
set_option maxRecDepth 100000 in
set_option maxHeartbeats 4000000 in
theorem o_X5_wishCones : Obl true 3 4 (sp [(25, s_X0_cone)]) [] code_X5_wishCones s_X5_wishCones := by
  refine oblL (by rfl) [(4, [0, 1, 3])] ?_
  intro  h Rt X hh hf hs
  obtain ⟨w, hG, hW, hS, h2⟩ := hs
  have s0 := hS.wn
  have c0 := hW.wn
  refine ⟨fun m pc vs g => ∃ (i : Int) (s : Int64), g = h ∧ vs = [.inr (.inr (some 46)), .inr (.inl s), .inl i] ∧ 0 ≤ i ∧ i ≤ w 332 ∧ Clo w s ∧ HasW w s i ∧ m = (w 332 - i).toNat, ?_, ?_⟩
  · repeat' (first | apply And.intro | (with_reducible assumption) | (intro h9; first | (exfalso; omega) | (simp only [rI_rI, rJ_rJ, hI_rI, hJ_rI, hI_rJ, hJ_rJ, hI_rR, hR_rI, hR_rJ, hN_rI, hN_rJ, svH_63, svH_66, rfH_63, wvH_63, wvH_62, wvH_67, wvH_68, wvH_69, sc_63, sc_n62, sc_n67, sc_n68, sc_n69, sc_n70, reduceIte, Nat.reduceEqDiff, eq_self, up_up, up_self, up_ne, ne_eq, not_false_eq_true, Int.reduceEq, Int.reduceNeg] at h9; first | (exfalso; omega) | skip) | skip) | exact Exists.intro _ ⟨0, 0, rfl, rfl, by omega, by omega, clo_0 _, Box.i (fun j a b => by omega), rfl⟩ | exact h2 | exact h2 (by omega) | omega | exact True.intro | (simp only [rI_rI, rJ_rJ, hI_rI, hJ_rI, hI_rJ, hJ_rJ, hI_rR, hR_rI, hR_rJ, hN_rI, hN_rJ, svH_63, svH_66, rfH_63, wvH_63, wvH_62, wvH_67, wvH_68, wvH_69, sc_63, sc_n62, sc_n67, sc_n68, sc_n69, sc_n70, reduceIte, Nat.reduceEqDiff, eq_self, up_up, up_self, up_ne, ne_eq, not_false_eq_true, Int.reduceEq, Int.reduceNeg]; omega))
  · rintro m pc live vs g hl ⟨i, s, rfl, rfl, i1, i2, i3, i4, rfl⟩ hv hh1 hf1
    obtain ⟨rfl, rfl⟩ := look1 hl
    by_cases z : i < w 332
    · have s1 := (hS.ws i1 z).1
      have c := hW.wish i1 z
      have q := cone_clo hW c.1 c.2.1
      have q2 := i4.st q.2
      have q3 := clo_or i3 q.1
      rw [← s1] at q2 q3
      repeat' (first | apply And.intro | (with_reducible assumption) | (intro h9; first | (exfalso; omega) | (simp only [rI_rI, rJ_rJ, hI_rI, hJ_rI, hI_rJ, hJ_rJ, hI_rR, hR_rI, hR_rJ, hN_rI, hN_rJ, svH_63, svH_66, rfH_63, wvH_63, wvH_62, wvH_67, wvH_68, wvH_69, sc_63, sc_n62, sc_n67, sc_n68, sc_n69, sc_n70, reduceIte, Nat.reduceEqDiff, eq_self, up_up, up_self, up_ne, ne_eq, not_false_eq_true, Int.reduceEq, Int.reduceNeg] at h9; first | (exfalso; omega) | skip) | skip) | refine Exists.intro w ?_ | exact hG | exact hW | exact Exists.intro _ ⟨by omega, i + 1, _, rfl, rfl, by omega, by omega, q3, q2, rfl⟩ | exact h2 | exact h2 (by omega) | omega | exact True.intro | (simp only [rI_rI, rJ_rJ, hI_rI, hJ_rI, hI_rJ, hJ_rJ, hI_rR, hR_rI, hR_rJ, hN_rI, hN_rJ, svH_63, svH_66, rfH_63, wvH_63, wvH_62, wvH_67, wvH_68, wvH_69, sc_63, sc_n62, sc_n67, sc_n68, sc_n69, sc_n70, reduceIte, Nat.reduceEqDiff, eq_self, up_up, up_self, up_ne, ne_eq, not_false_eq_true, Int.reduceEq, Int.reduceNeg]; omega))
    · obtain rfl : i = w 332 := by omega
      have k2 := h2 s i3 i4
      repeat' (first | apply And.intro | (with_reducible assumption) | (intro h9; first | (exfalso; omega) | (simp only [rI_rI, rJ_rJ, hI_rI, hJ_rI, hI_rJ, hJ_rJ, hI_rR, hR_rI, hR_rJ, hN_rI, hN_rJ, svH_63, svH_66, rfH_63, wvH_63, wvH_62, wvH_67, wvH_68, wvH_69, sc_63, sc_n62, sc_n67, sc_n68, sc_n69, sc_n70, reduceIte, Nat.reduceEqDiff, eq_self, up_up, up_self, up_ne, ne_eq, not_false_eq_true, Int.reduceEq, Int.reduceNeg] at h9; first | (exfalso; omega) | skip) | skip) | exact k2 | exact h2 | exact h2 (by omega) | omega | exact True.intro | (simp only [rI_rI, rJ_rJ, hI_rI, hJ_rI, hI_rJ, hJ_rJ, hI_rR, hR_rI, hR_rJ, hN_rI, hN_rJ, svH_63, svH_66, rfH_63, wvH_63, wvH_62, wvH_67, wvH_68, wvH_69, sc_63, sc_n62, sc_n67, sc_n68, sc_n69, sc_n70, reduceIte, Nat.reduceEqDiff, eq_self, up_up, up_self, up_ne, ne_eq, not_false_eq_true, Int.reduceEq, Int.reduceNeg]; omega))
theorem m_X5_wishCones : MM 107 s_X5_wishCones := mm_of (own := 4) (by rfl) k_X5_wishCones (cl := [(25, s_X0_cone)]) ⟨m_X0_cone, trivial⟩ o_X5_wishCones
/-- the lanes in which the first k constraints hold -/
def AlC (w : Int → Int) (P : Int → Int64) (c : Int64) (k : Int) : Prop := Box (∀ l, l < 64 → (lb c l = true ↔ ∀ j, 0 ≤ j → j < k → lb (P (w (291 + j) * 8)) l = true))
theorem AlC.st {w : Int → Int} {P : Int → Int64} {c : Int64} {k : Int} (h : AlC w P c k) (h0 : 0 ≤ k) : AlC w P (c &&& P (w (291 + k) * 8 + 0)) (k + 1) := Box.i fun l hl => by
  rw [lb_and, Bool.and_eq_true, h.o l hl, Int.add_zero]
  refine ⟨fun ⟨q1, q2⟩ j a b => ?_, fun q => ⟨fun j a b => q j a (by omega), q k h0 (by omega)⟩⟩
  by_cases e : j = k
  · subst e; exact q2
  · exact q1 j a (by omega)
def s_X5_allConstraints : CS := (zc 2, ap [(3, 46)] (fun  h Rt X =>
∃ w, St0 (hI h) 5 w ∧ WF w ∧ ∀ c, AlC w (hJ h 44) c (w 290) → Rt (some (.inr (.inl c))) h))
set_option maxRecDepth 100000 in
set_option maxHeartbeats 4000000 in
theorem o_X5_allConstraints : Obl true 3 4 (sp [(47, s_X3_plane)]) [] code_X5_allConstraints s_X5_allConstraints := by
  refine oblL (by rfl) [(6, [0, 1, 3])] ?_
  intro  h Rt X hh hf hs
  obtain ⟨w, hS, hW, h2⟩ := hs
  have s0 := hS.cn
  have c0 := hW.cn
  have n0 := hW.nn
  refine ⟨fun m pc vs g => ∃ (i : Int) (c : Int64), g = h ∧ vs = [.inr (.inr (some 46)), .inr (.inl c), .inl i] ∧ 0 ≤ i ∧ i ≤ w 290 ∧ AlC w (hJ h 44) c i ∧ m = (w 290 - i).toNat, ?_, ?_⟩
  · have z : AlC w (hJ h 44) (Int64.ofNat 18446744073709551615) 0 := Box.i fun l hl => ⟨fun _ j a b => by omega, fun _ => lb_m1 hl⟩
    repeat' (first | apply And.intro | (with_reducible assumption) | (intro h9; first | (exfalso; omega) | (simp only [rI_rI, rJ_rJ, hI_rI, hJ_rI, hI_rJ, hJ_rJ, hI_rR, hR_rI, hR_rJ, hN_rI, hN_rJ, svH_63, svH_66, rfH_63, wvH_63, wvH_62, wvH_67, wvH_68, wvH_69, sc_63, sc_n62, sc_n67, sc_n68, sc_n69, sc_n70, reduceIte, Nat.reduceEqDiff, eq_self, up_up, up_self, up_ne, ne_eq, not_false_eq_true, Int.reduceEq, Int.reduceNeg] at h9; first | (exfalso; omega) | skip) | skip) | exact Exists.intro _ ⟨0, _, rfl, rfl, by omega, by omega, z, rfl⟩ | exact h2 | exact h2 (by omega) | omega | exact True.intro | (simp only [rI_rI, rJ_rJ, hI_rI, hJ_rI, hI_rJ, hJ_rJ, hI_rR, hR_rI, hR_rJ, hN_rI, hN_rJ, svH_63, svH_66, rfH_63, wvH_63, wvH_62, wvH_67, wvH_68, wvH_69, sc_63, sc_n62, sc_n67, sc_n68, sc_n69, sc_n70, reduceIte, Nat.reduceEqDiff, eq_self, up_up, up_self, up_ne, ne_eq, not_false_eq_true, Int.reduceEq, Int.reduceNeg]; omega))
  · rintro m pc live vs g hl ⟨i, c, rfl, rfl, i1, i2, i3, rfl⟩ hv hh1 hf1
    obtain ⟨rfl, rfl⟩ := look1 hl
    by_cases z : i < w 290
    · have s1 := (hS.cs i1 z).1
      have q := hW.con i1 z
      have i4 := i3.st i1
      rw [← s1] at i4
      repeat' (first | apply And.intro | (with_reducible assumption) | (intro h9; first | (exfalso; omega) | (simp only [rI_rI, rJ_rJ, hI_rI, hJ_rI, hI_rJ, hJ_rJ, hI_rR, hR_rI, hR_rJ, hN_rI, hN_rJ, svH_63, svH_66, rfH_63, wvH_63, wvH_62, wvH_67, wvH_68, wvH_69, sc_63, sc_n62, sc_n67, sc_n68, sc_n69, sc_n70, reduceIte, Nat.reduceEqDiff, eq_self, up_up, up_self, up_ne, ne_eq, not_false_eq_true, Int.reduceEq, Int.reduceNeg] at h9; first | (exfalso; omega) | skip) | skip) | exact Exists.intro _ ⟨by omega, i + 1, _, rfl, rfl, by omega, by omega, i4, rfl⟩ | exact h2 | exact h2 (by omega) | omega | exact True.intro | (simp only [rI_rI, rJ_rJ, hI_rI, hJ_rI, hI_rJ, hJ_rJ, hI_rR, hR_rI, hR_rJ, hN_rI, hN_rJ, svH_63, svH_66, rfH_63, wvH_63, wvH_62, wvH_67, wvH_68, wvH_69, sc_63, sc_n62, sc_n67, sc_n68, sc_n69, sc_n70, reduceIte, Nat.reduceEqDiff, eq_self, up_up, up_self, up_ne, ne_eq, not_false_eq_true, Int.reduceEq, Int.reduceNeg]; omega))
    · obtain rfl : i = w 290 := by omega
      have k2 := h2 c i3
      repeat' (first | apply And.intro | (with_reducible assumption) | (intro h9; first | (exfalso; omega) | (simp only [rI_rI, rJ_rJ, hI_rI, hJ_rI, hI_rJ, hJ_rJ, hI_rR, hR_rI, hR_rJ, hN_rI, hN_rJ, svH_63, svH_66, rfH_63, wvH_63, wvH_62, wvH_67, wvH_68, wvH_69, sc_63, sc_n62, sc_n67, sc_n68, sc_n69, sc_n70, reduceIte, Nat.reduceEqDiff, eq_self, up_up, up_self, up_ne, ne_eq, not_false_eq_true, Int.reduceEq, Int.reduceNeg] at h9; first | (exfalso; omega) | skip) | skip) | exact k2 | exact h2 | exact h2 (by omega) | omega | exact True.intro | (simp only [rI_rI, rJ_rJ, hI_rI, hJ_rI, hI_rJ, hJ_rJ, hI_rR, hR_rI, hR_rJ, hN_rI, hN_rJ, svH_63, svH_66, rfH_63, wvH_63, wvH_62, wvH_67, wvH_68, wvH_69, sc_63, sc_n62, sc_n67, sc_n68, sc_n69, sc_n70, reduceIte, Nat.reduceEqDiff, eq_self, up_up, up_self, up_ne, ne_eq, not_false_eq_true, Int.reduceEq, Int.reduceNeg]; omega))
theorem m_X5_allConstraints : MM 100 s_X5_allConstraints := mm_of (own := 4) (by rfl) k_X5_allConstraints (cl := [(47, s_X3_plane)]) ⟨m_X3_plane, trivial⟩ o_X5_allConstraints
theorem low_bit {s : Int64} {l : Nat} (hl : l < 64) (h1 : lb s l = true) (h2 : ∀ j, j < l → lb s j = false) : (s &&& -s) = lShl 1 (l : Int) := by
  apply lb_ext
  intro j hj
  rw [lb_and, lb_one (by omega) (by omega) hj, Int.toNat_natCast]
  have e : lb (-s) j = (lb s j ^^ (decide (j < 64) && decide (∃ i < j, lb s i = true))) := by
    unfold lb
    rw [Int64.toBitVec_neg, BitVec.getLsbD_neg]
  rw [e, decide_eq_true hj, Bool.true_and]
  by_cases q : j = l
  · subst q
    rw [h1, decide_eq_true rfl, decide_eq_false (fun ⟨i, a, b⟩ => by rw [h2 i a] at b; cases b)]
    rfl
  · rw [decide_eq_false q]
    by_cases q2 : j < l
    · rw [h2 j q2]; rfl
    · rw [decide_eq_true ⟨l, by omega, h1⟩]
      cases lb s j <;> rfl
theorem pc_ones' : ∀ l : Nat, l < 64 → cntB (fun k => lb (lShl 1 (l : Int) - 1) k.toNat) 64 = l := by decide +kernel
theorem pc_ones (l : Nat) (h : l < 64) : pcL (lShl 1 (l : Int) - 1) = l := by rw [pcL_def]; exact pc_ones' l h
theorem low_ex {s : Int64} (h : s ≠ 0) : ∃ l, l < 64 ∧ lb s l = true ∧ ∀ j, j < l → lb s j = false := by
  have a : ∀ n : Nat, (∀ j, j < n → lb s j = false) ∨ ∃ l, l < n ∧ lb s l = true ∧ ∀ j, j < l → lb s j = false := by
    intro n
    induction n with
    | zero => exact Or.inl fun j hj => by omega
    | succ n ih =>
      rcases ih with q | ⟨l, q1, q2, q3⟩
      · cases e : lb s n with
        | true => exact Or.inr ⟨n, by omega, e, q⟩
        | false =>
          refine Or.inl fun j hj => ?_
          by_cases z : j = n
          · subst z; exact e
          · exact q j (by omega)
      · exact Or.inr ⟨l, by omega, q2, q3⟩
  rcases a 64 with q | q
  · exact absurd (lb_ext fun k hk => by rw [q k hk, lb_0]) h
  · exact q
def s_X5_firstIn : CS := (zc 2, ap [(0, 0), (1, 0)] (fun B s h Rt X =>
(0 ≤ B ∧ B < 1024) ∧ s ≠ 0 ∧ ∀ l : Nat, l < 64 → lb s l = true → (∀ j, j < l → lb s j = false) → Rt (some (.inl (lane B l))) h))
set_option maxRecDepth 100000 in
set_option maxHeartbeats 4000000 in
theorem o_X5_firstIn : Obl true 1 3 (sp [(288, s_J13_bitCount_95d88)]) [] code_X5_firstIn s_X5_firstIn := by
  refine obl0 (by rfl) ?_
  intro B r_B s h Rt X hh hf hs
  obtain ⟨⟨a1, a2⟩, a3, h2⟩ := hs
  obtain ⟨l, l1, l2, l3⟩ := low_ex a3
  have k2 := h2 l l1 l2 l3
  have e1 : sShl B 6 = B * 64 := sShl_eq (k := 6) (by decide) (by decide) a1 (by rw [show p2 6 = 64 from rfl]; omega)
  have e2 : pcL ((s &&& -s) - 1) = (l : Int) := by rw [low_bit l1 l2 l3]; exact pc_ones l l1
  have e3 : lane B l = sShl B 6 + pcL ((s &&& -s) - 1) := by rw [e1, e2]; unfold lane; omega
  rw [e3] at k2
  repeat' (first | apply And.intro | (with_reducible assumption) | (intro h9; first | (exfalso; omega) | (simp only [rI_rI, rJ_rJ, hI_rI, hJ_rI, hI_rJ, hJ_rJ, hI_rR, hR_rI, hR_rJ, hN_rI, hN_rJ, svH_63, svH_66, rfH_63, wvH_63, wvH_62, wvH_67, wvH_68, wvH_69, sc_63, sc_n62, sc_n67, sc_n68, sc_n69, sc_n70, reduceIte, Nat.reduceEqDiff, eq_self, up_up, up_self, up_ne, ne_eq, not_false_eq_true, Int.reduceEq, Int.reduceNeg] at h9; first | (exfalso; omega) | skip) | skip) | exact k2 | exact h2 | exact h2 (by omega) | omega | exact True.intro | (simp only [rI_rI, rJ_rJ, hI_rI, hJ_rI, hI_rJ, hJ_rJ, hI_rR, hR_rI, hR_rJ, hN_rI, hN_rJ, svH_63, svH_66, rfH_63, wvH_63, wvH_62, wvH_67, wvH_68, wvH_69, sc_63, sc_n62, sc_n67, sc_n68, sc_n69, sc_n70, reduceIte, Nat.reduceEqDiff, eq_self, up_up, up_self, up_ne, ne_eq, not_false_eq_true, Int.reduceEq, Int.reduceNeg]; omega))
theorem m_X5_firstIn : MM 101 s_X5_firstIn := mm_of (own := 4) (by rfl) k_X5_firstIn (cl := [(288, s_J13_bitCount_95d88)]) ⟨m_J13_bitCount_95d88, trivial⟩ o_X5_firstIn

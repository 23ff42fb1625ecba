/-! ===== the class: models found ===== -/
theorem se_aI (h : Hp) (F : Int → Int) (R Q L : Int → Int64) (q : Nat) : hI (se h F R Q L) q = if q = 46 then F else hI h q := rfl
theorem se_aJ (h : Hp) (F : Int → Int) (R Q L : Int → Int64) (q : Nat) : hJ (se h F R Q L) q = if q = 44 then Q else if q = 45 then R else if q = 47 then L else hJ h q := rfl
theorem se_of46 (h : Hp) (F : Int → Int) : rI h 46 F = se h F (hJ h 45) (hJ h 44) (hJ h 47) := by
  have := se_46 h (hI h 46) F (hJ h 45) (hJ h 44) (hJ h 47)
  rw [se_id] at this
  exact this
theorem fm_hp (h : Hp) (F : Int → Int) (R Q L R' Q' X : Int → Int64) : rJ (rJ (rJ (se h F R Q L) 45 R') 44 Q') 47 X = se h F R' Q' X := by rw [se_run, se_47]
theorem fm_hp2 (h : Hp) (F Y : Int → Int) (R Q L R' Q' X : Int → Int64) : rI (rJ (rJ (rJ (se h F R Q L) 45 R') 44 Q') 47 X) 46 Y = se h Y R' Q' X := by rw [fm_hp, se_46]
/-- the assignments that are models -/
def mdT (w : Int → Int) (N : Int) : Bool := decide (N < tot w) && mdl w N
/-- the lanes of the first i blocks are those of the models -/
def MdB (w : Int → Int) (L : Int → Int64) (i : Int) : Prop := Box (∀ B, 0 ≤ B → B < i → ∀ l, l < 64 → lb (L B) l = mdT w (lane B l))
theorem blk_tot {w : Int → Int} (hW : WF w) : tot w ≤ 64 * blk w ∧ (6 ≤ sumW w (w 281).toNat → tot w = 64 * blk w) ∧ (sumW w (w 281).toNat < 6 → blk w = 1 ∧ tot w ≤ 32) := by
  have v := hW.vn
  have c := sumW_le hW.vz (j := 0) (w 281).toNat (by omega) (by omega)
  have e0 : sumW w 0 = 0 := rfl
  by_cases z : 6 ≤ sumW w (w 281).toNat
  · have e : tot w = 64 * blk w := by
      unfold tot blk
      rw [if_pos z, show (64 : Int) = p2 6 from rfl, ← p2_add (by decide) (by omega)]
      congr 1
      omega
    exact ⟨by omega, fun _ => e, fun q => by omega⟩
  · have e : blk w = 1 := by unfold blk; rw [if_neg z]; rfl
    have e2 : tot w ≤ 32 := by unfold tot; exact p2_le (b := 5) (by omega)
    exact ⟨by omega, fun q => by omega, fun _ => ⟨e, e2⟩⟩
theorem lb_msk {w : Int → Int} (hW : WF w) {B : Int} (h0 : 0 ≤ B) (h1 : B < blk w) {l : Nat} (hl : l < 64) : lb (msk w) l = decide (lane B l < tot w) := by
  have t := blk_tot hW
  unfold msk lane
  by_cases z : 6 ≤ sumW w (w 281).toNat
  · have e := t.2.1 z
    rw [if_pos z, lb_m1 hl, decide_eq_true (by omega)]
  · have e := t.2.2 (by omega)
    have r := tot_rng hW
    rw [if_neg z]
    have q := lb_ones (n := tot w) (by omega) (by omega) hl
    unfold tot at q
    rw [q]
    show decide ((l : Int) < tot w) = _
    rw [show 64 * B + (l : Int) = l by omega]
theorem MdB.st {w : Int → Int} {L Q : Int → Int64} {i : Int} {s c : Int64} (hW : WF w) (h0 : 0 ≤ i) (h1 : i < blk w) (hs : HasC w s (w 290)) (h : MdB w L i) (hv : VlL w Q i s (w 0)) (hc : AlC w Q c (w 290)) : MdB w (up L i (msk w &&& c)) (i + 1) := Box.i fun B b0 b1 l hl => by
  by_cases e : B = i
  · subst e
    rw [up_self, lb_and, lb_msk hW h0 h1 hl]
    unfold mdT
    congr 1
    apply Bool.eq_iff_iff.mpr
    rw [hc.o l hl, mdl_iff hW]
    have q : ∀ j, 0 ≤ j → j < w 290 → (lb (Q (w (291 + j) * 8)) l = true ↔ vl w (asg w (lane B l)) (w (291 + j)) = 1) := fun j j0 j1 => by
      have c := hW.con j0 j1
      have v := hv.o _ c.1 c.2.1 (hs.o j j0 j1) l hl
      rw [lv1 c.2.2.1] at v
      show _ ↔ vl w (La w B l) (w (291 + j)) = 1
      rw [← v]
      cases lb (Q (w (291 + j) * 8)) l <;> simp [b2]
    exact ⟨fun a j j0 j1 => (q j j0 j1).mp (a j j0 j1), fun a j j0 j1 => (q j j0 j1).mpr (a j j0 j1)⟩
  · rw [up_ne e]; exact h.o B b0 (by omega) l hl
/-- the least model so far -/
def LsI (w : Int → Int) (x i : Int) : Prop := Box ((x = -1 ∧ ∀ N, 0 ≤ N → N < 64 * i → mdT w N = false) ∨ (x ≠ -1 ∧ x = nxt w 0))
theorem lane_of {N i : Int} (h0 : 64 * i ≤ N) (h1 : N < 64 * i + 64) : N = lane i (N - 64 * i).toNat ∧ (N - 64 * i).toNat < 64 := by
  unfold lane
  omega
theorem LsI.st0 {w : Int → Int} {L : Int → Int64} {x i : Int} {y : Int64} (h : LsI w x i) (h0 : 0 ≤ i) (hm : MdB w L (i + 1)) (hy : L i = y) (e : x ≠ -1 ∨ cmpL y 0 = 0) : LsI w x (i + 1) := by
  rcases h.o with ⟨a, b⟩ | q
  · refine Box.i (Or.inl ⟨a, fun N n0 n1 => ?_⟩)
    by_cases z : N < 64 * i
    · exact b N n0 z
    · obtain ⟨q1, q2⟩ := lane_of (N := N) (i := i) (by omega) (by omega)
      rw [q1, ← hm.o i h0 (by omega) _ q2, hy]
      rcases e with e | e
      · exact absurd a e
      · rw [cmpL_0.mp e, lb_0]
  · exact Box.i (Or.inr q)
theorem LsI.st1 {w : Int → Int} {L : Int → Int64} {x i : Int} {y : Int64} {l : Nat} (hW : WF w) (h : LsI w x i) (h0 : 0 ≤ i) (hm : MdB w L (i + 1)) (hx : x = -1) (hl : l < 64) (hy : L i = y) (h1 : lb y l = true) (h2 : ∀ j, j < l → lb y j = false) : LsI w (lane i l) (i + 1) := by
  rcases h.o with ⟨a, b⟩ | q
  · have q := hm.o i h0 (by omega)
    rw [hy] at q
    have ql := q l hl
    rw [h1] at ql
    have ql2 : decide (lane i l < tot w) = true ∧ mdl w (lane i l) = true := by
      unfold mdT at ql
      rw [← Bool.and_eq_true, ← ql]
    have ql3 := of_decide_eq_true ql2.1
    have ll : lane i l = 64 * i + l := rfl
    refine Box.i (Or.inr ⟨by omega, (nxt_intro (by omega) (by omega) ql3 ql2.2 fun N n0 _ n1 => ?_).symm⟩)
    have m : mdT w N = false := by
      by_cases z : N < 64 * i
      · exact b N n0 z
      · obtain ⟨q1, q2⟩ := lane_of (N := N) (i := i) (by omega) (by omega)
        rw [q1, ← q _ q2]
        exact h2 _ (by omega)
    unfold mdT at m
    rw [decide_eq_true (by omega), Bool.true_and] at m
    exact m
  · exact absurd hx q.1
theorem LsI.fin {w : Int → Int} {x : Int} (hW : WF w) (h : LsI w x (blk w)) : x = nxt w 0 := by
  rcases h.o with ⟨a, b⟩ | q
  · rw [a]
    have t := (blk_tot hW).1
    refine (nxt_no fun N n0 _ n1 => ?_).symm
    have m := b N n0 (by omega)
    unfold mdT at m
    rw [decide_eq_true n1, Bool.true_and] at m
    exact m
  · exact q.2
/-- what the search keeps is right, where it says so -/
def SK (w F : Int → Int) (L : Int → Int64) : Prop := Box (F 4 ≠ 0 → F 4 = 1 ∧ F 5 = nxt w 0 ∧ MdB w L (blk w))
/-- models are found -/
def FM (w F0 F : Int → Int) (L : Int → Int64) : Prop := Box (F 4 = 1 ∧ F 5 = nxt w 0 ∧ MdB w L (blk w) ∧ ∀ j, j ≠ 4 → j ≠ 5 → F j = F0 j)
theorem FM.rt {h : Hp} {w : Int → Int} {Rt : Option AV → Hp → Prop} (h2 : ∀ F R Q L, FM w (hI h 46) F L → Rt (some (.inl (nxt w 0))) (se h F R Q L)) {F : Int → Int} {R Q L : Int → Int64} (hf : FM w (hI h 46) F L) : Rt (some (.inl (F 5))) (se h F R Q L) := by
  rw [hf.o.2.1]
  exact h2 F R Q L hf
def s_X5_findModels : CS := (zc 5, ap [(3, 46)] (fun  h Rt X =>
∃ w, GH h w ∧ WF w ∧ St0 (hI h) 5 w ∧ SK w (hI h 46) (hJ h 47) ∧ ∀ F R Q L, FM w (hI h 46) F L → Rt none (se h F R Q L)))
set_option maxRecDepth 100000 in
set_option maxHeartbeats 4000000 in
theorem o_X5_findModels : Obl true 0 7 (sp [(99, s_X5_constraintCones), (30, s_X0_blockMask), (29, s_X0_blockCount), (45, s_X3_run), (100, s_X5_allConstraints), (101, s_X5_firstIn)]) [] code_X5_findModels s_X5_findModels := by
  refine oblL (by rfl) [(38, [0, 1, 3, 5, 6])] ?_
  intro  h Rt X hh hf hs
  obtain ⟨w, hG, hW, hS, hK, h2⟩ := hs
  by_cases z : hI h 46 4 = 0
  · have br := blk_rng hW
    refine ⟨fun m pc vs g => ∃ (i : Int) (F : Int → Int) (R Q L : Int → Int64) (s : Int64), g = se h F R Q L ∧ vs = [.inr (.inr (some 46)), .inr (.inl s), .inr (.inl (msk w)), .inl (blk w), .inl i] ∧ 0 ≤ i ∧ i ≤ blk w ∧ Clo w s ∧ HasC w s (w 290) ∧ Box (∀ j, j ≠ 5 → F j = hI h 46 j) ∧ MdB w L i ∧ LsI w (F 5) i ∧ m = (blk w - i).toNat, ?_, ?_⟩
    · have f1 : Box (∀ j, j ≠ 5 → up (hI h 46) 5 (-1) j = hI h 46 j) := Box.i fun j hj => up_ne hj
      have f2 : LsI w (up (hI h 46) 5 (-1) 5) 0 := Box.i (Or.inl ⟨up_self _ _ _, fun N a b => by omega⟩)
      repeat' (first | apply And.intro | (with_reducible assumption) | (intro h9; first | (exfalso; omega) | (simp only [rI_rI, rJ_rJ, hI_rI, hJ_rI, hI_rJ, hJ_rJ, hI_rR, hR_rI, hR_rJ, hN_rI, hN_rJ, svH_63, svH_66, rfH_63, wvH_63, wvH_62, wvH_67, wvH_68, wvH_69, sc_63, sc_n62, sc_n67, sc_n68, sc_n69, sc_n70, reduceIte, Nat.reduceEqDiff, eq_self, up_up, up_self, up_ne, ne_eq, not_false_eq_true, Int.reduceEq, Int.reduceNeg, se_aI, se_aJ] at h9; first | (exfalso; omega) | skip) | skip) | refine Exists.intro w ?_ | exact hG | exact hW | exact hS | exact Exists.intro _ ⟨0, _, _, _, _, _, se_of46 _ _, rfl, by omega, by omega, by assumption, by assumption, f1, Box.i (fun B a b => by omega), f2, rfl⟩ | exact h2 | exact h2 (by omega) | omega | exact True.intro | (simp only [rI_rI, rJ_rJ, hI_rI, hJ_rI, hI_rJ, hJ_rJ, hI_rR, hR_rI, hR_rJ, hN_rI, hN_rJ, svH_63, svH_66, rfH_63, wvH_63, wvH_62, wvH_67, wvH_68, wvH_69, sc_63, sc_n62, sc_n67, sc_n68, sc_n69, sc_n70, reduceIte, Nat.reduceEqDiff, eq_self, up_up, up_self, up_ne, ne_eq, not_false_eq_true, Int.reduceEq, Int.reduceNeg, se_aI, se_aJ]; omega))
    · rintro m pc live vs g hl ⟨i, F, R, Q, L, s, rfl, rfl, i1, i2, i3, i4, i5, i6, i7, rfl⟩ hv hh1 hf1
      obtain ⟨rfl, rfl⟩ := look1 hl
      by_cases y : i < blk w
      · have f3 : ∀ x, Box (∀ j, j ≠ 5 → up F 5 x j = hI h 46 j) := fun x => Box.i fun j hj => by rw [up_ne hj]; exact i5.o j hj
        by_cases x : F 5 = -1
        · repeat' (first | apply And.intro | (with_reducible assumption) | (intro h9; first | (exfalso; omega) | (simp only [rI_rI, rJ_rJ, hI_rI, hJ_rI, hI_rJ, hJ_rJ, hI_rR, hR_rI, hR_rJ, hN_rI, hN_rJ, svH_63, svH_66, rfH_63, wvH_63, wvH_62, wvH_67, wvH_68, wvH_69, sc_63, sc_n62, sc_n67, sc_n68, sc_n69, sc_n70, reduceIte, Nat.reduceEqDiff, eq_self, up_up, up_self, up_ne, ne_eq, not_false_eq_true, Int.reduceEq, Int.reduceNeg, se_aI, se_aJ] at h9; first | (exfalso; omega) | skip) | skip) | refine Exists.intro w ?_ | exact hG | exact hW | exact hS | exact absurd (cmpL_0.mpr (by assumption : _ &&& _ = (0 : Int64))) (by assumption) | exact Exists.intro _ ⟨by omega, i + 1, F, _, _, _, s, fm_hp _ _ _ _ _ _ _ _, rfl, by omega, by omega, i3, i4, i5, i6.st hW i1 y i4 (by assumption) (by assumption), i7.st0 i1 (i6.st hW i1 y i4 (by assumption) (by assumption)) (up_self _ _ _) (Or.inr (by assumption)), rfl⟩ | exact Exists.intro _ ⟨by omega, i + 1, _, _, _, _, s, fm_hp2 _ _ _ _ _ _ _ _ _, rfl, by omega, by omega, i3, i4, f3 _, i6.st hW i1 y i4 (by assumption) (by assumption), (by refine (up_self F 5 _).symm ▸ (i7.st1 hW i1 (i6.st hW i1 y i4 (by assumption) (by assumption)) x (by assumption) (up_self _ _ _) (by assumption) (by assumption))), rfl⟩ | exact h2 | exact h2 (by omega) | omega | exact True.intro | (simp only [rI_rI, rJ_rJ, hI_rI, hJ_rI, hI_rJ, hJ_rJ, hI_rR, hR_rI, hR_rJ, hN_rI, hN_rJ, svH_63, svH_66, rfH_63, wvH_63, wvH_62, wvH_67, wvH_68, wvH_69, sc_63, sc_n62, sc_n67, sc_n68, sc_n69, sc_n70, reduceIte, Nat.reduceEqDiff, eq_self, up_up, up_self, up_ne, ne_eq, not_false_eq_true, Int.reduceEq, Int.reduceNeg, se_aI, se_aJ]; omega))
        · repeat' (first | apply And.intro | (with_reducible assumption) | (intro h9; first | (exfalso; omega) | (simp only [rI_rI, rJ_rJ, hI_rI, hJ_rI, hI_rJ, hJ_rJ, hI_rR, hR_rI, hR_rJ, hN_rI, hN_rJ, svH_63, svH_66, rfH_63, wvH_63, wvH_62, wvH_67, wvH_68, wvH_69, sc_63, sc_n62, sc_n67, sc_n68, sc_n69, sc_n70, reduceIte, Nat.reduceEqDiff, eq_self, up_up, up_self, up_ne, ne_eq, not_false_eq_true, Int.reduceEq, Int.reduceNeg, se_aI, se_aJ] at h9; first | (exfalso; omega) | skip) | skip) | refine Exists.intro w ?_ | exact hG | exact hW | exact hS | exact Exists.intro _ ⟨by omega, i + 1, F, _, _, _, s, fm_hp _ _ _ _ _ _ _ _, rfl, by omega, by omega, i3, i4, i5, i6.st hW i1 y i4 (by assumption) (by assumption), i7.st0 i1 (i6.st hW i1 y i4 (by assumption) (by assumption)) rfl (Or.inl x), rfl⟩ | exact h2 | exact h2 (by omega) | omega | exact True.intro | (simp only [rI_rI, rJ_rJ, hI_rI, hJ_rI, hI_rJ, hJ_rJ, hI_rR, hR_rI, hR_rJ, hN_rI, hN_rJ, svH_63, svH_66, rfH_63, wvH_63, wvH_62, wvH_67, wvH_68, wvH_69, sc_63, sc_n62, sc_n67, sc_n68, sc_n69, sc_n70, reduceIte, Nat.reduceEqDiff, eq_self, up_up, up_self, up_ne, ne_eq, not_false_eq_true, Int.reduceEq, Int.reduceNeg, se_aI, se_aJ]; omega))
      · obtain rfl : i = blk w := by omega
        have f4 : FM w (hI h 46) (up F 4 1) L := Box.i ⟨up_self _ _ _, by rw [up_ne (by decide)]; exact i7.fin hW, i6, fun j a b => by rw [up_ne a]; exact i5.o j b⟩
        have k2 := h2 _ R Q L f4
        repeat' (first | apply And.intro | (with_reducible assumption) | (intro h9; first | (exfalso; omega) | (simp only [rI_rI, rJ_rJ, hI_rI, hJ_rI, hI_rJ, hJ_rJ, hI_rR, hR_rI, hR_rJ, hN_rI, hN_rJ, svH_63, svH_66, rfH_63, wvH_63, wvH_62, wvH_67, wvH_68, wvH_69, sc_63, sc_n62, sc_n67, sc_n68, sc_n69, sc_n70, reduceIte, Nat.reduceEqDiff, eq_self, up_up, up_self, up_ne, ne_eq, not_false_eq_true, Int.reduceEq, Int.reduceNeg, se_aI, se_aJ] at h9; first | (exfalso; omega) | skip) | skip) | (refine rt_eq (Rt := Rt) k2 rfl ?_; exact (se_46 _ _ _ _ _ _).symm) | exact h2 | exact h2 (by omega) | omega | exact True.intro | (simp only [rI_rI, rJ_rJ, hI_rI, hJ_rI, hI_rJ, hJ_rJ, hI_rR, hR_rI, hR_rJ, hN_rI, hN_rJ, svH_63, svH_66, rfH_63, wvH_63, wvH_62, wvH_67, wvH_68, wvH_69, sc_63, sc_n62, sc_n67, sc_n68, sc_n69, sc_n70, reduceIte, Nat.reduceEqDiff, eq_self, up_up, up_self, up_ne, ne_eq, not_false_eq_true, Int.reduceEq, Int.reduceNeg, se_aI, se_aJ]; omega))
  · have k := hK.o z
    have k2 : Rt none h := by
      have := h2 (hI h 46) (hJ h 45) (hJ h 44) (hJ h 47) (Box.i ⟨k.1, k.2.1, k.2.2, fun _ _ _ => rfl⟩)
      rw [se_id] at this
      exact this
    refine ⟨fun k pc vs q => False, ?_, ?_⟩
    · repeat' (first | apply And.intro | (with_reducible assumption) | (intro h9; first | (exfalso; omega) | (simp only [rI_rI, rJ_rJ, hI_rI, hJ_rI, hI_rJ, hJ_rJ, hI_rR, hR_rI, hR_rJ, hN_rI, hN_rJ, svH_63, svH_66, rfH_63, wvH_63, wvH_62, wvH_67, wvH_68, wvH_69, sc_63, sc_n62, sc_n67, sc_n68, sc_n69, sc_n70, reduceIte, Nat.reduceEqDiff, eq_self, up_up, up_self, up_ne, ne_eq, not_false_eq_true, Int.reduceEq, Int.reduceNeg, se_aI, se_aJ] at h9; first | (exfalso; omega) | skip) | skip) | exact k2 | exact h2 | exact h2 (by omega) | omega | exact True.intro | (simp only [rI_rI, rJ_rJ, hI_rI, hJ_rI, hI_rJ, hJ_rJ, hI_rR, hR_rI, hR_rJ, hN_rI, hN_rJ, svH_63, svH_66, rfH_63, wvH_63, wvH_62, wvH_67, wvH_68, wvH_69, sc_63, sc_n62, sc_n67, sc_n68, sc_n69, sc_n70, reduceIte, Nat.reduceEqDiff, eq_self, up_up, up_self, up_ne, ne_eq, not_false_eq_true, Int.reduceEq, Int.reduceNeg, se_aI, se_aJ]; omega))
    · intro k pc live vs q hl hq; exact hq.elim
theorem m_X5_findModels : MM 98 s_X5_findModels := mm_of (own := 4) (by rfl) k_X5_findModels (cl := [(99, s_X5_constraintCones), (30, s_X0_blockMask), (29, s_X0_blockCount), (45, s_X3_run), (100, s_X5_allConstraints), (101, s_X5_firstIn)]) ⟨m_X5_constraintCones, m_X0_blockMask, m_X0_blockCount, m_X3_run, m_X5_allConstraints, m_X5_firstIn, trivial⟩ o_X5_findModels
def s_X5_leastModel : CS := (zc 6, ap [(3, 46)] (fun  h Rt X =>
∃ w, GH h w ∧ WF w ∧ St0 (hI h) 5 w ∧ SK w (hI h 46) (hJ h 47) ∧ ∀ F R Q L, FM w (hI h 46) F L → Rt (some (.inl (nxt w 0))) (se h F R Q L)))
set_option maxRecDepth 100000 in
set_option maxHeartbeats 4000000 in
theorem o_X5_leastModel : Obl true 1 1 (sp [(98, s_X5_findModels)]) [] code_X5_leastModel s_X5_leastModel := by
  refine obl0 (by rfl) ?_
  intro  h Rt X hh hf hs
  obtain ⟨w, hG, hW, hS, hK, h2⟩ := hs
  have k : ∀ (F : Int → Int) (R Q L : Int → Int64), FM w (hI h 46) F L → Rt (some (.inl (F 5))) (se h F R Q L) := fun F R Q L hf => FM.rt h2 hf
  repeat' (first | apply And.intro | (with_reducible assumption) | (intro h9; first | (exfalso; omega) | (simp only [rI_rI, rJ_rJ, hI_rI, hJ_rI, hI_rJ, hJ_rJ, hI_rR, hR_rI, hR_rJ, hN_rI, hN_rJ, svH_63, svH_66, rfH_63, wvH_63, wvH_62, wvH_67, wvH_68, wvH_69, sc_63, sc_n62, sc_n67, sc_n68, sc_n69, sc_n70, reduceIte, Nat.reduceEqDiff, eq_self, up_up, up_self, up_ne, ne_eq, not_false_eq_true, Int.reduceEq, Int.reduceNeg, se_aI, se_aJ] at h9; first | (exfalso; omega) | skip) | skip) | refine Exists.intro w ?_ | exact hG | exact hW | exact hS | exact hK | exact k _ _ _ _ (by assumption) | exact h2 | exact h2 (by omega) | omega | exact True.intro | (simp only [rI_rI, rJ_rJ, hI_rI, hJ_rI, hI_rJ, hJ_rJ, hI_rR, hR_rI, hR_rJ, hN_rI, hN_rJ, svH_63, svH_66, rfH_63, wvH_63, wvH_62, wvH_67, wvH_68, wvH_69, sc_63, sc_n62, sc_n67, sc_n68, sc_n69, sc_n70, reduceIte, Nat.reduceEqDiff, eq_self, up_up, up_self, up_ne, ne_eq, not_false_eq_true, Int.reduceEq, Int.reduceNeg, se_aI, se_aJ]; omega))
theorem m_X5_leastModel : MM 97 s_X5_leastModel := mm_of (own := 4) (by rfl) k_X5_leastModel (cl := [(98, s_X5_findModels)]) ⟨m_X5_findModels, trivial⟩ o_X5_leastModel
theorem cntB_split (P : Int → Bool) (a : Nat) : ∀ n : Nat, cntB P (a + n) = cntB P a + cntB (fun k => P ((a : Int) + k)) n := by
  intro n
  induction n with
  | zero => show cntB P a = cntB P a + 0; rw [Int.add_zero]
  | succ n ih =>
    rw [← Nat.add_assoc, cntB_s, ih, cntB_s, Int.add_assoc]
    congr 3
/-- how many models the first i blocks have -/
def CnB (w : Int → Int) (x i : Int) : Prop := Box (x = cntB (mdT w) (64 * i).toNat)
theorem CnB.st {w : Int → Int} {L : Int → Int64} {x i : Int} (h : CnB w x i) (h0 : 0 ≤ i) (h1 : i < blk w) (hm : MdB w L (blk w)) : CnB w (x + pcL (L i)) (i + 1) := Box.i (by
  have e : (64 * (i + 1)).toNat = (64 * i).toNat + 64 := by omega
  have u : cntB (fun k => lb (L i) k.toNat) 64 = cntB (fun k => mdT w ((((64 * i).toNat : Nat) : Int) + k)) 64 := cntB_congr 64 fun N a b => by
    have el : lane i N.toNat = (((64 * i).toNat : Nat) : Int) + N := by unfold lane; omega
    rw [hm.o i h0 h1 _ (by omega), el]
  rw [e, cntB_split, ← h.o, pcL_def, u])
theorem CnB.rng {w : Int → Int} {x i : Int} (h : CnB w x i) (h0 : 0 ≤ i) : 0 ≤ x ∧ x ≤ 64 * i := by
  have := cntB_lo (mdT w) (64 * i).toNat
  rw [← h.o] at this
  omega
theorem CnB.fin {w : Int → Int} {x : Int} (hW : WF w) (h : CnB w x (blk w)) : x = cntB (mdl w) (tot w).toNat := by
  have t := (blk_tot hW).1
  have r := tot_rng hW
  rw [h.o, cntB_gap (mdT w) (j := (tot w).toNat) _ (by omega) fun N a b => by unfold mdT; rw [decide_eq_false (by omega)]; rfl]
  refine cntB_congr _ fun N a b => ?_
  unfold mdT
  rw [decide_eq_true (by omega), Bool.true_and]
def s_X5_countModels : CS := (zc 6, ap [(3, 46)] (fun  h Rt X =>
∃ w, GH h w ∧ WF w ∧ St0 (hI h) 5 w ∧ SK w (hI h 46) (hJ h 47) ∧ ∀ F R Q L, FM w (hI h 46) F L → Rt (some (.inl (cntB (mdl w) (tot w).toNat))) (se h F R Q L)))
set_option maxRecDepth 100000 in
set_option maxHeartbeats 4000000 in
theorem o_X5_countModels : Obl true 1 3 (sp [(98, s_X5_findModels), (29, s_X0_blockCount), (288, s_J13_bitCount_95d88)]) [] code_X5_countModels s_X5_countModels := by
  refine oblL (by rfl) [(8, [0, 1, 2])] ?_
  intro  h Rt X hh hf hs
  obtain ⟨w, hG, hW, hS, hK, h2⟩ := hs
  have br := blk_rng hW
  refine ⟨fun m pc vs g => ∃ (i x : Int) (F : Int → Int) (R Q L : Int → Int64), g = se h F R Q L ∧ vs = [.inr (.inr (some 46)), .inl x, .inl i] ∧ 0 ≤ i ∧ i ≤ blk w ∧ FM w (hI h 46) F L ∧ CnB w x i ∧ m = (blk w - i).toNat, ?_, ?_⟩
  · have c0 : CnB w 0 0 := Box.i rfl
    repeat' (first | apply And.intro | (with_reducible assumption) | (intro h9; first | (exfalso; omega) | (simp only [rI_rI, rJ_rJ, hI_rI, hJ_rI, hI_rJ, hJ_rJ, hI_rR, hR_rI, hR_rJ, hN_rI, hN_rJ, svH_63, svH_66, rfH_63, wvH_63, wvH_62, wvH_67, wvH_68, wvH_69, sc_63, sc_n62, sc_n67, sc_n68, sc_n69, sc_n70, reduceIte, Nat.reduceEqDiff, eq_self, up_up, up_self, up_ne, ne_eq, not_false_eq_true, Int.reduceEq, Int.reduceNeg, se_aI, se_aJ] at h9; first | (exfalso; omega) | skip) | skip) | refine Exists.intro w ?_ | exact hG | exact hW | exact hS | exact hK | exact Exists.intro _ ⟨0, 0, _, _, _, _, rfl, rfl, by omega, by omega, by assumption, c0, rfl⟩ | exact h2 | exact h2 (by omega) | omega | exact True.intro | (simp only [rI_rI, rJ_rJ, hI_rI, hJ_rI, hI_rJ, hJ_rJ, hI_rR, hR_rI, hR_rJ, hN_rI, hN_rJ, svH_63, svH_66, rfH_63, wvH_63, wvH_62, wvH_67, wvH_68, wvH_69, sc_63, sc_n62, sc_n67, sc_n68, sc_n69, sc_n70, reduceIte, Nat.reduceEqDiff, eq_self, up_up, up_self, up_ne, ne_eq, not_false_eq_true, Int.reduceEq, Int.reduceNeg, se_aI, se_aJ]; omega))
  · rintro m pc live vs g hl ⟨i, x, F, R, Q, L, rfl, rfl, i1, i2, i3, i4, rfl⟩ hv hh1 hf1
    obtain ⟨rfl, rfl⟩ := look1 hl
    have r1 := i4.rng i1
    by_cases y : i < blk w
    · have i5 := i4.st i1 y i3.o.2.2.1
      have r2 := i5.rng (by omega)
      have r3 : 0 ≤ pcL (hJ (se h F R Q L) 47 i) ∧ pcL (hJ (se h F R Q L) 47 i) ≤ 64 := by
        have := cntB_lo (fun k => lb (hJ (se h F R Q L) 47 i) k.toNat) 64
        rw [← pcL_def] at this
        exact this
      repeat' (first | apply And.intro | (with_reducible assumption) | (intro h9; first | (exfalso; omega) | (simp only [rI_rI, rJ_rJ, hI_rI, hJ_rI, hI_rJ, hJ_rJ, hI_rR, hR_rI, hR_rJ, hN_rI, hN_rJ, svH_63, svH_66, rfH_63, wvH_63, wvH_62, wvH_67, wvH_68, wvH_69, sc_63, sc_n62, sc_n67, sc_n68, sc_n69, sc_n70, reduceIte, Nat.reduceEqDiff, eq_self, up_up, up_self, up_ne, ne_eq, not_false_eq_true, Int.reduceEq, Int.reduceNeg, se_aI, se_aJ] at h9; first | (exfalso; omega) | skip) | skip) | refine Exists.intro w ?_ | exact hG | exact hW | exact Exists.intro _ ⟨by omega, i + 1, _, F, R, Q, L, rfl, rfl, by omega, by omega, i3, i5, rfl⟩ | exact h2 | exact h2 (by omega) | omega | exact True.intro | (simp only [rI_rI, rJ_rJ, hI_rI, hJ_rI, hI_rJ, hJ_rJ, hI_rR, hR_rI, hR_rJ, hN_rI, hN_rJ, svH_63, svH_66, rfH_63, wvH_63, wvH_62, wvH_67, wvH_68, wvH_69, sc_63, sc_n62, sc_n67, sc_n68, sc_n69, sc_n70, reduceIte, Nat.reduceEqDiff, eq_self, up_up, up_self, up_ne, ne_eq, not_false_eq_true, Int.reduceEq, Int.reduceNeg, se_aI, se_aJ]; omega))
    · obtain rfl : i = blk w := by omega
      have k2 := h2 F R Q L i3
      rw [← i4.fin hW] at k2
      repeat' (first | apply And.intro | (with_reducible assumption) | (intro h9; first | (exfalso; omega) | (simp only [rI_rI, rJ_rJ, hI_rI, hJ_rI, hI_rJ, hJ_rJ, hI_rR, hR_rI, hR_rJ, hN_rI, hN_rJ, svH_63, svH_66, rfH_63, wvH_63, wvH_62, wvH_67, wvH_68, wvH_69, sc_63, sc_n62, sc_n67, sc_n68, sc_n69, sc_n70, reduceIte, Nat.reduceEqDiff, eq_self, up_up, up_self, up_ne, ne_eq, not_false_eq_true, Int.reduceEq, Int.reduceNeg, se_aI, se_aJ] at h9; first | (exfalso; omega) | skip) | skip) | refine Exists.intro w ?_ | exact hG | exact hW | exact k2 | exact h2 | exact h2 (by omega) | omega | exact True.intro | (simp only [rI_rI, rJ_rJ, hI_rI, hJ_rI, hI_rJ, hJ_rJ, hI_rR, hR_rI, hR_rJ, hN_rI, hN_rJ, svH_63, svH_66, rfH_63, wvH_63, wvH_62, wvH_67, wvH_68, wvH_69, sc_63, sc_n62, sc_n67, sc_n68, sc_n69, sc_n70, reduceIte, Nat.reduceEqDiff, eq_self, up_up, up_self, up_ne, ne_eq, not_false_eq_true, Int.reduceEq, Int.reduceNeg, se_aI, se_aJ]; omega))
theorem m_X5_countModels : MM 102 s_X5_countModels := mm_of (own := 4) (by rfl) k_X5_countModels (cl := [(98, s_X5_findModels), (29, s_X0_blockCount), (288, s_J13_bitCount_95d88)]) ⟨m_X5_findModels, m_X0_blockCount, m_J13_bitCount_95d88, trivial⟩ o_X5_countModels

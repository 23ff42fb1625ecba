/-! ===== the class: values that occur ===== -/
def F01 (f : Int → Int) : Prop := Box (∀ v, 0 ≤ v → v < 256 → f v = 0 ∨ f v = 1)
/-- values marked by the lanes below i -/
def MkI (f f' : Int → Int) (s : Int64) (G : Nat → Int) (i : Int) : Prop := Box (∀ v, 0 ≤ v → v < 256 → (f' v = 0 ∧ f v = 0 ∧ ∀ l : Nat, (l : Int) < i → lb s l = true → G l ≠ v) ∨ (f' v = 1 ∧ (f v = 1 ∨ ∃ l : Nat, (l : Int) < i ∧ lb s l = true ∧ G l = v)))
theorem MkI.z {f : Int → Int} (h : F01 f) (s : Int64) (G : Nat → Int) : MkI f f s G 0 := Box.i fun v a b => by
  rcases h.o v a b with e | e
  · exact Or.inl ⟨e, e, fun l hl => by omega⟩
  · exact Or.inr ⟨e, Or.inl e⟩
theorem MkI.f01 {f f' : Int → Int} {s : Int64} {G : Nat → Int} {i : Int} (h : MkI f f' s G i) : F01 f' := Box.i fun v a b => by
  rcases h.o v a b with ⟨e, _⟩ | ⟨e, _⟩
  · exact Or.inl e
  · exact Or.inr e
theorem MkI.skip {f f' : Int → Int} {s : Int64} {G : Nat → Int} {i : Int} (h : MkI f f' s G i) (h0 : 0 ≤ i) (e : lb s i.toNat = false ∨ (0 ≤ G i.toNat ∧ G i.toNat < 256 ∧ f' (G i.toNat) ≠ 0)) : MkI f f' s G (i + 1) := Box.i fun v a b => by
  rcases h.o v a b with ⟨q1, q2, q3⟩ | ⟨q1, q2⟩
  · refine Or.inl ⟨q1, q2, fun l hl hs => ?_⟩
    by_cases z : (l : Int) < i
    · exact q3 l z hs
    · have el : l = i.toNat := by omega
      rw [el] at hs ⊢
      rcases e with e | ⟨e0, e1, e2⟩
      · rw [e] at hs; cases hs
      · intro q; rw [q] at e2; exact e2 q1
  · refine Or.inr ⟨q1, ?_⟩
    rcases q2 with q2 | ⟨l, l1, l2⟩
    · exact Or.inl q2
    · exact Or.inr ⟨l, by omega, l2⟩
theorem MkI.mark {f f' : Int → Int} {s : Int64} {G : Nat → Int} {i : Int} (h : MkI f f' s G i) (h0 : 0 ≤ i) (e : lb s i.toNat = true) : MkI f (up f' (G i.toNat) 1) s G (i + 1) := Box.i fun v a b => by
  by_cases q : v = G i.toNat
  · subst q
    exact Or.inr ⟨up_self _ _ _, Or.inr ⟨i.toNat, by omega, e, rfl⟩⟩
  · rw [up_ne q]
    rcases h.o v a b with ⟨q1, q2, q3⟩ | ⟨q1, q2⟩
    · refine Or.inl ⟨q1, q2, fun l hl hs => ?_⟩
      by_cases z : (l : Int) < i
      · exact q3 l z hs
      · have el : l = i.toNat := by omega
        rw [el]
        exact fun q9 => q q9.symm
    · refine Or.inr ⟨q1, ?_⟩
      rcases q2 with q2 | ⟨l, l1, l2⟩
      · exact Or.inl q2
      · exact Or.inr ⟨l, by omega, l2⟩
theorem smF_up {f : Int → Int} {v x : Int} : ∀ k : Nat, smF (up f v x) k = smF f k + (if 0 ≤ v ∧ v < (k : Int) then x - f v else 0) := by
  intro k
  induction k with
  | zero => rw [if_neg (by omega)]; rfl
  | succ k ih =>
    rw [smF_s, smF_s, ih]
    by_cases e : v = k
    · subst e
      rw [up_self, if_neg (by omega), if_pos (by omega)]
      omega
    · rw [up_ne (by omega)]
      by_cases z : 0 ≤ v ∧ v < (k : Int)
      · rw [if_pos z, if_pos (by omega)]; omega
      · rw [if_neg z, if_neg (by omega)]; omega
theorem smF_lo {f : Int → Int} (h : F01 f) : ∀ k : Nat, k ≤ 256 → 0 ≤ smF f k ∧ smF f k ≤ k := by
  intro k
  induction k with
  | zero => intro _; exact ⟨Int.le_refl _, Int.le_refl _⟩
  | succ k ih =>
    intro hk
    have a := ih (by omega)
    have b := h.o k (by omega) (by omega)
    rw [smF_s]
    omega
theorem rI48 (h : Hp) (f g : Int → Int) : rI (rI h 48 f) 48 g = rI h 48 g := rI_rI h 48 f g
theorem mw_vs {n p i x y : Int} (e : x = y) : ([.inr (.inr (some 46)), .inl n, .inl p, .inl x, .inl i] : List AV) = [.inr (.inr (some 46)), .inl n, .inl p, .inl y, .inl i] := by rw [e]
def s_X5_markWords : CS := (zc 3, ap [(3, 46), (0, 0), (0, 0)] (fun n B h Rt X =>
∃ w, GH h w ∧ WF w ∧ (0 ≤ n ∧ n < w 0 ∧ 0 ≤ B ∧ B < 1024) ∧ F01 (hI h 48) ∧ ∀ f, MkI (hI h 48) f (hJ h 47 B) (fun l => lv w (hJ h 44) l n) 64 → Rt (some (.inl (smF f 256 - smF (hI h 48) 256))) (rI h 48 f)))
set_option maxRecDepth 100000 in
set_option maxHeartbeats 4000000 in
theorem o_X5_markWords : Obl true 1 6 (sp [(46, s_X3_wordAt)]) [] code_X5_markWords s_X5_markWords := by
  refine oblL (by rfl) [(5, [0, 1, 2, 3, 4])] ?_
  intro n r_n B r_B h Rt X hh hf hs
  obtain ⟨w, hG, hW, ⟨n0, n1, b0, b1⟩, hF, h2⟩ := hs
  have nn := hW.nn
  have wd := hW.wd n0 n1
  have p8 := p2_le8 wd.2
  have gr : ∀ l : Nat, 0 ≤ lv w (hJ h 44) l n ∧ lv w (hJ h 44) l n < 256 := fun l => by
    have := lw_rngi (hJ h 44) l (n * 8) (show 0 ≤ nd w n 1 by omega)
    unfold lv
    omega
  refine ⟨fun m pc vs g => ∃ (i : Int) (f : Int → Int), g = rI h 48 f ∧ vs = [.inr (.inr (some 46)), .inl n, .inl B, .inl (smF f 256 - smF (hI h 48) 256), .inl i] ∧ 0 ≤ i ∧ i ≤ 64 ∧ MkI (hI h 48) f (hJ h 47 B) (fun l => lv w (hJ h 44) l n) i ∧ m = (64 - i).toNat, ?_, ?_⟩
  · repeat' (first | apply And.intro | (with_reducible assumption) | (intro h9; first | (exfalso; omega) | (simp only [rI_rI, rJ_rJ, hI_rI, hJ_rI, hI_rJ, hJ_rJ, hI_rR, hR_rI, hR_rJ, hN_rI, hN_rJ, svH_63, svH_66, rfH_63, wvH_63, wvH_62, wvH_67, wvH_68, wvH_69, sc_63, sc_n62, sc_n67, sc_n68, sc_n69, sc_n70, reduceIte, Nat.reduceEqDiff, eq_self, up_up, up_self, up_ne, ne_eq, not_false_eq_true, Int.reduceEq, Int.reduceNeg] at h9; first | (exfalso; omega) | skip) | skip) | exact Exists.intro _ ⟨0, hI h 48, (rI_id h 48).symm, (by rw [Int.sub_self] <;> rfl), by omega, by omega, MkI.z hF _ _, rfl⟩ | exact h2 | exact h2 (by omega) | omega | exact True.intro | (simp only [rI_rI, rJ_rJ, hI_rI, hJ_rI, hI_rJ, hJ_rJ, hI_rR, hR_rI, hR_rJ, hN_rI, hN_rJ, svH_63, svH_66, rfH_63, wvH_63, wvH_62, wvH_67, wvH_68, wvH_69, sc_63, sc_n62, sc_n67, sc_n68, sc_n69, sc_n70, reduceIte, Nat.reduceEqDiff, eq_self, up_up, up_self, up_ne, ne_eq, not_false_eq_true, Int.reduceEq, Int.reduceNeg]; omega))
  · rintro m pc vs' vs g hl ⟨i, f, rfl, rfl, i1, i2, i3, rfl⟩ hv hh1 hf1
    obtain ⟨rfl, rfl⟩ := look1 hl
    have s0 := smF_lo hF 256 (Nat.le_refl _)
    have s1 := smF_lo i3.f01 256 (Nat.le_refl _)
    by_cases z : i < 64
    · have bt := bit1 (x := hJ h 47 B) i1 z
      have em : i % 64 = i := Int.emod_eq_of_lt i1 z
      have el : lw (hJ h 44) (i % 64).toNat (n * 8) (nd w n 1).toNat = lv w (hJ h 44) i.toNat n := by rw [em]; rfl
      have gi := gr i.toNat
      have st : f (lv w (hJ h 44) i.toNat n) = 0 → smF (up f (lv w (hJ h 44) i.toNat n) 1) 256 - smF (hI h 48) 256 = smF f 256 - smF (hI h 48) 256 + 1 := fun q => by
        rw [smF_up, if_pos ⟨gi.1, gi.2⟩, q]
        omega
      rw [← el] at gi st
      have mk := fun q => (i3.mark i1 q)
      have sk := fun q => (i3.skip i1 q)
      rw [← el] at mk sk
      repeat' (first | apply And.intro | (with_reducible assumption) | (intro h9; first | (exfalso; omega) | (simp only [rI_rI, rJ_rJ, hI_rI, hJ_rI, hI_rJ, hJ_rJ, hI_rR, hR_rI, hR_rJ, hN_rI, hN_rJ, svH_63, svH_66, rfH_63, wvH_63, wvH_62, wvH_67, wvH_68, wvH_69, sc_63, sc_n62, sc_n67, sc_n68, sc_n69, sc_n70, reduceIte, Nat.reduceEqDiff, eq_self, up_up, up_self, up_ne, ne_eq, not_false_eq_true, Int.reduceEq, Int.reduceNeg] at h9; first | (exfalso; omega) | skip) | skip) | refine Exists.intro w ?_ | exact hG | exact hW | exact Exists.intro _ ⟨by omega, i + 1, f, rfl, rfl, by omega, by omega, sk (Or.inl (bt.1 (by assumption))), rfl⟩ | exact Exists.intro _ ⟨by omega, i + 1, f, rfl, rfl, by omega, by omega, sk (Or.inr ⟨gi.1, gi.2, by assumption⟩), rfl⟩ | exact Exists.intro _ ⟨by omega, i + 1, _, rI_rI _ _ _ _, mw_vs (st (by assumption)).symm, by omega, by omega, mk (bt.2 (by assumption)), rfl⟩ | exact h2 | exact h2 (by omega) | omega | exact True.intro | (simp only [rI_rI, rJ_rJ, hI_rI, hJ_rI, hI_rJ, hJ_rJ, hI_rR, hR_rI, hR_rJ, hN_rI, hN_rJ, svH_63, svH_66, rfH_63, wvH_63, wvH_62, wvH_67, wvH_68, wvH_69, sc_63, sc_n62, sc_n67, sc_n68, sc_n69, sc_n70, reduceIte, Nat.reduceEqDiff, eq_self, up_up, up_self, up_ne, ne_eq, not_false_eq_true, Int.reduceEq, Int.reduceNeg]; omega))
    · obtain rfl : i = 64 := by omega
      have k2 := h2 f i3
      repeat' (first | apply And.intro | (with_reducible assumption) | (intro h9; first | (exfalso; omega) | (simp only [rI_rI, rJ_rJ, hI_rI, hJ_rI, hI_rJ, hJ_rJ, hI_rR, hR_rI, hR_rJ, hN_rI, hN_rJ, svH_63, svH_66, rfH_63, wvH_63, wvH_62, wvH_67, wvH_68, wvH_69, sc_63, sc_n62, sc_n67, sc_n68, sc_n69, sc_n70, reduceIte, Nat.reduceEqDiff, eq_self, up_up, up_self, up_ne, ne_eq, not_false_eq_true, Int.reduceEq, Int.reduceNeg] at h9; first | (exfalso; omega) | skip) | skip) | exact k2 | exact h2 | exact h2 (by omega) | omega | exact True.intro | (simp only [rI_rI, rJ_rJ, hI_rI, hJ_rI, hI_rJ, hJ_rJ, hI_rR, hR_rI, hR_rJ, hN_rI, hN_rJ, svH_63, svH_66, rfH_63, wvH_63, wvH_62, wvH_67, wvH_68, wvH_69, sc_63, sc_n62, sc_n67, sc_n68, sc_n69, sc_n70, reduceIte, Nat.reduceEqDiff, eq_self, up_up, up_self, up_ne, ne_eq, not_false_eq_true, Int.reduceEq, Int.reduceNeg]; omega))
theorem m_X5_markWords : MM 113 s_X5_markWords := mm_of (own := 4) (by rfl) k_X5_markWords (cl := [(46, s_X3_wordAt)]) ⟨m_X3_wordAt, trivial⟩ o_X5_markWords
/-- the values that the models below m have -/
def MtT (w : Int → Int) (n : Int) (f : Int → Int) (m : Int) : Prop := Box (∀ v, 0 ≤ v → v < 256 → (f v = 0 ∧ ∀ N, 0 ≤ N → N < m → mdT w N = true → vl w (asg w N) n ≠ v) ∨ (f v = 1 ∧ ∃ N, 0 ≤ N ∧ N < m ∧ mdT w N = true ∧ vl w (asg w N) n = v))
theorem MtT.f01 {w f : Int → Int} {n m : Int} (h : MtT w n f m) : F01 f := Box.i fun v a b => by
  rcases h.o v a b with ⟨e, _⟩ | ⟨e, _⟩
  · exact Or.inl e
  · exact Or.inr e
theorem MtT.st {w f f' : Int → Int} {L Q : Int → Int64} {n i : Int} {s : Int64} (h : MtT w n f (64 * i)) (n0 : 0 ≤ n) (n1 : n < w 0) (i0 : 0 ≤ i) (i1 : i < blk w) (hm : MdB w L (blk w)) (hv : VlL w Q i s (w 0)) (hs : lb s n.toNat = true) (hk : MkI f f' (L i) (fun l => lv w Q l n) 64) : MtT w n f' (64 * (i + 1)) := Box.i fun v a b => by
  have ev : ∀ l, l < 64 → lv w Q l n = vl w (asg w (lane i l)) n := fun l hl => hv.o n n0 n1 hs l hl
  rcases hk.o v a b with ⟨q1, q2, q3⟩ | ⟨q1, q2⟩
  · refine Or.inl ⟨q1, fun N x0 x1 x2 => ?_⟩
    rcases h.o v a b with ⟨_, p2⟩ | ⟨p1, _⟩
    · by_cases z : N < 64 * i
      · exact p2 N x0 z x2
      · obtain ⟨e, e2⟩ := lane_of (N := N) (i := i) (by omega) (by omega)
        rw [e] at x2 ⊢
        generalize (N - 64 * i).toNat = l at *
        rw [← hm.o i i0 i1 l e2] at x2
        rw [← ev l e2]
        exact q3 l (by omega) x2
    · rw [q2] at p1; cases p1
  · refine Or.inr ⟨q1, ?_⟩
    rcases q2 with q2 | ⟨l, l1, l2, l3⟩
    · rcases h.o v a b with ⟨p1, _⟩ | ⟨_, N, x0, x1, x2⟩
      · rw [q2] at p1; cases p1
      · exact ⟨N, x0, by omega, x2⟩
    · refine ⟨lane i l, by unfold lane; omega, by unfold lane; omega, ?_, ?_⟩
      · rw [← hm.o i i0 i1 l (by omega)]; exact l2
      · rw [← ev l (by omega)]; exact l3
theorem MtT.miss {w f : Int → Int} {L : Int → Int64} {n i : Int} (h : MtT w n f (64 * i)) (i0 : 0 ≤ i) (i1 : i < blk w) (hm : MdB w L (blk w)) (e : L i = 0) : MtT w n f (64 * (i + 1)) := Box.i fun v a b => by
  rcases h.o v a b with ⟨q1, q2⟩ | ⟨q1, N, x0, x1, x2⟩
  · refine Or.inl ⟨q1, fun N x0 x1 x2 => ?_⟩
    by_cases z : N < 64 * i
    · exact q2 N x0 z x2
    · obtain ⟨q, q9⟩ := lane_of (N := N) (i := i) (by omega) (by omega)
      rw [q, ← hm.o i i0 i1 _ q9, e, lb_0] at x2
      cases x2
  · exact Or.inr ⟨q1, N, x0, by omega, x2⟩
theorem MtT.fin {w f : Int → Int} {n m : Int} (h : MtT w n f m) (hm : tot w ≤ m) : Mets w n f (tot w) := Box.i fun v a b => by
  rcases h.o v a b with ⟨q1, q2⟩ | ⟨q1, N, x0, x1, x2, x3⟩
  · refine Or.inl ⟨q1, fun N x0 x1 x2 => q2 N x0 (by omega) ?_⟩
    unfold mdT
    rw [decide_eq_true x1, x2]; rfl
  · unfold mdT at x2
    rw [Bool.and_eq_true] at x2
    exact Or.inr ⟨q1, N, x0, of_decide_eq_true x2.1, x2.2, x3⟩
theorem smF_full {f : Int → Int} (h : F01 f) : ∀ k : Nat, k ≤ 256 → (k : Int) ≤ smF f k → ∀ v, 0 ≤ v → v < (k : Int) → f v = 1 := by
  intro k
  induction k with
  | zero => intro _ _ v a b; omega
  | succ k ih =>
    intro hk hs v a b
    rw [smF_s] at hs
    have l := smF_lo h k (by omega)
    have e := h.o k (by omega) (by omega)
    by_cases z : v = k
    · subst z; omega
    · exact ih (by omega) (by omega) v a (by omega)
theorem smF_tail {f : Int → Int} {j : Nat} (h : ∀ v : Int, (j : Int) ≤ v → v < 256 → f v = 0) : ∀ k : Nat, j ≤ k → k ≤ 256 → smF f k = smF f j := by
  intro k
  induction k with
  | zero => intro a _; rw [show j = 0 by omega]
  | succ k ih =>
    intro a b
    by_cases e : j = k + 1
    · rw [e]
    · rw [smF_s, ih (by omega) (by omega), h k (by omega) (by omega)]
      omega
theorem MtT.full {w f : Int → Int} {n m : Int} (hW : WF w) (n0 : 0 ≤ n) (n1 : n < w 0) (h : MtT w n f m) (hc : p2 (nd w n 1) ≤ smF f 256) : Mets w n f (tot w) := by
  have wd := hW.wd n0 n1
  have p8 := p2_le8 wd.2
  have hp := p2_pos (nd w n 1)
  have z : ∀ v : Int, (((p2 (nd w n 1)).toNat : Nat) : Int) ≤ v → v < 256 → f v = 0 := fun v a b => by
    rcases h.o v (by omega) b with ⟨q, _⟩ | ⟨_, N, x0, x1, x2, x3⟩
    · exact q
    · have := hW.vr (asg_ev w N) n0 n1
      omega
  have e := smF_tail z 256 (by omega) (Nat.le_refl _)
  have a1 := smF_full h.f01 (p2 (nd w n 1)).toNat (by omega) (by omega)
  refine Box.i fun v a b => ?_
  by_cases y : v < p2 (nd w n 1)
  · have q := a1 v a (by omega)
    rcases h.o v a b with ⟨r, _⟩ | ⟨_, N, x0, x1, x2, x3⟩
    · rw [q] at r; cases r
    · unfold mdT at x2
      rw [Bool.and_eq_true] at x2
      exact Or.inr ⟨q, N, x0, of_decide_eq_true x2.1, x2.2, x3⟩
  · refine Or.inl ⟨z v (by omega) b, fun N x0 x1 x2 => ?_⟩
    have := hW.vr (asg_ev w N) n0 n1
    omega
theorem se_48 (h : Hp) (F f g : Int → Int) (R Q L : Int → Int64) : rI (se (rI h 48 f) F R Q L) 48 g = se (rI h 48 g) F R Q L := by
  refine Prod.ext rfl (Prod.ext (funext fun q => ?_) rfl)
  show (if q = 48 then g else if q = 46 then F else if q = 48 then f else h.2.1 q) = if q = 46 then F else if q = 48 then g else h.2.1 q
  by_cases e : q = 46
  · subst e; rw [if_neg (by decide), if_pos rfl, if_pos rfl]
  · rw [if_neg e, if_neg e]
    by_cases e2 : q = 48
    · rw [if_pos e2, if_pos e2]
    · rw [if_neg e2, if_neg e2, if_neg e2]
theorem se_i48 (h : Hp) (F : Int → Int) (R Q L : Int → Int64) : se h F R Q L = se (rI h 48 (hI h 48)) F R Q L := by rw [rI_id]
theorem cw_hp (h : Hp) (F f g : Int → Int) (R Q L R' Q' : Int → Int64) : rI (rJ (rJ (se (rI h 48 f) F R Q L) 45 R') 44 Q') 48 g = se (rI h 48 g) F R' Q' L := by rw [se_run, se_48]
theorem cw_vs {n p i x y : Int} {c : Int64} (e : x = y) : ([.inr (.inr (some 46)), .inl n, .inl p, .inr (.inl c), .inl x, .inl i] : List AV) = [.inr (.inr (some 46)), .inl n, .inl p, .inr (.inl c), .inl y, .inl i] := by rw [e]
def s_X5_collectWords : CS := (zc 6, ap [(3, 46), (0, 0)] (fun n h Rt X =>
∃ w, GH h w ∧ WF w ∧ St0 (hI h) 5 w ∧ SK w (hI h 46) (hJ h 47) ∧ (0 ≤ n ∧ n < w 0) ∧ ∀ f F R Q L, FM w (hI h 46) F L → Mets w n f (tot w) → Rt (some (.inl (smF f 256))) (se (rI h 48 f) F R Q L)))
set_option maxRecDepth 100000 in
set_option maxHeartbeats 4000000 in
theorem o_X5_collectWords : Obl true 1 7 (sp [(98, s_X5_findModels), (6, s_X0_width), (25, s_X0_cone), (29, s_X0_blockCount), (45, s_X3_run), (113, s_X5_markWords)]) [] code_X5_collectWords s_X5_collectWords := by
  refine oblL (by rfl) [(6, [0, 1, 2]), (54, [0, 1, 2, 3, 5, 6])] ?_
  intro n r_n h Rt X hh hf hs
  obtain ⟨w, hG, hW, hS, hK, ⟨n0, n1⟩, h2⟩ := hs
  have br := blk_rng hW
  have g0 := hG.n
  have nn := hW.nn
  have c1 := hG.k1 n0 n1
  have wd := hW.wd n0 n1
  have p8 := p2_le8 wd.2
  have hp := p2_pos (nd w n 1)
  have cc := cone_clo hW n0 n1
  have tt := (blk_tot hW).1
  have fw : sShl 1 (hI h 2 (n * 8 + 1)) = p2 (nd w n 1) := by rw [c1]; exact fullW (by omega) (by omega)
  refine ⟨fun m pc vs q => ∃ (i : Int) (f F : Int → Int) (R Q L : Int → Int64), q = se (rI h 48 f) F R Q L ∧ FM w (hI h 46) F L ∧ 0 ≤ i ∧ ((pc = 6 ∧ vs = [.inr (.inr (some 46)), .inl n, .inl i] ∧ i ≤ 256 ∧ Box (∀ v, 0 ≤ v → v < i → f v = 0) ∧ m = 10000 + (256 - i).toNat) ∨
    (pc = 54 ∧ vs = [.inr (.inr (some 46)), .inl n, .inl (p2 (nd w n 1)), .inr (.inl (coneW w n)), .inl (smF f 256), .inl i] ∧ i ≤ blk w ∧ MtT w n f (64 * i) ∧ m = (blk w - i).toNat)), ?_, ?_⟩
  · repeat' (first | apply And.intro | (with_reducible assumption) | (intro h9; first | (exfalso; omega) | (simp only [rI_rI, rJ_rJ, hI_rI, hJ_rI, hI_rJ, hJ_rJ, hI_rR, hR_rI, hR_rJ, hN_rI, hN_rJ, svH_63, svH_66, rfH_63, wvH_63, wvH_62, wvH_67, wvH_68, wvH_69, sc_63, sc_n62, sc_n67, sc_n68, sc_n69, sc_n70, reduceIte, Nat.reduceEqDiff, eq_self, up_up, up_self, up_ne, ne_eq, not_false_eq_true, Int.reduceEq, Int.reduceNeg, se_aI, se_aJ] at h9; first | (exfalso; omega) | skip) | skip) | refine Exists.intro w ?_ | exact hG | exact hW | exact hS | exact hK | exact Exists.intro _ ⟨0, _, _, _, _, _, se_i48 _ _ _ _ _, by assumption, by omega, Or.inl ⟨rfl, rfl, by omega, Box.i (fun v a b => by omega), rfl⟩⟩ | exact h2 | exact h2 (by omega) | omega | exact True.intro | (simp only [rI_rI, rJ_rJ, hI_rI, hJ_rI, hI_rJ, hJ_rJ, hI_rR, hR_rI, hR_rJ, hN_rI, hN_rJ, svH_63, svH_66, rfH_63, wvH_63, wvH_62, wvH_67, wvH_68, wvH_69, sc_63, sc_n62, sc_n67, sc_n68, sc_n69, sc_n70, reduceIte, Nat.reduceEqDiff, eq_self, up_up, up_self, up_ne, ne_eq, not_false_eq_true, Int.reduceEq, Int.reduceNeg, se_aI, se_aJ]; omega))
  · rintro m pc live vs q hl ⟨i, f, F, R, Q, L, rfl, i4, i1, ⟨rfl, rfl, i2, i3, rfl⟩ | ⟨rfl, rfl, i2, i3, rfl⟩⟩ hv hh1 hf1
    · rcases look2 hl with ⟨_, rfl⟩ | ⟨q, _⟩
      · by_cases z : i < 256
        · have e : Box (∀ v, 0 ≤ v → v < i + 1 → up f i 0 v = 0) := Box.i fun v a b => by
            by_cases e : v = i
            · subst e; rw [up_self]
            · rw [up_ne e]; exact i3.o v a (by omega)
          repeat' (first | apply And.intro | (with_reducible assumption) | (intro h9; first | (exfalso; omega) | (simp only [rI_rI, rJ_rJ, hI_rI, hJ_rI, hI_rJ, hJ_rJ, hI_rR, hR_rI, hR_rJ, hN_rI, hN_rJ, svH_63, svH_66, rfH_63, wvH_63, wvH_62, wvH_67, wvH_68, wvH_69, sc_63, sc_n62, sc_n67, sc_n68, sc_n69, sc_n70, reduceIte, Nat.reduceEqDiff, eq_self, up_up, up_self, up_ne, ne_eq, not_false_eq_true, Int.reduceEq, Int.reduceNeg, se_aI, se_aJ] at h9; first | (exfalso; omega) | skip) | skip) | exact Exists.intro _ ⟨by omega, i + 1, _, F, R, Q, L, se_48 _ _ _ _ _ _ _, i4, by omega, Or.inl ⟨rfl, rfl, by omega, e, rfl⟩⟩ | exact h2 | exact h2 (by omega) | omega | exact True.intro | (simp only [rI_rI, rJ_rJ, hI_rI, hJ_rI, hI_rJ, hJ_rJ, hI_rR, hR_rI, hR_rJ, hN_rI, hN_rJ, svH_63, svH_66, rfH_63, wvH_63, wvH_62, wvH_67, wvH_68, wvH_69, sc_63, sc_n62, sc_n67, sc_n68, sc_n69, sc_n70, reduceIte, Nat.reduceEqDiff, eq_self, up_up, up_self, up_ne, ne_eq, not_false_eq_true, Int.reduceEq, Int.reduceNeg, se_aI, se_aJ]; omega))
        · obtain rfl : i = 256 := by omega
          have z0 : smF f 256 = 0 := by
            have := smF_tail (f := f) (j := 0) (fun v a b => i3.o v (by omega) b) 256 (by omega) (Nat.le_refl _)
            rw [this]; rfl
          have m0 : MtT w n f (64 * 0) := Box.i fun v a b => Or.inl ⟨i3.o v a b, fun N x0 x1 => by omega⟩
          repeat' (first | apply And.intro | (with_reducible assumption) | (intro h9; first | (exfalso; omega) | (simp only [rI_rI, rJ_rJ, hI_rI, hJ_rI, hI_rJ, hJ_rJ, hI_rR, hR_rI, hR_rJ, hN_rI, hN_rJ, svH_63, svH_66, rfH_63, wvH_63, wvH_62, wvH_67, wvH_68, wvH_69, sc_63, sc_n62, sc_n67, sc_n68, sc_n69, sc_n70, reduceIte, Nat.reduceEqDiff, eq_self, up_up, up_self, up_ne, ne_eq, not_false_eq_true, Int.reduceEq, Int.reduceNeg, se_aI, se_aJ] at h9; first | (exfalso; omega) | skip) | skip) | refine Exists.intro w ?_ | exact hG | exact hW | exact Exists.intro _ ⟨by omega, 0, f, F, R, Q, L, rfl, i4, by omega, Or.inr ⟨rfl, (by rw [z0, ← fw] <;> rfl), by omega, m0, rfl⟩⟩ | exact h2 | exact h2 (by omega) | omega | exact True.intro | (simp only [rI_rI, rJ_rJ, hI_rI, hJ_rI, hI_rJ, hJ_rJ, hI_rR, hR_rI, hR_rJ, hN_rI, hN_rJ, svH_63, svH_66, rfH_63, wvH_63, wvH_62, wvH_67, wvH_68, wvH_69, sc_63, sc_n62, sc_n67, sc_n68, sc_n69, sc_n70, reduceIte, Nat.reduceEqDiff, eq_self, up_up, up_self, up_ne, ne_eq, not_false_eq_true, Int.reduceEq, Int.reduceNeg, se_aI, se_aJ]; omega))
      · cases q
    · rcases look2 hl with ⟨q, _⟩ | ⟨_, rfl⟩
      · cases q
      · have m4 := i4.o.2.2.1
        have s1 := smF_lo i3.f01 256 (Nat.le_refl _)
        by_cases y : i < blk w
        · by_cases x : smF f 256 < p2 (nd w n 1)
          · have f1 := i3.f01
            have sl : ∀ f' s G, MkI f f' s G 64 → 0 ≤ smF f' 256 ∧ smF f' 256 ≤ 256 := fun f' s G hk => smF_lo hk.f01 256 (Nat.le_refl _)
            have es : ∀ f', smF f 256 + (smF f' 256 - smF f 256) = smF f' 256 := fun f' => by omega
            repeat' (first | apply And.intro | (with_reducible assumption) | (intro h9; first | (exfalso; omega) | (simp only [rI_rI, rJ_rJ, hI_rI, hJ_rI, hI_rJ, hJ_rJ, hI_rR, hR_rI, hR_rJ, hN_rI, hN_rJ, svH_63, svH_66, rfH_63, wvH_63, wvH_62, wvH_67, wvH_68, wvH_69, sc_63, sc_n62, sc_n67, sc_n68, sc_n69, sc_n70, reduceIte, Nat.reduceEqDiff, eq_self, up_up, up_self, up_ne, ne_eq, not_false_eq_true, Int.reduceEq, Int.reduceNeg, se_aI, se_aJ] at h9; first | (exfalso; omega) | skip) | skip) | refine Exists.intro w ?_ | exact hG | exact hW | exact cc.1 | exact f1 | exact Exists.intro _ ⟨by omega, i + 1, f, F, R, Q, L, rfl, i4, by omega, Or.inr ⟨rfl, rfl, by omega, i3.miss i1 y m4 (cmpL_0.mp (by assumption)), rfl⟩⟩ | (have q9 := sl _ _ _ (by assumption); simp only [rI_rI, rJ_rJ, hI_rI, hJ_rI, hI_rJ, hJ_rJ, hI_rR, hR_rI, hR_rJ, hN_rI, hN_rJ, svH_63, svH_66, rfH_63, wvH_63, wvH_62, wvH_67, wvH_68, wvH_69, sc_63, sc_n62, sc_n67, sc_n68, sc_n69, sc_n70, reduceIte, Nat.reduceEqDiff, eq_self, up_up, up_self, up_ne, ne_eq, not_false_eq_true, Int.reduceEq, Int.reduceNeg, se_aI, se_aJ]; omega) | exact Exists.intro _ ⟨by omega, i + 1, _, F, _, _, L, cw_hp _ _ _ _ _ _ _ _ _, i4, by omega, Or.inr ⟨rfl, cw_vs (es _), by omega, i3.st n0 n1 i1 y m4 (by assumption) cc.2 (by assumption), rfl⟩⟩ | exact h2 | exact h2 (by omega) | omega | exact True.intro | (simp only [rI_rI, rJ_rJ, hI_rI, hJ_rI, hI_rJ, hJ_rJ, hI_rR, hR_rI, hR_rJ, hN_rI, hN_rJ, svH_63, svH_66, rfH_63, wvH_63, wvH_62, wvH_67, wvH_68, wvH_69, sc_63, sc_n62, sc_n67, sc_n68, sc_n69, sc_n70, reduceIte, Nat.reduceEqDiff, eq_self, up_up, up_self, up_ne, ne_eq, not_false_eq_true, Int.reduceEq, Int.reduceNeg, se_aI, se_aJ]; omega))
          · have k2 := h2 f F R Q L i4 (i3.full hW n0 n1 (by omega))
            repeat' (first | apply And.intro | (with_reducible assumption) | (intro h9; first | (exfalso; omega) | (simp only [rI_rI, rJ_rJ, hI_rI, hJ_rI, hI_rJ, hJ_rJ, hI_rR, hR_rI, hR_rJ, hN_rI, hN_rJ, svH_63, svH_66, rfH_63, wvH_63, wvH_62, wvH_67, wvH_68, wvH_69, sc_63, sc_n62, sc_n67, sc_n68, sc_n69, sc_n70, reduceIte, Nat.reduceEqDiff, eq_self, up_up, up_self, up_ne, ne_eq, not_false_eq_true, Int.reduceEq, Int.reduceNeg, se_aI, se_aJ] at h9; first | (exfalso; omega) | skip) | skip) | refine Exists.intro w ?_ | exact hG | exact hW | exact k2 | exact h2 | exact h2 (by omega) | omega | exact True.intro | (simp only [rI_rI, rJ_rJ, hI_rI, hJ_rI, hI_rJ, hJ_rJ, hI_rR, hR_rI, hR_rJ, hN_rI, hN_rJ, svH_63, svH_66, rfH_63, wvH_63, wvH_62, wvH_67, wvH_68, wvH_69, sc_63, sc_n62, sc_n67, sc_n68, sc_n69, sc_n70, reduceIte, Nat.reduceEqDiff, eq_self, up_up, up_self, up_ne, ne_eq, not_false_eq_true, Int.reduceEq, Int.reduceNeg, se_aI, se_aJ]; omega))
        · obtain rfl : i = blk w := by omega
          have k2 := h2 f F R Q L i4 (i3.fin tt)
          repeat' (first | apply And.intro | (with_reducible assumption) | (intro h9; first | (exfalso; omega) | (simp only [rI_rI, rJ_rJ, hI_rI, hJ_rI, hI_rJ, hJ_rJ, hI_rR, hR_rI, hR_rJ, hN_rI, hN_rJ, svH_63, svH_66, rfH_63, wvH_63, wvH_62, wvH_67, wvH_68, wvH_69, sc_63, sc_n62, sc_n67, sc_n68, sc_n69, sc_n70, reduceIte, Nat.reduceEqDiff, eq_self, up_up, up_self, up_ne, ne_eq, not_false_eq_true, Int.reduceEq, Int.reduceNeg, se_aI, se_aJ] at h9; first | (exfalso; omega) | skip) | skip) | refine Exists.intro w ?_ | exact hG | exact hW | exact k2 | exact h2 | exact h2 (by omega) | omega | exact True.intro | (simp only [rI_rI, rJ_rJ, hI_rI, hJ_rI, hI_rJ, hJ_rJ, hI_rR, hR_rI, hR_rJ, hN_rI, hN_rJ, svH_63, svH_66, rfH_63, wvH_63, wvH_62, wvH_67, wvH_68, wvH_69, sc_63, sc_n62, sc_n67, sc_n68, sc_n69, sc_n70, reduceIte, Nat.reduceEqDiff, eq_self, up_up, up_self, up_ne, ne_eq, not_false_eq_true, Int.reduceEq, Int.reduceNeg, se_aI, se_aJ]; omega))
theorem m_X5_collectWords : MM 112 s_X5_collectWords := mm_of (own := 4) (by rfl) k_X5_collectWords (cl := [(98, s_X5_findModels), (6, s_X0_width), (25, s_X0_cone), (29, s_X0_blockCount), (45, s_X3_run), (113, s_X5_markWords)]) ⟨m_X5_findModels, m_X0_width, m_X0_cone, m_X0_blockCount, m_X3_run, m_X5_markWords, trivial⟩ o_X5_collectWords
/-- the k-th value that is marked -/
def kthW (f : Int → Int) (k : Int) : Int := fst (fun v => decide (f v = 1 ∧ smF f v.toNat = k)) 256
def s_X5_collectedWord : CS := (zc 1, ap [(3, 46), (0, 0)] (fun k h Rt X =>
(0 ≤ k ∧ k ≤ 1000) ∧ F01 (hI h 48) ∧ Rt (some (.inl (kthW (hI h 48) k))) h))
set_option maxRecDepth 100000 in
set_option maxHeartbeats 4000000 in
theorem o_X5_collectedWord : Obl true 1 4 (sp []) [] code_X5_collectedWord s_X5_collectedWord := by
  refine oblL (by rfl) [(4, [0, 2, 3])] ?_
  intro k r_k h Rt X hh hf hs
  obtain ⟨⟨k0, k1⟩, hF, h2⟩ := hs
  refine ⟨fun m pc vs g => ∃ (i : Int), g = h ∧ vs = [.inr (.inr (some 46)), .inl (k - smF (hI h 48) i.toNat), .inl i] ∧ 0 ≤ i ∧ i ≤ 256 ∧ fst (fun v => decide (hI h 48 v = 1 ∧ smF (hI h 48) v.toNat = k)) i.toNat = -1 ∧ m = (256 - i).toNat, ?_, ?_⟩
  · repeat' (first | apply And.intro | (with_reducible assumption) | (intro h9; first | (exfalso; omega) | (simp only [rI_rI, rJ_rJ, hI_rI, hJ_rI, hI_rJ, hJ_rJ, hI_rR, hR_rI, hR_rJ, hN_rI, hN_rJ, svH_63, svH_66, rfH_63, wvH_63, wvH_62, wvH_67, wvH_68, wvH_69, sc_63, sc_n62, sc_n67, sc_n68, sc_n69, sc_n70, reduceIte, Nat.reduceEqDiff, eq_self, up_up, up_self, up_ne, ne_eq, not_false_eq_true, Int.reduceEq, Int.reduceNeg, se_aI, se_aJ] at h9; first | (exfalso; omega) | skip) | skip) | exact Exists.intro _ ⟨0, rfl, (by show _ = [Sum.inr (Sum.inr (some 46)), Sum.inl (k - 0), Sum.inl 0]; rw [Int.sub_zero]), by omega, by omega, rfl, rfl⟩ | exact h2 | exact h2 (by omega) | omega | exact True.intro | (simp only [rI_rI, rJ_rJ, hI_rI, hJ_rI, hI_rJ, hJ_rJ, hI_rR, hR_rI, hR_rJ, hN_rI, hN_rJ, svH_63, svH_66, rfH_63, wvH_63, wvH_62, wvH_67, wvH_68, wvH_69, sc_63, sc_n62, sc_n67, sc_n68, sc_n69, sc_n70, reduceIte, Nat.reduceEqDiff, eq_self, up_up, up_self, up_ne, ne_eq, not_false_eq_true, Int.reduceEq, Int.reduceNeg, se_aI, se_aJ]; omega))
  · rintro m pc live vs g hl ⟨i, rfl, rfl, i1, i2, i3, rfl⟩ hv hh1 hf1
    obtain ⟨rfl, rfl⟩ := look1 hl
    have s1 := smF_lo hF i.toNat (by omega)
    by_cases z : i < 256
    · have f1 := hF.o i i1 z
      have e := smF_i (hI g 48) i1
      by_cases y : hI g 48 i = 1
      · by_cases x : smF (hI g 48) i.toNat = k
        · have r : kthW (hI g 48) k = i := fst_hit i1 z i3 (decide_eq_true ⟨y, x⟩)
          rw [r] at h2
          repeat' (first | apply And.intro | (with_reducible assumption) | (intro h9; first | (exfalso; omega) | (simp only [rI_rI, rJ_rJ, hI_rI, hJ_rI, hI_rJ, hJ_rJ, hI_rR, hR_rI, hR_rJ, hN_rI, hN_rJ, svH_63, svH_66, rfH_63, wvH_63, wvH_62, wvH_67, wvH_68, wvH_69, sc_63, sc_n62, sc_n67, sc_n68, sc_n69, sc_n70, reduceIte, Nat.reduceEqDiff, eq_self, up_up, up_self, up_ne, ne_eq, not_false_eq_true, Int.reduceEq, Int.reduceNeg, se_aI, se_aJ] at h9; first | (exfalso; omega) | skip) | skip) | exact h2 | exact h2 | exact h2 (by omega) | omega | exact True.intro | (simp only [rI_rI, rJ_rJ, hI_rI, hJ_rI, hI_rJ, hJ_rJ, hI_rR, hR_rI, hR_rJ, hN_rI, hN_rJ, svH_63, svH_66, rfH_63, wvH_63, wvH_62, wvH_67, wvH_68, wvH_69, sc_63, sc_n62, sc_n67, sc_n68, sc_n69, sc_n70, reduceIte, Nat.reduceEqDiff, eq_self, up_up, up_self, up_ne, ne_eq, not_false_eq_true, Int.reduceEq, Int.reduceNeg, se_aI, se_aJ]; omega))
        · have r := fst_miss i1 i3 (decide_eq_false (fun q => x q.2))
          have e2 : k - smF (hI g 48) (i + 1).toNat = k - smF (hI g 48) i.toNat + -1 := by omega
          repeat' (first | apply And.intro | (with_reducible assumption) | (intro h9; first | (exfalso; omega) | (simp only [rI_rI, rJ_rJ, hI_rI, hJ_rI, hI_rJ, hJ_rJ, hI_rR, hR_rI, hR_rJ, hN_rI, hN_rJ, svH_63, svH_66, rfH_63, wvH_63, wvH_62, wvH_67, wvH_68, wvH_69, sc_63, sc_n62, sc_n67, sc_n68, sc_n69, sc_n70, reduceIte, Nat.reduceEqDiff, eq_self, up_up, up_self, up_ne, ne_eq, not_false_eq_true, Int.reduceEq, Int.reduceNeg, se_aI, se_aJ] at h9; first | (exfalso; omega) | skip) | skip) | exact Exists.intro _ ⟨by omega, i + 1, rfl, (by rw [e2] <;> rfl), by omega, by omega, r, rfl⟩ | exact h2 | exact h2 (by omega) | omega | exact True.intro | (simp only [rI_rI, rJ_rJ, hI_rI, hJ_rI, hI_rJ, hJ_rJ, hI_rR, hR_rI, hR_rJ, hN_rI, hN_rJ, svH_63, svH_66, rfH_63, wvH_63, wvH_62, wvH_67, wvH_68, wvH_69, sc_63, sc_n62, sc_n67, sc_n68, sc_n69, sc_n70, reduceIte, Nat.reduceEqDiff, eq_self, up_up, up_self, up_ne, ne_eq, not_false_eq_true, Int.reduceEq, Int.reduceNeg, se_aI, se_aJ]; omega))
      · have r := fst_miss i1 i3 (decide_eq_false (fun q => y q.1))
        have e2 : k - smF (hI g 48) (i + 1).toNat = k - smF (hI g 48) i.toNat := by omega
        repeat' (first | apply And.intro | (with_reducible assumption) | (intro h9; first | (exfalso; omega) | (simp only [rI_rI, rJ_rJ, hI_rI, hJ_rI, hI_rJ, hJ_rJ, hI_rR, hR_rI, hR_rJ, hN_rI, hN_rJ, svH_63, svH_66, rfH_63, wvH_63, wvH_62, wvH_67, wvH_68, wvH_69, sc_63, sc_n62, sc_n67, sc_n68, sc_n69, sc_n70, reduceIte, Nat.reduceEqDiff, eq_self, up_up, up_self, up_ne, ne_eq, not_false_eq_true, Int.reduceEq, Int.reduceNeg, se_aI, se_aJ] at h9; first | (exfalso; omega) | skip) | skip) | exact Exists.intro _ ⟨by omega, i + 1, rfl, (by rw [e2] <;> rfl), by omega, by omega, r, rfl⟩ | exact h2 | exact h2 (by omega) | omega | exact True.intro | (simp only [rI_rI, rJ_rJ, hI_rI, hJ_rI, hI_rJ, hJ_rJ, hI_rR, hR_rI, hR_rJ, hN_rI, hN_rJ, svH_63, svH_66, rfH_63, wvH_63, wvH_62, wvH_67, wvH_68, wvH_69, sc_63, sc_n62, sc_n67, sc_n68, sc_n69, sc_n70, reduceIte, Nat.reduceEqDiff, eq_self, up_up, up_self, up_ne, ne_eq, not_false_eq_true, Int.reduceEq, Int.reduceNeg, se_aI, se_aJ]; omega))
    · obtain rfl : i = 256 := by omega
      have r : kthW (hI g 48) k = -1 := i3
      rw [r] at h2
      repeat' (first | apply And.intro | (with_reducible assumption) | (intro h9; first | (exfalso; omega) | (simp only [rI_rI, rJ_rJ, hI_rI, hJ_rI, hI_rJ, hJ_rJ, hI_rR, hR_rI, hR_rJ, hN_rI, hN_rJ, svH_63, svH_66, rfH_63, wvH_63, wvH_62, wvH_67, wvH_68, wvH_69, sc_63, sc_n62, sc_n67, sc_n68, sc_n69, sc_n70, reduceIte, Nat.reduceEqDiff, eq_self, up_up, up_self, up_ne, ne_eq, not_false_eq_true, Int.reduceEq, Int.reduceNeg, se_aI, se_aJ] at h9; first | (exfalso; omega) | skip) | skip) | exact h2 | exact h2 | exact h2 (by omega) | omega | exact True.intro | (simp only [rI_rI, rJ_rJ, hI_rI, hJ_rI, hI_rJ, hJ_rJ, hI_rR, hR_rI, hR_rJ, hN_rI, hN_rJ, svH_63, svH_66, rfH_63, wvH_63, wvH_62, wvH_67, wvH_68, wvH_69, sc_63, sc_n62, sc_n67, sc_n68, sc_n69, sc_n70, reduceIte, Nat.reduceEqDiff, eq_self, up_up, up_self, up_ne, ne_eq, not_false_eq_true, Int.reduceEq, Int.reduceNeg, se_aI, se_aJ]; omega))
theorem m_X5_collectedWord : MM 114 s_X5_collectedWord := mm_of (own := 4) (by rfl) k_X5_collectedWord (cl := []) trivial o_X5_collectedWord

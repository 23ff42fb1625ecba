/-! ===== the reference: constraints, levels, wishes, the text ===== -/
theorem x62_66 (h : Hp) (A B C : Int → Int) : rI (rI (rI h 62 A) 66 B) 62 C = rI (rI h 66 B) 62 C := by rw [rI_comm h (by decide : (62 : Nat) ≠ 66), rI_rI]
def reqW (w : Int → Int) (n : Int) : Int → Int := up (up (up w (291 + w 290) n) (311 + w 290) (w 331)) 290 (w 290 + 1)
def s_X10_require : CS := (zc 3, ap [(3, 62), (0, 0)] (fun n h Rt X =>
(0 ≤ hI h 62 3 ∧ hI h 62 3 ≤ 5) ∧ WF (hI h 63) ∧ (¬ (0 ≤ n ∧ n < hI h 63 0) → Rt (some (.inl 0)) (rfH h 1)) ∧ (0 ≤ n ∧ n < hI h 63 0 → nd (hI h 63) n 1 ≠ 1 → Rt (some (.inl 0)) (rfH h 2)) ∧ (0 ≤ n ∧ n < hI h 63 0 → nd (hI h 63) n 1 = 1 → hI h 63 290 = 20 → Rt (some (.inl 0)) (rfH h 3)) ∧
(0 ≤ n ∧ n < hI h 63 0 → nd (hI h 63) n 1 = 1 → hI h 63 290 ≠ 20 → Rt (some (.inl (hI h 63 290))) (rI (svH (rfH h 0)) 63 (reqW (hI h 63) n)))))
set_option maxRecDepth 100000 in
set_option maxHeartbeats 4000000 in
theorem o_X10_require : Obl true 1 4 (sp [(199, s_X10_isNode), (198, s_X10_width), (191, s_X10_refused), (194, s_X10_saves)]) [] code_X10_require s_X10_require := by
  refine obl0 (by rfl) ?_
  intro n r_n h Rt X hh hf hs
  obtain ⟨⟨a1, a2⟩, h1, h2, h3, h4, h5⟩ := hs
  have nn := h1.nn
  have cc := h1.cn
  have e1 : hI h 63 290 ≠ 20 → up (hI h 63) (291 + hI h 63 290) n 331 = hI h 63 331 := fun z => up_ne (by omega)
  have e2 : hI h 63 290 ≠ 20 → ∀ x, up (up (hI h 63) (291 + hI h 63 290) n) (311 + hI h 63 290) x 290 = hI h 63 290 := fun z x => by rw [up_ne (by omega), up_ne (by omega)]
  by_cases c : 0 ≤ n ∧ n < hI h 63 0
  · by_cases d : nd (hI h 63) n 1 = 1
    · by_cases e : hI h 63 290 = 20
      · repeat' (first | apply And.intro | (with_reducible assumption) | (intro h9; first | (exfalso; omega) | (simp only [rI_rI, rJ_rJ, hI_rI, hJ_rI, hI_rJ, hJ_rJ, hR_rI, hR_rJ, hN_rI, hN_rJ, svH_63, svH_66, rfH_63, wvH_63, wvH_62, wvH_67, wvH_68, wvH_69, sc_63, sc_n62, sc_n67, sc_n68, sc_n69, sc_n70, reduceIte, Nat.reduceEqDiff, eq_self, up_up, up_self, up_ne, ne_eq, not_false_eq_true, Int.reduceEq, Int.reduceNeg] at h9; first | (exfalso; omega) | skip) | skip) | exact h4 c d e | exact h1 | exact h1 (by omega) | exact h2 | exact h2 (by omega) | exact h3 | exact h3 (by omega) | exact h4 | exact h4 (by omega) | exact h5 | exact h5 (by omega) | omega | exact True.intro | (simp only [rI_rI, rJ_rJ, hI_rI, hJ_rI, hI_rJ, hJ_rJ, hR_rI, hR_rJ, hN_rI, hN_rJ, svH_63, svH_66, rfH_63, wvH_63, wvH_62, wvH_67, wvH_68, wvH_69, sc_63, sc_n62, sc_n67, sc_n68, sc_n69, sc_n70, reduceIte, Nat.reduceEqDiff, eq_self, up_up, up_self, up_ne, ne_eq, not_false_eq_true, Int.reduceEq, Int.reduceNeg]; omega))
      · have k5 := h5 c d e
        unfold reqW at k5
        rw [← e1 e] at k5
        rw [show hI h 63 290 + 1 = up (up (hI h 63) (291 + hI h 63 290) n) (311 + hI h 63 290) (up (hI h 63) (291 + hI h 63 290) n 331) 290 + 1 by rw [e2 e]] at k5
        have f2 := e2 e (up (hI h 63) (291 + hI h 63 290) n 331)
        repeat' (first | apply And.intro | (with_reducible assumption) | (intro h9; first | (exfalso; omega) | (simp only [rI_rI, rJ_rJ, hI_rI, hJ_rI, hI_rJ, hJ_rJ, hR_rI, hR_rJ, hN_rI, hN_rJ, svH_63, svH_66, rfH_63, wvH_63, wvH_62, wvH_67, wvH_68, wvH_69, sc_63, sc_n62, sc_n67, sc_n68, sc_n69, sc_n70, reduceIte, Nat.reduceEqDiff, eq_self, up_up, up_self, up_ne, ne_eq, not_false_eq_true, Int.reduceEq, Int.reduceNeg] at h9; first | (exfalso; omega) | skip) | skip) | (refine rt_eq (Rt := Rt) k5 rfl ?_; simp only [rI_rI, rJ_rJ, hI_rI, hJ_rI, hI_rJ, hJ_rJ, hR_rI, hR_rJ, hN_rI, hN_rJ, svH_63, svH_66, rfH_63, wvH_63, wvH_62, wvH_67, wvH_68, wvH_69, sc_63, sc_n62, sc_n67, sc_n68, sc_n69, sc_n70, reduceIte, Nat.reduceEqDiff, eq_self, up_up, up_self, up_ne, ne_eq, not_false_eq_true, Int.reduceEq, Int.reduceNeg] <;> rfl) | exact h1 | exact h1 (by omega) | exact h2 | exact h2 (by omega) | exact h3 | exact h3 (by omega) | exact h4 | exact h4 (by omega) | exact h5 | exact h5 (by omega) | omega | exact True.intro | (simp only [rI_rI, rJ_rJ, hI_rI, hJ_rI, hI_rJ, hJ_rJ, hR_rI, hR_rJ, hN_rI, hN_rJ, svH_63, svH_66, rfH_63, wvH_63, wvH_62, wvH_67, wvH_68, wvH_69, sc_63, sc_n62, sc_n67, sc_n68, sc_n69, sc_n70, reduceIte, Nat.reduceEqDiff, eq_self, up_up, up_self, up_ne, ne_eq, not_false_eq_true, Int.reduceEq, Int.reduceNeg]; omega))
    · repeat' (first | apply And.intro | (with_reducible assumption) | (intro h9; first | (exfalso; omega) | (simp only [rI_rI, rJ_rJ, hI_rI, hJ_rI, hI_rJ, hJ_rJ, hR_rI, hR_rJ, hN_rI, hN_rJ, svH_63, svH_66, rfH_63, wvH_63, wvH_62, wvH_67, wvH_68, wvH_69, sc_63, sc_n62, sc_n67, sc_n68, sc_n69, sc_n70, reduceIte, Nat.reduceEqDiff, eq_self, up_up, up_self, up_ne, ne_eq, not_false_eq_true, Int.reduceEq, Int.reduceNeg] at h9; first | (exfalso; omega) | skip) | skip) | exact h3 c d | exact h1 | exact h1 (by omega) | exact h2 | exact h2 (by omega) | exact h3 | exact h3 (by omega) | exact h4 | exact h4 (by omega) | exact h5 | exact h5 (by omega) | omega | exact True.intro | (simp only [rI_rI, rJ_rJ, hI_rI, hJ_rI, hI_rJ, hJ_rJ, hR_rI, hR_rJ, hN_rI, hN_rJ, svH_63, svH_66, rfH_63, wvH_63, wvH_62, wvH_67, wvH_68, wvH_69, sc_63, sc_n62, sc_n67, sc_n68, sc_n69, sc_n70, reduceIte, Nat.reduceEqDiff, eq_self, up_up, up_self, up_ne, ne_eq, not_false_eq_true, Int.reduceEq, Int.reduceNeg]; omega))
  · repeat' (first | apply And.intro | (with_reducible assumption) | (intro h9; first | (exfalso; omega) | (simp only [rI_rI, rJ_rJ, hI_rI, hJ_rI, hI_rJ, hJ_rJ, hR_rI, hR_rJ, hN_rI, hN_rJ, svH_63, svH_66, rfH_63, wvH_63, wvH_62, wvH_67, wvH_68, wvH_69, sc_63, sc_n62, sc_n67, sc_n68, sc_n69, sc_n70, reduceIte, Nat.reduceEqDiff, eq_self, up_up, up_self, up_ne, ne_eq, not_false_eq_true, Int.reduceEq, Int.reduceNeg] at h9; first | (exfalso; omega) | skip) | skip) | exact h2 c | exact h1 | exact h1 (by omega) | exact h2 | exact h2 (by omega) | exact h3 | exact h3 (by omega) | exact h4 | exact h4 (by omega) | exact h5 | exact h5 (by omega) | omega | exact True.intro | (simp only [rI_rI, rJ_rJ, hI_rI, hJ_rI, hI_rJ, hJ_rJ, hR_rI, hR_rJ, hN_rI, hN_rJ, svH_63, svH_66, rfH_63, wvH_63, wvH_62, wvH_67, wvH_68, wvH_69, sc_63, sc_n62, sc_n67, sc_n68, sc_n69, sc_n70, reduceIte, Nat.reduceEqDiff, eq_self, up_up, up_self, up_ne, ne_eq, not_false_eq_true, Int.reduceEq, Int.reduceNeg]; omega))
theorem m_X10_require : MM 232 s_X10_require := mm_of (own := 9) (by rfl) k_X10_require (cl := [(199, s_X10_isNode), (198, s_X10_width), (191, s_X10_refused), (194, s_X10_saves)]) ⟨m_X10_isNode, m_X10_width, m_X10_refused, m_X10_saves, trivial⟩ o_X10_require
def s_X10_push : CS := (zc 2, ap [(3, 62)] (fun  h Rt X =>
(0 ≤ hI h 62 3 ∧ hI h 62 3 ≤ 5) ∧ WF (hI h 63) ∧ (hI h 63 331 = 5 → Rt (some (.inl 0)) (rfH h 1)) ∧ (hI h 63 331 ≠ 5 → Rt (some (.inl (hI h 63 331 + 1))) (rI (svH (rfH h 0)) 63 (up (hI h 63) 331 (hI h 63 331 + 1))))))
set_option maxRecDepth 100000 in
set_option maxHeartbeats 4000000 in
theorem o_X10_push : Obl true 1 1 (sp [(191, s_X10_refused), (194, s_X10_saves)]) [] code_X10_push s_X10_push := by
  refine obl0 (by rfl) ?_
  intro  h Rt X hh hf hs
  obtain ⟨⟨a1, a2⟩, h1, h2, h3⟩ := hs
  have ll := h1.lev
  by_cases c : hI h 63 331 = 5
  · repeat' (first | apply And.intro | (with_reducible assumption) | (intro h9; first | (exfalso; omega) | (simp only [rI_rI, rJ_rJ, hI_rI, hJ_rI, hI_rJ, hJ_rJ, hR_rI, hR_rJ, hN_rI, hN_rJ, svH_63, svH_66, rfH_63, wvH_63, wvH_62, wvH_67, wvH_68, wvH_69, sc_63, sc_n62, sc_n67, sc_n68, sc_n69, sc_n70, reduceIte, Nat.reduceEqDiff, eq_self, up_up, up_self, up_ne, ne_eq, not_false_eq_true, Int.reduceEq, Int.reduceNeg] at h9; first | (exfalso; omega) | skip) | skip) | exact h2 c | exact h1 | exact h1 (by omega) | exact h2 | exact h2 (by omega) | exact h3 | exact h3 (by omega) | omega | exact True.intro | (simp only [rI_rI, rJ_rJ, hI_rI, hJ_rI, hI_rJ, hJ_rJ, hR_rI, hR_rJ, hN_rI, hN_rJ, svH_63, svH_66, rfH_63, wvH_63, wvH_62, wvH_67, wvH_68, wvH_69, sc_63, sc_n62, sc_n67, sc_n68, sc_n69, sc_n70, reduceIte, Nat.reduceEqDiff, eq_self, up_up, up_self, up_ne, ne_eq, not_false_eq_true, Int.reduceEq, Int.reduceNeg]; omega))
  · have k3 := h3 c
    repeat' (first | apply And.intro | (with_reducible assumption) | (intro h9; first | (exfalso; omega) | (simp only [rI_rI, rJ_rJ, hI_rI, hJ_rI, hI_rJ, hJ_rJ, hR_rI, hR_rJ, hN_rI, hN_rJ, svH_63, svH_66, rfH_63, wvH_63, wvH_62, wvH_67, wvH_68, wvH_69, sc_63, sc_n62, sc_n67, sc_n68, sc_n69, sc_n70, reduceIte, Nat.reduceEqDiff, eq_self, up_up, up_self, up_ne, ne_eq, not_false_eq_true, Int.reduceEq, Int.reduceNeg] at h9; first | (exfalso; omega) | skip) | skip) | exact k3 | exact h1 | exact h1 (by omega) | exact h2 | exact h2 (by omega) | exact h3 | exact h3 (by omega) | omega | exact True.intro | (simp only [rI_rI, rJ_rJ, hI_rI, hJ_rI, hI_rJ, hJ_rJ, hR_rI, hR_rJ, hN_rI, hN_rJ, svH_63, svH_66, rfH_63, wvH_63, wvH_62, wvH_67, wvH_68, wvH_69, sc_63, sc_n62, sc_n67, sc_n68, sc_n69, sc_n70, reduceIte, Nat.reduceEqDiff, eq_self, up_up, up_self, up_ne, ne_eq, not_false_eq_true, Int.reduceEq, Int.reduceNeg]; omega))
def lft (w : Int → Int) : Nat → Int
  | 0 => 0
  | k + 1 => if w (311 + (k : Int)) = w 331 then lft w k else (k : Int) + 1
theorem lft_s (w : Int → Int) (k : Nat) : lft w (k + 1) = if w (311 + (k : Int)) = w 331 then lft w k else (k : Int) + 1 := rfl
theorem lft_le (w : Int → Int) : ∀ k : Nat, 0 ≤ lft w k ∧ lft w k ≤ k := by
  intro k
  induction k with
  | zero => exact ⟨Int.le_refl _, Int.le_refl _⟩
  | succ k ih => rw [lft_s]; split <;> omega
def popW (w : Int → Int) : Int → Int := up (up w 290 (lft w (w 290).toNat)) 331 (w 331 - 1)
theorem m_X10_push : MM 233 s_X10_push := mm_of (own := 9) (by rfl) k_X10_push (cl := [(191, s_X10_refused), (194, s_X10_saves)]) ⟨m_X10_refused, m_X10_saves, trivial⟩ o_X10_push
def s_X10_pop : CS := (zc 2, ap [(3, 62)] (fun  h Rt X =>
(0 ≤ hI h 62 3 ∧ hI h 62 3 ≤ 5) ∧ WF (hI h 63) ∧ (hI h 63 331 = 0 → Rt (some (.inl 0)) (rfH h 1)) ∧ (hI h 63 331 ≠ 0 → Rt (some (.inl (hI h 63 290 - lft (hI h 63) (hI h 63 290).toNat))) (rI (svH (rfH h 0)) 63 (popW (hI h 63))))))
set_option maxRecDepth 100000 in
set_option maxHeartbeats 4000000 in
theorem o_X10_pop : Obl true 1 2 (sp [(191, s_X10_refused), (194, s_X10_saves)]) [] code_X10_pop s_X10_pop := by
  refine oblL (by rfl) [(31, [0, 1])] ?_
  intro  h Rt X hh hf hs
  obtain ⟨⟨a1, a2⟩, h1, h2, h3⟩ := hs
  have ll := h1.lev
  have cc := h1.cn
  by_cases c : hI h 63 331 = 0
  · refine ⟨fun k pc vs q => False, ?_, ?_⟩
    · repeat' (first | apply And.intro | (with_reducible assumption) | (intro h9; first | (exfalso; omega) | (simp only [rI_rI, rJ_rJ, hI_rI, hJ_rI, hI_rJ, hJ_rJ, hR_rI, hR_rJ, hN_rI, hN_rJ, svH_63, svH_66, rfH_63, wvH_63, wvH_62, wvH_67, wvH_68, wvH_69, sc_63, sc_n62, sc_n67, sc_n68, sc_n69, sc_n70, reduceIte, Nat.reduceEqDiff, eq_self, up_up, up_self, up_ne, ne_eq, not_false_eq_true, Int.reduceEq, Int.reduceNeg] at h9; first | (exfalso; omega) | skip) | skip) | exact h2 c | exact h1 | exact h1 (by omega) | exact h2 | exact h2 (by omega) | exact h3 | exact h3 (by omega) | omega | exact True.intro | (simp only [rI_rI, rJ_rJ, hI_rI, hJ_rI, hI_rJ, hJ_rJ, hR_rI, hR_rJ, hN_rI, hN_rJ, svH_63, svH_66, rfH_63, wvH_63, wvH_62, wvH_67, wvH_68, wvH_69, sc_63, sc_n62, sc_n67, sc_n68, sc_n69, sc_n70, reduceIte, Nat.reduceEqDiff, eq_self, up_up, up_self, up_ne, ne_eq, not_false_eq_true, Int.reduceEq, Int.reduceNeg]; omega))
    · intro k pc live vs q hl hq; exact hq.elim
  · refine ⟨fun k pc vs g => ∃ (x i : Int), g = rI (svH (rfH h 0)) 63 (up (hI h 63) 290 i) ∧ vs = [.inr (.inr (some 62)), .inl x] ∧ 0 ≤ i ∧ i ≤ hI h 63 290 ∧ x = hI h 63 290 - i ∧ lft (hI h 63) i.toNat = lft (hI h 63) (hI h 63 290).toNat ∧ k = i.toNat, ?_, ?_⟩
    · have e : svH (rI h 62 (up (hI h 62) 4 0)) = rI (svH (rfH h 0)) 63 (up (hI h 63) 290 (hI h 63 290)) := by
        rw [up_id]
        exact (rI_id (svH (rfH h 0)) 63).symm
      repeat' (first | apply And.intro | (with_reducible assumption) | (intro h9; first | (exfalso; omega) | (simp only [rI_rI, rJ_rJ, hI_rI, hJ_rI, hI_rJ, hJ_rJ, hR_rI, hR_rJ, hN_rI, hN_rJ, svH_63, svH_66, rfH_63, wvH_63, wvH_62, wvH_67, wvH_68, wvH_69, sc_63, sc_n62, sc_n67, sc_n68, sc_n69, sc_n70, reduceIte, Nat.reduceEqDiff, eq_self, up_up, up_self, up_ne, ne_eq, not_false_eq_true, Int.reduceEq, Int.reduceNeg] at h9; first | (exfalso; omega) | skip) | skip) | exact Exists.intro _ ⟨0, hI h 63 290, e, rfl, by omega, by omega, by omega, rfl, rfl⟩ | exact h1 | exact h1 (by omega) | exact h2 | exact h2 (by omega) | exact h3 | exact h3 (by omega) | omega | exact True.intro | (simp only [rI_rI, rJ_rJ, hI_rI, hJ_rI, hI_rJ, hJ_rJ, hR_rI, hR_rJ, hN_rI, hN_rJ, svH_63, svH_66, rfH_63, wvH_63, wvH_62, wvH_67, wvH_68, wvH_69, sc_63, sc_n62, sc_n67, sc_n68, sc_n69, sc_n70, reduceIte, Nat.reduceEqDiff, eq_self, up_up, up_self, up_ne, ne_eq, not_false_eq_true, Int.reduceEq, Int.reduceNeg]; omega))
    · rintro k pc live vs g hl ⟨x, i, rfl, rfl, i1, i2, rfl, i4, rfl⟩ hv hh1 hf1
      obtain ⟨rfl, rfl⟩ := look1 hl
      have k3 := h3 c
      unfold popW at k3
      rw [← i4] at k3
      have g1 : hI (rI (svH (rfH h 0)) 63 (up (hI h 63) 290 i)) 63 290 = i := by show up (hI h 63) 290 i 290 = i; exact up_self _ _ _
      have g2 : hI (rI (svH (rfH h 0)) 63 (up (hI h 63) 290 i)) 63 331 = hI h 63 331 := by show up (hI h 63) 290 i 331 = _; exact up_ne (by decide)
      by_cases z : 0 < i
      · have g3 : hI (rI (svH (rfH h 0)) 63 (up (hI h 63) 290 i)) 63 (311 + hI (rI (svH (rfH h 0)) 63 (up (hI h 63) 290 i)) 63 290 - 1) = hI h 63 (311 + (i - 1)) := by
          rw [g1]
          show up (hI h 63) 290 i (311 + i - 1) = _
          rw [up_ne (by omega)]
          congr 1
          omega
        have e := lft_s (hI h 63) (i - 1).toNat
        rw [show (i - 1).toNat + 1 = i.toNat by omega, show (((i - 1).toNat : Nat) : Int) = i - 1 by omega] at e
        by_cases y : hI h 63 (311 + (i - 1)) = hI h 63 331
        · rw [if_pos y] at e
          repeat' (first | apply And.intro | (with_reducible assumption) | (intro h9; first | (exfalso; omega) | (simp only [rI_rI, rJ_rJ, hI_rI, hJ_rI, hI_rJ, hJ_rJ, hR_rI, hR_rJ, hN_rI, hN_rJ, svH_63, svH_66, rfH_63, wvH_63, wvH_62, wvH_67, wvH_68, wvH_69, sc_63, sc_n62, sc_n67, sc_n68, sc_n69, sc_n70, reduceIte, Nat.reduceEqDiff, eq_self, up_up, up_self, up_ne, ne_eq, not_false_eq_true, Int.reduceEq, Int.reduceNeg] at h9; first | (exfalso; omega) | skip) | skip) | exact Exists.intro _ ⟨by omega, _, i - 1, (by rw [rI_rI, g1]; show rI _ 63 (up (up (hI h 63) 290 i) 290 (i - 1)) = _; rw [up_up]), rfl, by omega, by omega, by omega, by rw [← e]; exact i4, rfl⟩ | exact h1 | exact h1 (by omega) | exact h2 | exact h2 (by omega) | exact h3 | exact h3 (by omega) | omega | exact True.intro | (simp only [rI_rI, rJ_rJ, hI_rI, hJ_rI, hI_rJ, hJ_rJ, hR_rI, hR_rJ, hN_rI, hN_rJ, svH_63, svH_66, rfH_63, wvH_63, wvH_62, wvH_67, wvH_68, wvH_69, sc_63, sc_n62, sc_n67, sc_n68, sc_n69, sc_n70, reduceIte, Nat.reduceEqDiff, eq_self, up_up, up_self, up_ne, ne_eq, not_false_eq_true, Int.reduceEq, Int.reduceNeg]; omega))
        · rw [if_neg y, show i - 1 + 1 = i by omega] at e
          rw [e] at k3
          repeat' (first | apply And.intro | (with_reducible assumption) | (intro h9; first | (exfalso; omega) | (simp only [rI_rI, rJ_rJ, hI_rI, hJ_rI, hI_rJ, hJ_rJ, hR_rI, hR_rJ, hN_rI, hN_rJ, svH_63, svH_66, rfH_63, wvH_63, wvH_62, wvH_67, wvH_68, wvH_69, sc_63, sc_n62, sc_n67, sc_n68, sc_n69, sc_n70, reduceIte, Nat.reduceEqDiff, eq_self, up_up, up_self, up_ne, ne_eq, not_false_eq_true, Int.reduceEq, Int.reduceNeg] at h9; first | (exfalso; omega) | skip) | skip) | (refine rt_eq (Rt := Rt) k3 rfl ?_; rw [rI_rI, g2] <;> rfl) | exact h1 | exact h1 (by omega) | exact h2 | exact h2 (by omega) | exact h3 | exact h3 (by omega) | omega | exact True.intro | (simp only [rI_rI, rJ_rJ, hI_rI, hJ_rI, hI_rJ, hJ_rJ, hR_rI, hR_rJ, hN_rI, hN_rJ, svH_63, svH_66, rfH_63, wvH_63, wvH_62, wvH_67, wvH_68, wvH_69, sc_63, sc_n62, sc_n67, sc_n68, sc_n69, sc_n70, reduceIte, Nat.reduceEqDiff, eq_self, up_up, up_self, up_ne, ne_eq, not_false_eq_true, Int.reduceEq, Int.reduceNeg]; omega))
      · obtain rfl : i = 0 := by omega
        repeat' (first | apply And.intro | (with_reducible assumption) | (intro h9; first | (exfalso; omega) | (simp only [rI_rI, rJ_rJ, hI_rI, hJ_rI, hI_rJ, hJ_rJ, hR_rI, hR_rJ, hN_rI, hN_rJ, svH_63, svH_66, rfH_63, wvH_63, wvH_62, wvH_67, wvH_68, wvH_69, sc_63, sc_n62, sc_n67, sc_n68, sc_n69, sc_n70, reduceIte, Nat.reduceEqDiff, eq_self, up_up, up_self, up_ne, ne_eq, not_false_eq_true, Int.reduceEq, Int.reduceNeg] at h9; first | (exfalso; omega) | skip) | skip) | (refine rt_eq (Rt := Rt) k3 rfl ?_; rw [rI_rI, g2] <;> rfl) | exact h1 | exact h1 (by omega) | exact h2 | exact h2 (by omega) | exact h3 | exact h3 (by omega) | omega | exact True.intro | (simp only [rI_rI, rJ_rJ, hI_rI, hJ_rI, hI_rJ, hJ_rJ, hR_rI, hR_rJ, hN_rI, hN_rJ, svH_63, svH_66, rfH_63, wvH_63, wvH_62, wvH_67, wvH_68, wvH_69, sc_63, sc_n62, sc_n67, sc_n68, sc_n69, sc_n70, reduceIte, Nat.reduceEqDiff, eq_self, up_up, up_self, up_ne, ne_eq, not_false_eq_true, Int.reduceEq, Int.reduceNeg]; omega))
theorem m_X10_pop : MM 234 s_X10_pop := mm_of (own := 9) (by rfl) k_X10_pop (cl := [(191, s_X10_refused), (194, s_X10_saves)]) ⟨m_X10_refused, m_X10_saves, trivial⟩ o_X10_pop
def s_X10_constraint : CS := (zc 2, ap [(3, 62), (0, 0), (0, 0)] (fun k g h Rt X =>
WF (hI h 63) ∧ (¬ (0 ≤ k ∧ k < hI h 63 290) → Rt (some (.inl 0)) (rfH h 1)) ∧ (0 ≤ k ∧ k < hI h 63 290 → g ≠ 0 → Rt (some (.inl (hI h 63 (311 + k)))) (rfH h 0)) ∧ (0 ≤ k ∧ k < hI h 63 290 → g = 0 → Rt (some (.inl (hI h 63 (291 + k)))) (rfH h 0))))
set_option maxRecDepth 100000 in
set_option maxHeartbeats 4000000 in
theorem o_X10_constraint : Obl true 1 3 (sp [(192, s_X10_within), (193, s_X10_need), (191, s_X10_refused)]) [] code_X10_constraint s_X10_constraint := by
  refine obl0 (by rfl) ?_
  intro k r_k g r_g h Rt X hh hf hs
  obtain ⟨h1, h2, h3, h4⟩ := hs
  have cc := h1.cn
  repeat' (first | apply And.intro | (with_reducible assumption) | (intro h9; first | (exfalso; omega) | (simp only [rI_rI, rJ_rJ, hI_rI, hJ_rI, hI_rJ, hJ_rJ, hR_rI, hR_rJ, hN_rI, hN_rJ, svH_63, svH_66, rfH_63, wvH_63, wvH_62, wvH_67, wvH_68, wvH_69, sc_63, sc_n62, sc_n67, sc_n68, sc_n69, sc_n70, reduceIte, Nat.reduceEqDiff, eq_self, up_up, up_self, up_ne, ne_eq, not_false_eq_true, Int.reduceEq, Int.reduceNeg] at h9; first | (exfalso; omega) | skip) | skip) | exact h2 (by omega) | exact h3 (by omega) (by omega) | exact h4 (by omega) (by omega) | exact h1 | exact h1 (by omega) | exact h2 | exact h2 (by omega) | exact h3 | exact h3 (by omega) | exact h4 | exact h4 (by omega) | omega | exact True.intro | (simp only [rI_rI, rJ_rJ, hI_rI, hJ_rI, hI_rJ, hJ_rJ, hR_rI, hR_rJ, hN_rI, hN_rJ, svH_63, svH_66, rfH_63, wvH_63, wvH_62, wvH_67, wvH_68, wvH_69, sc_63, sc_n62, sc_n67, sc_n68, sc_n69, sc_n70, reduceIte, Nat.reduceEqDiff, eq_self, up_up, up_self, up_ne, ne_eq, not_false_eq_true, Int.reduceEq, Int.reduceNeg]; omega))
def wishW (w : Int → Int) (n x : Int) : Int → Int := up (up (up w (333 + w 332) n) (341 + w 332) x) 332 (w 332 + 1)
theorem m_X10_constraint : MM 236 s_X10_constraint := mm_of (own := 9) (by rfl) k_X10_constraint (cl := [(192, s_X10_within), (193, s_X10_need), (191, s_X10_refused)]) ⟨m_X10_within, m_X10_need, m_X10_refused, trivial⟩ o_X10_constraint
def s_X10_wish : CS := (zc 3, ap [(3, 62), (0, 0), (0, 0)] (fun n x h Rt X =>
(0 ≤ hI h 62 3 ∧ hI h 62 3 ≤ 5) ∧ WF (hI h 63) ∧ (¬ (0 ≤ n ∧ n < hI h 63 0) → Rt (some (.inl 0)) (rfH h 1)) ∧ (0 ≤ n ∧ n < hI h 63 0 → ¬ (nd (hI h 63) n 1 = 1 ∧ 1 ≤ x ∧ x ≤ 9) → Rt (some (.inl 0)) (rfH h 2)) ∧ (0 ≤ n ∧ n < hI h 63 0 → nd (hI h 63) n 1 = 1 ∧ 1 ≤ x ∧ x ≤ 9 → hI h 63 332 = 8 → Rt (some (.inl 0)) (rfH h 3)) ∧
(0 ≤ n ∧ n < hI h 63 0 → nd (hI h 63) n 1 = 1 ∧ 1 ≤ x ∧ x ≤ 9 → hI h 63 332 ≠ 8 → Rt (some (.inl (hI h 63 332 + 1))) (rI (svH (rfH h 0)) 63 (wishW (hI h 63) n x)))))
set_option maxRecDepth 100000 in
set_option maxHeartbeats 4000000 in
theorem o_X10_wish : Obl true 1 4 (sp [(199, s_X10_isNode), (198, s_X10_width), (192, s_X10_within), (191, s_X10_refused), (194, s_X10_saves)]) [] code_X10_wish s_X10_wish := by
  refine obl0 (by rfl) ?_
  intro n r_n x r_x h Rt X hh hf hs
  obtain ⟨⟨a1, a2⟩, h1, h2, h3, h4, h5⟩ := hs
  have nn := h1.nn
  have cc := h1.wn
  by_cases c : 0 ≤ n ∧ n < hI h 63 0
  · by_cases d : nd (hI h 63) n 1 = 1 ∧ 1 ≤ x ∧ x ≤ 9
    · by_cases e : hI h 63 332 = 8
      · repeat' (first | apply And.intro | (with_reducible assumption) | (intro h9; first | (exfalso; omega) | (simp only [rI_rI, rJ_rJ, hI_rI, hJ_rI, hI_rJ, hJ_rJ, hR_rI, hR_rJ, hN_rI, hN_rJ, svH_63, svH_66, rfH_63, wvH_63, wvH_62, wvH_67, wvH_68, wvH_69, sc_63, sc_n62, sc_n67, sc_n68, sc_n69, sc_n70, reduceIte, Nat.reduceEqDiff, eq_self, up_up, up_self, up_ne, ne_eq, not_false_eq_true, Int.reduceEq, Int.reduceNeg] at h9; first | (exfalso; omega) | skip) | skip) | exact h4 c d e | exact h1 | exact h1 (by omega) | exact h2 | exact h2 (by omega) | exact h3 | exact h3 (by omega) | exact h4 | exact h4 (by omega) | exact h5 | exact h5 (by omega) | omega | exact True.intro | (simp only [rI_rI, rJ_rJ, hI_rI, hJ_rI, hI_rJ, hJ_rJ, hR_rI, hR_rJ, hN_rI, hN_rJ, svH_63, svH_66, rfH_63, wvH_63, wvH_62, wvH_67, wvH_68, wvH_69, sc_63, sc_n62, sc_n67, sc_n68, sc_n69, sc_n70, reduceIte, Nat.reduceEqDiff, eq_self, up_up, up_self, up_ne, ne_eq, not_false_eq_true, Int.reduceEq, Int.reduceNeg]; omega))
      · have k5 := h5 c d e
        unfold wishW at k5
        have e1 : up (hI h 63) (333 + hI h 63 332) n 332 = hI h 63 332 := up_ne (by omega)
        have e2 : up (up (hI h 63) (333 + hI h 63 332) n) (341 + hI h 63 332) x 332 = hI h 63 332 := by rw [up_ne (by omega), e1]
        repeat' (first | apply And.intro | (with_reducible assumption) | (intro h9; first | (exfalso; omega) | (simp only [rI_rI, rJ_rJ, hI_rI, hJ_rI, hI_rJ, hJ_rJ, hR_rI, hR_rJ, hN_rI, hN_rJ, svH_63, svH_66, rfH_63, wvH_63, wvH_62, wvH_67, wvH_68, wvH_69, sc_63, sc_n62, sc_n67, sc_n68, sc_n69, sc_n70, reduceIte, Nat.reduceEqDiff, eq_self, up_up, up_self, up_ne, ne_eq, not_false_eq_true, Int.reduceEq, Int.reduceNeg] at h9; first | (exfalso; omega) | skip) | skip) | exact e1 ▸ (by omega : 0 ≤ 341 + hI h 63 332) | exact e1 ▸ (by omega : 341 + hI h 63 332 < 349) | (simp only [rI_rI, rJ_rJ, hI_rI, hJ_rI, hI_rJ, hJ_rJ, hR_rI, hR_rJ, hN_rI, hN_rJ, svH_63, svH_66, rfH_63, wvH_63, wvH_62, wvH_67, wvH_68, wvH_69, sc_63, sc_n62, sc_n67, sc_n68, sc_n69, sc_n70, reduceIte, Nat.reduceEqDiff, eq_self, up_up, up_self, up_ne, ne_eq, not_false_eq_true, Int.reduceEq, Int.reduceNeg]; rw [e1]; omega) | (simp only [rI_rI, rJ_rJ, hI_rI, hJ_rI, hI_rJ, hJ_rJ, hR_rI, hR_rJ, hN_rI, hN_rJ, svH_63, svH_66, rfH_63, wvH_63, wvH_62, wvH_67, wvH_68, wvH_69, sc_63, sc_n62, sc_n67, sc_n68, sc_n69, sc_n70, reduceIte, Nat.reduceEqDiff, eq_self, up_up, up_self, up_ne, ne_eq, not_false_eq_true, Int.reduceEq, Int.reduceNeg]; rw [e1, e2]; omega) | (simp only [rI_rI, rJ_rJ, hI_rI, hJ_rI, hI_rJ, hJ_rJ, hR_rI, hR_rJ, hN_rI, hN_rJ, svH_63, svH_66, rfH_63, wvH_63, wvH_62, wvH_67, wvH_68, wvH_69, sc_63, sc_n62, sc_n67, sc_n68, sc_n69, sc_n70, reduceIte, Nat.reduceEqDiff, eq_self, up_up, up_self, up_ne, ne_eq, not_false_eq_true, Int.reduceEq, Int.reduceNeg]; rw [e2]; omega) | (refine rt_eq (Rt := Rt) k5 ?_ ?_; (simp only [rI_rI, rJ_rJ, hI_rI, hJ_rI, hI_rJ, hJ_rJ, hR_rI, hR_rJ, hN_rI, hN_rJ, svH_63, svH_66, rfH_63, wvH_63, wvH_62, wvH_67, wvH_68, wvH_69, sc_63, sc_n62, sc_n67, sc_n68, sc_n69, sc_n70, reduceIte, Nat.reduceEqDiff, eq_self, up_up, up_self, up_ne, ne_eq, not_false_eq_true, Int.reduceEq, Int.reduceNeg]; rw [e1, e2]); (simp only [rI_rI, rJ_rJ, hI_rI, hJ_rI, hI_rJ, hJ_rJ, hR_rI, hR_rJ, hN_rI, hN_rJ, svH_63, svH_66, rfH_63, wvH_63, wvH_62, wvH_67, wvH_68, wvH_69, sc_63, sc_n62, sc_n67, sc_n68, sc_n69, sc_n70, reduceIte, Nat.reduceEqDiff, eq_self, up_up, up_self, up_ne, ne_eq, not_false_eq_true, Int.reduceEq, Int.reduceNeg]; rw [e1, e2]; rfl)) | exact h1 | exact h1 (by omega) | exact h2 | exact h2 (by omega) | exact h3 | exact h3 (by omega) | exact h4 | exact h4 (by omega) | exact h5 | exact h5 (by omega) | omega | exact True.intro | (simp only [rI_rI, rJ_rJ, hI_rI, hJ_rI, hI_rJ, hJ_rJ, hR_rI, hR_rJ, hN_rI, hN_rJ, svH_63, svH_66, rfH_63, wvH_63, wvH_62, wvH_67, wvH_68, wvH_69, sc_63, sc_n62, sc_n67, sc_n68, sc_n69, sc_n70, reduceIte, Nat.reduceEqDiff, eq_self, up_up, up_self, up_ne, ne_eq, not_false_eq_true, Int.reduceEq, Int.reduceNeg]; omega))
    · repeat' (first | apply And.intro | (with_reducible assumption) | (intro h9; first | (exfalso; omega) | (simp only [rI_rI, rJ_rJ, hI_rI, hJ_rI, hI_rJ, hJ_rJ, hR_rI, hR_rJ, hN_rI, hN_rJ, svH_63, svH_66, rfH_63, wvH_63, wvH_62, wvH_67, wvH_68, wvH_69, sc_63, sc_n62, sc_n67, sc_n68, sc_n69, sc_n70, reduceIte, Nat.reduceEqDiff, eq_self, up_up, up_self, up_ne, ne_eq, not_false_eq_true, Int.reduceEq, Int.reduceNeg] at h9; first | (exfalso; omega) | skip) | skip) | exact h3 c d | exact h1 | exact h1 (by omega) | exact h2 | exact h2 (by omega) | exact h3 | exact h3 (by omega) | exact h4 | exact h4 (by omega) | exact h5 | exact h5 (by omega) | omega | exact True.intro | (simp only [rI_rI, rJ_rJ, hI_rI, hJ_rI, hI_rJ, hJ_rJ, hR_rI, hR_rJ, hN_rI, hN_rJ, svH_63, svH_66, rfH_63, wvH_63, wvH_62, wvH_67, wvH_68, wvH_69, sc_63, sc_n62, sc_n67, sc_n68, sc_n69, sc_n70, reduceIte, Nat.reduceEqDiff, eq_self, up_up, up_self, up_ne, ne_eq, not_false_eq_true, Int.reduceEq, Int.reduceNeg]; omega))
  · repeat' (first | apply And.intro | (with_reducible assumption) | (intro h9; first | (exfalso; omega) | (simp only [rI_rI, rJ_rJ, hI_rI, hJ_rI, hI_rJ, hJ_rJ, hR_rI, hR_rJ, hN_rI, hN_rJ, svH_63, svH_66, rfH_63, wvH_63, wvH_62, wvH_67, wvH_68, wvH_69, sc_63, sc_n62, sc_n67, sc_n68, sc_n69, sc_n70, reduceIte, Nat.reduceEqDiff, eq_self, up_up, up_self, up_ne, ne_eq, not_false_eq_true, Int.reduceEq, Int.reduceNeg] at h9; first | (exfalso; omega) | skip) | skip) | exact h2 c | exact h1 | exact h1 (by omega) | exact h2 | exact h2 (by omega) | exact h3 | exact h3 (by omega) | exact h4 | exact h4 (by omega) | exact h5 | exact h5 (by omega) | omega | exact True.intro | (simp only [rI_rI, rJ_rJ, hI_rI, hJ_rI, hI_rJ, hJ_rJ, hR_rI, hR_rJ, hN_rI, hN_rJ, svH_63, svH_66, rfH_63, wvH_63, wvH_62, wvH_67, wvH_68, wvH_69, sc_63, sc_n62, sc_n67, sc_n68, sc_n69, sc_n70, reduceIte, Nat.reduceEqDiff, eq_self, up_up, up_self, up_ne, ne_eq, not_false_eq_true, Int.reduceEq, Int.reduceNeg]; omega))
theorem m_X10_wish : MM 255 s_X10_wish := mm_of (own := 9) (by rfl) k_X10_wish (cl := [(199, s_X10_isNode), (198, s_X10_width), (192, s_X10_within), (191, s_X10_refused), (194, s_X10_saves)]) ⟨m_X10_isNode, m_X10_width, m_X10_within, m_X10_refused, m_X10_saves, trivial⟩ o_X10_wish
def s_X10_clearWishes : CS := (zc 2, ap [(3, 62)] (fun  h Rt X =>
(0 ≤ hI h 62 3 ∧ hI h 62 3 ≤ 5) ∧ Rt (some (.inl (hI h 63 332))) (rI (svH (rfH h 0)) 63 (up (hI h 63) 332 0))))
set_option maxRecDepth 100000 in
set_option maxHeartbeats 4000000 in
theorem o_X10_clearWishes : Obl true 1 2 (sp [(194, s_X10_saves)]) [] code_X10_clearWishes s_X10_clearWishes := by
  refine obl0 (by rfl) ?_
  intro  h Rt X hh hf hs
  obtain ⟨⟨a1, a2⟩, h2⟩ := hs
  repeat' (first | apply And.intro | (with_reducible assumption) | (intro h9; first | (exfalso; omega) | (simp only [rI_rI, rJ_rJ, hI_rI, hJ_rI, hI_rJ, hJ_rJ, hR_rI, hR_rJ, hN_rI, hN_rJ, svH_63, svH_66, rfH_63, wvH_63, wvH_62, wvH_67, wvH_68, wvH_69, sc_63, sc_n62, sc_n67, sc_n68, sc_n69, sc_n70, reduceIte, Nat.reduceEqDiff, eq_self, up_up, up_self, up_ne, ne_eq, not_false_eq_true, Int.reduceEq, Int.reduceNeg] at h9; first | (exfalso; omega) | skip) | skip) | exact h2 | exact h2 (by omega) | omega | exact True.intro | (simp only [rI_rI, rJ_rJ, hI_rI, hJ_rI, hI_rJ, hJ_rJ, hR_rI, hR_rJ, hN_rI, hN_rJ, svH_63, svH_66, rfH_63, wvH_63, wvH_62, wvH_67, wvH_68, wvH_69, sc_63, sc_n62, sc_n67, sc_n68, sc_n69, sc_n70, reduceIte, Nat.reduceEqDiff, eq_self, up_up, up_self, up_ne, ne_eq, not_false_eq_true, Int.reduceEq, Int.reduceNeg]; omega))
theorem m_X10_clearWishes : MM 256 s_X10_clearWishes := mm_of (own := 9) (by rfl) k_X10_clearWishes (cl := [(194, s_X10_saves)]) ⟨m_X10_saves, trivial⟩ o_X10_clearWishes
def s_X10_append : CS := (zc 2, ap [(3, 62), (0, 0)] (fun c h Rt X =>
(0 ≤ hI h 62 6 ∧ hI h 62 6 ≤ 120) ∧ (¬ (32 ≤ c ∧ c ≤ 126) → Rt (some (.inl 0)) (rfH h 1)) ∧ (32 ≤ c ∧ c ≤ 126 → hI h 62 6 = 120 → Rt (some (.inl 0)) (rfH h 2)) ∧ (32 ≤ c ∧ c ≤ 126 → hI h 62 6 ≠ 120 → Rt (some (.inl (hI h 62 6 + 1))) (rI (rI h 66 (up (hI h 66) (hI h 62 6) c)) 62 (up (up (hI h 62) 4 0) 6 (hI h 62 6 + 1))))))
set_option maxRecDepth 100000 in
set_option maxHeartbeats 4000000 in
theorem o_X10_append : Obl true 1 2 (sp [(192, s_X10_within), (191, s_X10_refused)]) [] code_X10_append s_X10_append := by
  refine obl0 (by rfl) ?_
  intro c r_c h Rt X hh hf hs
  obtain ⟨⟨a1, a2⟩, h2, h3, h4⟩ := hs
  have e1 : ∀ x, hI (rI h 62 (up (hI h 62) 4 x)) 62 6 = hI h 62 6 := fun x => rfl
  have e2 : hI (rI (rI h 62 (up (hI h 62) 4 0)) 66 (up (hI (rI h 62 (up (hI h 62) 4 0)) 66) (hI (rI h 62 (up (hI h 62) 4 0)) 62 6) c)) 62 6 = hI h 62 6 := rfl
  have e3 := e1 0
  repeat' (first | apply And.intro | (with_reducible assumption) | (intro h9; first | (exfalso; omega) | (simp only [rI_rI, rJ_rJ, hI_rI, hJ_rI, hI_rJ, hJ_rJ, hR_rI, hR_rJ, hN_rI, hN_rJ, svH_63, svH_66, rfH_63, wvH_63, wvH_62, wvH_67, wvH_68, wvH_69, sc_63, sc_n62, sc_n67, sc_n68, sc_n69, sc_n70, reduceIte, Nat.reduceEqDiff, eq_self, up_up, up_self, up_ne, ne_eq, not_false_eq_true, Int.reduceEq, Int.reduceNeg] at h9; first | (exfalso; omega) | skip) | skip) | exact h2 (by omega) | exact h3 (by omega) (by omega) | exact rt_eq (Rt := Rt) (h4 (by omega) (by omega)) rfl (x62_66 h _ _ _).symm | exact h2 | exact h2 (by omega) | exact h3 | exact h3 (by omega) | exact h4 | exact h4 (by omega) | omega | exact True.intro | (simp only [rI_rI, rJ_rJ, hI_rI, hJ_rI, hI_rJ, hJ_rJ, hR_rI, hR_rJ, hN_rI, hN_rJ, svH_63, svH_66, rfH_63, wvH_63, wvH_62, wvH_67, wvH_68, wvH_69, sc_63, sc_n62, sc_n67, sc_n68, sc_n69, sc_n70, reduceIte, Nat.reduceEqDiff, eq_self, up_up, up_self, up_ne, ne_eq, not_false_eq_true, Int.reduceEq, Int.reduceNeg]; omega))
theorem m_X10_append : MM 260 s_X10_append := mm_of (own := 9) (by rfl) k_X10_append (cl := [(192, s_X10_within), (191, s_X10_refused)]) ⟨m_X10_within, m_X10_refused, trivial⟩ o_X10_append
def s_X10_clearText : CS := (zc 1, ap [(3, 62)] (fun  h Rt X =>
Rt (some (.inl (hI h 62 6))) (rI h 62 (up (up (hI h 62) 4 0) 6 0))))
set_option maxRecDepth 100000 in
set_option maxHeartbeats 4000000 in
theorem o_X10_clearText : Obl true 1 2 (sp []) [] code_X10_clearText s_X10_clearText := by
  refine obl0 (by rfl) ?_
  intro  h Rt X hh hf hs
  repeat' (first | apply And.intro | (with_reducible assumption) | (intro h9; first | (exfalso; omega) | (simp only [rI_rI, rJ_rJ, hI_rI, hJ_rI, hI_rJ, hJ_rJ, hR_rI, hR_rJ, hN_rI, hN_rJ, svH_63, svH_66, rfH_63, wvH_63, wvH_62, wvH_67, wvH_68, wvH_69, sc_63, sc_n62, sc_n67, sc_n68, sc_n69, sc_n70, reduceIte, Nat.reduceEqDiff, eq_self, up_up, up_self, up_ne, ne_eq, not_false_eq_true, Int.reduceEq, Int.reduceNeg] at h9; first | (exfalso; omega) | skip) | skip) | (refine rt_eq (Rt := Rt) hs rfl ?_; simp only [rI_rI, rJ_rJ, hI_rI, hJ_rI, hI_rJ, hJ_rJ, hR_rI, hR_rJ, hN_rI, hN_rJ, svH_63, svH_66, rfH_63, wvH_63, wvH_62, wvH_67, wvH_68, wvH_69, sc_63, sc_n62, sc_n67, sc_n68, sc_n69, sc_n70, reduceIte, Nat.reduceEqDiff, eq_self, up_up, up_self, up_ne, ne_eq, not_false_eq_true, Int.reduceEq, Int.reduceNeg]) | exact hs | omega | exact True.intro | (simp only [rI_rI, rJ_rJ, hI_rI, hJ_rI, hI_rJ, hJ_rJ, hR_rI, hR_rJ, hN_rI, hN_rJ, svH_63, svH_66, rfH_63, wvH_63, wvH_62, wvH_67, wvH_68, wvH_69, sc_63, sc_n62, sc_n67, sc_n68, sc_n69, sc_n70, reduceIte, Nat.reduceEqDiff, eq_self, up_up, up_self, up_ne, ne_eq, not_false_eq_true, Int.reduceEq, Int.reduceNeg]; omega))
theorem m_X10_clearText : MM 261 s_X10_clearText := mm_of (own := 9) (by rfl) k_X10_clearText (cl := []) trivial o_X10_clearText
def s_X10_character : CS := (zc 2, ap [(3, 62), (0, 0)] (fun i h Rt X =>
(0 ≤ hI h 62 6 ∧ hI h 62 6 ≤ 120) ∧ (¬ (0 ≤ i ∧ i < hI h 62 6) → Rt (some (.inl (-1))) (rfH h 0)) ∧ (0 ≤ i ∧ i < hI h 62 6 → Rt (some (.inl (hI h 66 i))) (rfH h 0))))
set_option maxRecDepth 100000 in
set_option maxHeartbeats 4000000 in
theorem o_X10_character : Obl true 1 2 (sp [(192, s_X10_within)]) [] code_X10_character s_X10_character := by
  refine obl0 (by rfl) ?_
  intro i r_i h Rt X hh hf hs
  obtain ⟨⟨a1, a2⟩, h2, h3⟩ := hs
  have e1 : hI (rI h 62 (up (hI h 62) 4 0)) 62 6 = hI h 62 6 := rfl
  repeat' (first | apply And.intro | (with_reducible assumption) | (intro h9; first | (exfalso; omega) | (simp only [rI_rI, rJ_rJ, hI_rI, hJ_rI, hI_rJ, hJ_rJ, hR_rI, hR_rJ, hN_rI, hN_rJ, svH_63, svH_66, rfH_63, wvH_63, wvH_62, wvH_67, wvH_68, wvH_69, sc_63, sc_n62, sc_n67, sc_n68, sc_n69, sc_n70, reduceIte, Nat.reduceEqDiff, eq_self, up_up, up_self, up_ne, ne_eq, not_false_eq_true, Int.reduceEq, Int.reduceNeg] at h9; first | (exfalso; omega) | skip) | skip) | exact h2 (by omega) | exact h3 (by omega) | exact h2 | exact h2 (by omega) | exact h3 | exact h3 (by omega) | omega | exact True.intro | (simp only [rI_rI, rJ_rJ, hI_rI, hJ_rI, hI_rJ, hJ_rJ, hR_rI, hR_rJ, hN_rI, hN_rJ, svH_63, svH_66, rfH_63, wvH_63, wvH_62, wvH_67, wvH_68, wvH_69, sc_63, sc_n62, sc_n67, sc_n68, sc_n69, sc_n70, reduceIte, Nat.reduceEqDiff, eq_self, up_up, up_self, up_ne, ne_eq, not_false_eq_true, Int.reduceEq, Int.reduceNeg]; omega))
theorem m_X10_character : MM 262 s_X10_character := mm_of (own := 9) (by rfl) k_X10_character (cl := [(192, s_X10_within)]) ⟨m_X10_within, trivial⟩ o_X10_character

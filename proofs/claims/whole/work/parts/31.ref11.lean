/-! ===== the reference: what is fulfilled, models ===== -/
theorem or_add {s v k : Int} (h0 : 0 ≤ k) (h1 : k < 20) (s0 : 0 ≤ s) (s1 : s < p2 k) (hv : v = 0 ∨ v = 1) : bOr s (sShl v k) = s + v * p2 k := by
  have e := p2_le20 (show k + 1 ≤ 20 by omega)
  rw [p2_succ h0] at e
  have hp := p2_pos k
  have e1 := p2_nat k
  rcases hv with rfl | rfl
  · rw [sShl_eq h0 (by omega) (by omega) (by omega), Int.zero_mul, bOr_pos s0 (by omega) (by omega) (by omega)]
    show ((s.toNat ||| 0 : Nat) : Int) = _
    rw [Nat.or_zero]
    omega
  · rw [sShl_eq h0 (by omega) (by omega) (by omega), Int.one_mul, bOr_pos s0 (by omega) (by omega) (by omega), Nat.or_comm]
    have e3 : (p2 k).toNat = 2 ^ k.toNat * 1 := by omega
    rw [e3, ← Nat.two_pow_add_eq_or_of_lt (by omega)]
    omega
theorem fulW_s (w : Int → Int) (N : Int) (k : Nat) : fulW w N (k + 1) = fulW w N k + vl w (asg w N) (w (291 + (k : Int))) * p2 k := rfl
theorem fulW_step {w : Int → Int} (h : WF w) {f : Int → Int} {N k : Int} (hf : Vls w (asg w N) f) (h0 : 0 ≤ k) (h1 : k < w 290) : bOr (fulW w N k.toNat) (sShl (f (w (291 + k))) k) = fulW w N (k + 1).toNat := by
  have a := fulW_rng h N k.toNat (by omega)
  have c := h.con h0 h1
  have d := con01 h N h0 h1
  have e : ((k.toNat : Nat) : Int) = k := by omega
  rw [e] at a
  have n := h.cn
  rw [hf.o _ c.1 c.2.1, or_add h0 (by omega) a.1 a.2 d, show (k + 1).toNat = k.toNat + 1 by omega, fulW_s, e]
theorem tot_sh {w : Int → Int} (h : WF w) : sShl 1 (sumW w (w 281).toNat) = tot w := by
  have a := h.s16
  have b := h.vn
  have c := sumW_le h.vz (j := 0) (w 281).toNat (by omega) (by omega)
  have e0 : sumW w 0 = 0 := rfl
  have d := tot_rng h
  unfold tot at d ⊢
  rw [sShl_eq (by omega) (by omega) (by omega) (by omega), Int.one_mul]
theorem Fz.up4 {F0 F : Int → Int} {x : Int} (h : Fz F0 F) : Fz (up F0 4 x) (up F 4 x) := by
  obtain ⟨a, b⟩ := h.o
  refine Box.i ⟨a, fun j h1 h2 => ?_⟩
  unfold up
  by_cases e : j = 4
  · rw [if_pos e, if_pos e]
  · rw [if_neg e, if_neg e]; exact b j h1 h2
theorem Fz.tr {F G H : Int → Int} (a : Fz F G) (b : Fz G H) : Fz F H := Box.i ⟨b.o.1, fun j x y => by rw [b.o.2 j x y, a.o.2 j x y]⟩
theorem FR.up4 {w F c : Int → Int} {x : Int} (h : FR w F c) : FR w (up F 4 x) c := h
theorem sc_wv' (h : Hp) (F a b c a' b' : Int → Int) : sc h F a' b' c = wvH (sc h F a b c) a' b' := (sc_wv h F a b c a' b').symm
def s_X10_lays : CS := (zc 6, ap [(3, 62)] (fun  h Rt X =>
WF (hI h 63) ∧ FR (hI h 63) (hI h 62) (hI h 69) ∧ ∀ F a b c, Fz (hI h 62) F → FR (hI h 63) F c → Rt none (sc h F a b c)))
set_option maxRecDepth 100000 in
set_option maxHeartbeats 4000000 in
theorem o_X10_lays : Obl true 0 4 (sp [(204, s_X10_bitsOfAll), (230, s_X10_laysAssignment)]) [] code_X10_lays s_X10_lays := by
  refine oblL (by rfl) [(20, [0, 1]), (37, [0, 1, 2, 3])] ?_
  intro  h Rt X hh hf hs
  obtain ⟨h1, h2, h3⟩ := hs
  have b0 := h1.cn.1
  have b1 := h1.cn.2
  have t0 := (tot_rng h1).1
  have t1 := (tot_rng h1).2
  have e0 := tot_sh h1
  have nn := h1.nn
  have g0 : hI h 62 10 = 0 → Rt none h := fun z => by
    have := h3 (hI h 62) (hI h 67) (hI h 68) (hI h 69) (Box.i ⟨z, fun _ _ _ => rfl⟩) h2
    rw [sc_id] at this
    exact this
  refine ⟨fun k pc vs g => ∃ (n : Int) (a b c : Int → Int), g = sc h (up (hI h 62) 11 (tot (hI h 63))) a b c ∧ 0 ≤ n ∧ n ≤ tot (hI h 63) ∧ Box (∀ N, 0 ≤ N → N < n → c N = fulW (hI h 63) N (hI h 63 290).toNat) ∧ ((pc = 20 ∧ vs = [.inr (.inr (some 62)), .inl n] ∧ k = 100 * (tot (hI h 63) - n).toNat) ∨ (pc = 37 ∧ n < tot (hI h 63) ∧ ∃ (x i : Int), vs = [.inr (.inr (some 62)), .inl n, .inl x, .inl i] ∧ 0 ≤ i ∧ i ≤ hI h 63 290 ∧ x = fulW (hI h 63) n i.toNat ∧ Vls (hI h 63) (asg (hI h 63) n) b ∧ k = 100 * (tot (hI h 63) - n).toNat - 50 + (hI h 63 290 - i).toNat)), ?_, ?_⟩
  · repeat' (first | apply And.intro | (with_reducible assumption) | (intro h9; first | (exfalso; omega) | (simp only [rI_rI, rJ_rJ, hI_rI, hJ_rI, hI_rJ, hJ_rJ, hR_rI, hR_rJ, hN_rI, hN_rJ, svH_63, svH_66, rfH_63, wvH_63, wvH_62, wvH_67, wvH_68, wvH_69, sc_63, sc_n62, sc_n67, sc_n68, sc_n69, sc_n70, reduceIte, Nat.reduceEqDiff, eq_self, up_up, up_self, up_ne, ne_eq, not_false_eq_true, Int.reduceEq, Int.reduceNeg] at h9; first | (exfalso; omega) | skip) | skip) | exact h1.vz | exact g0 (by omega) | exact Exists.intro _ ⟨0, hI h 67, hI h 68, hI h 69, (by rw [← sc_of_62, ← e0] <;> rfl), by omega, by omega, Box.i (fun m a b => by omega), Or.inl ⟨rfl, rfl, rfl⟩⟩ | exact h1 | exact h1 (by omega) | exact h2 | exact h2 (by omega) | exact h3 | exact h3 (by omega) | omega | exact True.intro | (simp only [rI_rI, rJ_rJ, hI_rI, hJ_rI, hI_rJ, hJ_rJ, hR_rI, hR_rJ, hN_rI, hN_rJ, svH_63, svH_66, rfH_63, wvH_63, wvH_62, wvH_67, wvH_68, wvH_69, sc_63, sc_n62, sc_n67, sc_n68, sc_n69, sc_n70, reduceIte, Nat.reduceEqDiff, eq_self, up_up, up_self, up_ne, ne_eq, not_false_eq_true, Int.reduceEq, Int.reduceNeg]; omega))
  · rintro k pc live vs g hl ⟨n, a, b, c, rfl, i1, i2, i3, ⟨rfl, rfl, rfl⟩ | ⟨rfl, i4, x, i, rfl, j1, j2, rfl, j4, rfl⟩⟩ hv hh1 hf1
    · rcases look2 hl with ⟨_, rfl⟩ | ⟨q, _⟩
      · by_cases q : n < tot (hI h 63)
        · have q1 : ¬ tot (hI h 63) ≤ n := by omega
          repeat' (first | apply And.intro | (with_reducible assumption) | (intro h9; first | (exfalso; omega) | (simp only [rI_rI, rJ_rJ, hI_rI, hJ_rI, hI_rJ, hJ_rJ, hR_rI, hR_rJ, hN_rI, hN_rJ, svH_63, svH_66, rfH_63, wvH_63, wvH_62, wvH_67, wvH_68, wvH_69, sc_63, sc_n62, sc_n67, sc_n68, sc_n69, sc_n70, reduceIte, Nat.reduceEqDiff, eq_self, up_up, up_self, up_ne, ne_eq, not_false_eq_true, Int.reduceEq, Int.reduceNeg] at h9; first | (exfalso; omega) | skip) | skip) | exact h1 | exact Exists.intro _ ⟨by omega, n, _, _, c, sc_wv _ _ _ _ _ _ _, i1, i2, i3, Or.inr ⟨rfl, q, 0, 0, rfl, by omega, by omega, rfl, by assumption, rfl⟩⟩ | exact h1 | exact h1 (by omega) | exact h2 | exact h2 (by omega) | exact h3 | exact h3 (by omega) | omega | exact True.intro | (simp only [rI_rI, rJ_rJ, hI_rI, hJ_rI, hI_rJ, hJ_rJ, hR_rI, hR_rJ, hN_rI, hN_rJ, svH_63, svH_66, rfH_63, wvH_63, wvH_62, wvH_67, wvH_68, wvH_69, sc_63, sc_n62, sc_n67, sc_n68, sc_n69, sc_n70, reduceIte, Nat.reduceEqDiff, eq_self, up_up, up_self, up_ne, ne_eq, not_false_eq_true, Int.reduceEq, Int.reduceNeg]; omega))
        · obtain rfl : n = tot (hI h 63) := by omega
          have r1 : Fz (hI h 62) (up (up (hI h 62) 11 (tot (hI h 63))) 10 0) := Box.i ⟨rfl, fun j z1 z2 => by rw [up_ne z1, up_ne z2]⟩
          have r2 : FR (hI h 63) (up (up (hI h 62) 11 (tot (hI h 63))) 10 0) c := Box.i fun _ => ⟨rfl, fun N z1 z2 => i3.o N z1 z2⟩
          have r3 := h3 _ a b c r1 r2
          repeat' (first | apply And.intro | (with_reducible assumption) | (intro h9; first | (exfalso; omega) | (simp only [rI_rI, rJ_rJ, hI_rI, hJ_rI, hI_rJ, hJ_rJ, hR_rI, hR_rJ, hN_rI, hN_rJ, svH_63, svH_66, rfH_63, wvH_63, wvH_62, wvH_67, wvH_68, wvH_69, sc_63, sc_n62, sc_n67, sc_n68, sc_n69, sc_n70, reduceIte, Nat.reduceEqDiff, eq_self, up_up, up_self, up_ne, ne_eq, not_false_eq_true, Int.reduceEq, Int.reduceNeg] at h9; first | (exfalso; omega) | skip) | skip) | exact rt_eq r3 rfl (sc_62 _ _ _ _ _ _).symm | exact h1 | exact h1 (by omega) | exact h2 | exact h2 (by omega) | exact h3 | exact h3 (by omega) | omega | exact True.intro | (simp only [rI_rI, rJ_rJ, hI_rI, hJ_rI, hI_rJ, hJ_rJ, hR_rI, hR_rJ, hN_rI, hN_rJ, svH_63, svH_66, rfH_63, wvH_63, wvH_62, wvH_67, wvH_68, wvH_69, sc_63, sc_n62, sc_n67, sc_n68, sc_n69, sc_n70, reduceIte, Nat.reduceEqDiff, eq_self, up_up, up_self, up_ne, ne_eq, not_false_eq_true, Int.reduceEq, Int.reduceNeg]; omega))
      · cases q
    · rcases look2 hl with ⟨q, _⟩ | ⟨_, rfl⟩
      · cases q
      · by_cases q : i < hI h 63 290
        · have q1 := fulW_step h1 j4 j1 q
          have q2 := h1.con j1 q
          repeat' (first | apply And.intro | (with_reducible assumption) | (intro h9; first | (exfalso; omega) | (simp only [rI_rI, rJ_rJ, hI_rI, hJ_rI, hI_rJ, hJ_rJ, hR_rI, hR_rJ, hN_rI, hN_rJ, svH_63, svH_66, rfH_63, wvH_63, wvH_62, wvH_67, wvH_68, wvH_69, sc_63, sc_n62, sc_n67, sc_n68, sc_n69, sc_n70, reduceIte, Nat.reduceEqDiff, eq_self, up_up, up_self, up_ne, ne_eq, not_false_eq_true, Int.reduceEq, Int.reduceNeg] at h9; first | (exfalso; omega) | skip) | skip) | exact Exists.intro _ ⟨by omega, n, a, b, c, rfl, i1, i2, i3, Or.inr ⟨rfl, i4, _, i + 1, rfl, by omega, by omega, q1, j4, rfl⟩⟩ | exact h1 | exact h1 (by omega) | exact h2 | exact h2 (by omega) | exact h3 | exact h3 (by omega) | omega | exact True.intro | (simp only [rI_rI, rJ_rJ, hI_rI, hJ_rI, hI_rJ, hJ_rJ, hR_rI, hR_rJ, hN_rI, hN_rJ, svH_63, svH_66, rfH_63, wvH_63, wvH_62, wvH_67, wvH_68, wvH_69, sc_63, sc_n62, sc_n67, sc_n68, sc_n69, sc_n70, reduceIte, Nat.reduceEqDiff, eq_self, up_up, up_self, up_ne, ne_eq, not_false_eq_true, Int.reduceEq, Int.reduceNeg]; omega))
        · obtain rfl : i = hI h 63 290 := by omega
          have r : Box (∀ N, 0 ≤ N → N < n + 1 → up c n (fulW (hI h 63) n (hI h 63 290).toNat) N = fulW (hI h 63) N (hI h 63 290).toNat) := by
            refine Box.i fun N z1 z2 => ?_
            by_cases e : N = n
            · subst e; rw [up_self]
            · rw [up_ne e]; exact i3.o N z1 (by omega)
          repeat' (first | apply And.intro | (with_reducible assumption) | (intro h9; first | (exfalso; omega) | (simp only [rI_rI, rJ_rJ, hI_rI, hJ_rI, hI_rJ, hJ_rJ, hR_rI, hR_rJ, hN_rI, hN_rJ, svH_63, svH_66, rfH_63, wvH_63, wvH_62, wvH_67, wvH_68, wvH_69, sc_63, sc_n62, sc_n67, sc_n68, sc_n69, sc_n70, reduceIte, Nat.reduceEqDiff, eq_self, up_up, up_self, up_ne, ne_eq, not_false_eq_true, Int.reduceEq, Int.reduceNeg] at h9; first | (exfalso; omega) | skip) | skip) | exact Exists.intro _ ⟨by omega, n + 1, a, b, _, (sc_69 _ _ _ _ _ _), by omega, by omega, r, Or.inl ⟨rfl, rfl, rfl⟩⟩ | exact h1 | exact h1 (by omega) | exact h2 | exact h2 (by omega) | exact h3 | exact h3 (by omega) | omega | exact True.intro | (simp only [rI_rI, rJ_rJ, hI_rI, hJ_rI, hI_rJ, hJ_rJ, hR_rI, hR_rJ, hN_rI, hN_rJ, svH_63, svH_66, rfH_63, wvH_63, wvH_62, wvH_67, wvH_68, wvH_69, sc_63, sc_n62, sc_n67, sc_n68, sc_n69, sc_n70, reduceIte, Nat.reduceEqDiff, eq_self, up_up, up_self, up_ne, ne_eq, not_false_eq_true, Int.reduceEq, Int.reduceNeg]; omega))
/-- the numbers of a loop over the models -/
def meas (w : Int → Int) (n : Int) : Nat := if n = -1 then 0 else (tot w - n).toNat
theorem m_X10_lays : MM 237 s_X10_lays := mm_of (own := 9) (by rfl) k_X10_lays (cl := [(204, s_X10_bitsOfAll), (230, s_X10_laysAssignment)]) ⟨m_X10_bitsOfAll, m_X10_laysAssignment, trivial⟩ o_X10_lays
def s_X10_model : CS := (zc 7, ap [(3, 62), (0, 0)] (fun m h Rt X =>
(0 ≤ m ∧ m ≤ 65536) ∧ WF (hI h 63) ∧ FR (hI h 63) (hI h 62) (hI h 69) ∧ ∀ F a b c, Fz (hI h 62) F → FR (hI h 63) F c → Rt (some (.inl (nxt (hI h 63) m))) (sc h F a b c)))
set_option maxRecDepth 100000 in
set_option maxHeartbeats 4000000 in
theorem o_X10_model : Obl true 1 4 (sp [(237, s_X10_lays), (201, s_X10_mask)]) [] code_X10_model s_X10_model := by
  refine oblL (by rfl) [(18, [0, 2, 3])] ?_
  intro m r_m h Rt X hh hf hs
  obtain ⟨a1, h1, h2, h3⟩ := hs
  have b0 := h1.cn.1
  have b1 := h1.cn.2
  have t0 := (tot_rng h1).1
  have t1 := (tot_rng h1).2
  refine ⟨fun k pc vs g => ∃ (n : Int) (F a b c : Int → Int), g = sc h F a b c ∧ vs = [.inr (.inr (some 62)), .inl (p2 (hI h 63 290) - 1), .inl n] ∧ Fz (hI h 62) F ∧ FR (hI h 63) F c ∧ m ≤ n ∧ (n ≤ tot (hI h 63) ∨ n = m) ∧ Box (∀ N, m ≤ N → N < n → mdl (hI h 63) N = false) ∧ k = (tot (hI h 63) - n).toNat, ?_, ?_⟩
  · repeat' (first | apply And.intro | (with_reducible assumption) | (intro h9; first | (exfalso; omega) | (simp only [rI_rI, rJ_rJ, hI_rI, hJ_rI, hI_rJ, hJ_rJ, hR_rI, hR_rJ, hN_rI, hN_rJ, svH_63, svH_66, rfH_63, wvH_63, wvH_62, wvH_67, wvH_68, wvH_69, sc_63, sc_n62, sc_n67, sc_n68, sc_n69, sc_n70, reduceIte, Nat.reduceEqDiff, eq_self, up_up, up_self, up_ne, ne_eq, not_false_eq_true, Int.reduceEq, Int.reduceNeg] at h9; first | (exfalso; omega) | skip) | skip) | exact h1 | exact h2 | exact Exists.intro _ ⟨m, _, _, _, _, rfl, rfl, by assumption, by assumption, by omega, by omega, Box.i (fun N a b => by omega), rfl⟩ | exact h1 | exact h1 (by omega) | exact h2 | exact h2 (by omega) | exact h3 | exact h3 (by omega) | omega | exact True.intro | (simp only [rI_rI, rJ_rJ, hI_rI, hJ_rI, hI_rJ, hJ_rJ, hR_rI, hR_rJ, hN_rI, hN_rJ, svH_63, svH_66, rfH_63, wvH_63, wvH_62, wvH_67, wvH_68, wvH_69, sc_63, sc_n62, sc_n67, sc_n68, sc_n69, sc_n70, reduceIte, Nat.reduceEqDiff, eq_self, up_up, up_self, up_ne, ne_eq, not_false_eq_true, Int.reduceEq, Int.reduceNeg]; omega))
  · rintro k pc live vs g hl ⟨n, F, a, b, c, rfl, rfl, i1, i2, i3, i4, i5, rfl⟩ hv hh1 hf1
    obtain ⟨rfl, rfl⟩ := look1 hl
    obtain ⟨f1, f2⟩ := i2.o i1.o.1
    have f1' : hI (sc h F a b c) 62 11 = tot (hI h 63) := f1
    by_cases q : n < tot (hI h 63)
    · have f3 : hI (sc h F a b c) 69 n = fulW (hI h 63) n (hI h 63 290).toNat := f2 n (by omega) q
      by_cases z : fulW (hI h 63) n (hI h 63 290).toNat = p2 (hI h 63 290) - 1
      · have r : nxt (hI h 63) m = n := nxt_intro (by omega) i3 q (decide_eq_true z) fun N z1 z2 z3 => i5.o N z2 z3
        have r3 := h3 F a b c i1 i2
        rw [r] at r3
        repeat' (first | apply And.intro | (with_reducible assumption) | (intro h9; first | (exfalso; omega) | (simp only [rI_rI, rJ_rJ, hI_rI, hJ_rI, hI_rJ, hJ_rJ, hR_rI, hR_rJ, hN_rI, hN_rJ, svH_63, svH_66, rfH_63, wvH_63, wvH_62, wvH_67, wvH_68, wvH_69, sc_63, sc_n62, sc_n67, sc_n68, sc_n69, sc_n70, reduceIte, Nat.reduceEqDiff, eq_self, up_up, up_self, up_ne, ne_eq, not_false_eq_true, Int.reduceEq, Int.reduceNeg] at h9; first | (exfalso; omega) | skip) | skip) | exact r3 | exact h1 | exact h1 (by omega) | exact h2 | exact h2 (by omega) | exact h3 | exact h3 (by omega) | omega | exact True.intro | (simp only [rI_rI, rJ_rJ, hI_rI, hJ_rI, hI_rJ, hJ_rJ, hR_rI, hR_rJ, hN_rI, hN_rJ, svH_63, svH_66, rfH_63, wvH_63, wvH_62, wvH_67, wvH_68, wvH_69, sc_63, sc_n62, sc_n67, sc_n68, sc_n69, sc_n70, reduceIte, Nat.reduceEqDiff, eq_self, up_up, up_self, up_ne, ne_eq, not_false_eq_true, Int.reduceEq, Int.reduceNeg]; omega))
      · have r : mdl (hI h 63) n = false := decide_eq_false z
        have r2 : Box (∀ N, m ≤ N → N < n + 1 → mdl (hI h 63) N = false) := Box.i fun N z1 z2 => by
          by_cases e : N = n
          · rw [e]; exact r
          · exact i5.o N z1 (by omega)
        repeat' (first | apply And.intro | (with_reducible assumption) | (intro h9; first | (exfalso; omega) | (simp only [rI_rI, rJ_rJ, hI_rI, hJ_rI, hI_rJ, hJ_rJ, hR_rI, hR_rJ, hN_rI, hN_rJ, svH_63, svH_66, rfH_63, wvH_63, wvH_62, wvH_67, wvH_68, wvH_69, sc_63, sc_n62, sc_n67, sc_n68, sc_n69, sc_n70, reduceIte, Nat.reduceEqDiff, eq_self, up_up, up_self, up_ne, ne_eq, not_false_eq_true, Int.reduceEq, Int.reduceNeg] at h9; first | (exfalso; omega) | skip) | skip) | exact Exists.intro _ ⟨by omega, n + 1, F, a, b, c, rfl, rfl, i1, i2, by omega, by omega, r2, rfl⟩ | exact h1 | exact h1 (by omega) | exact h2 | exact h2 (by omega) | exact h3 | exact h3 (by omega) | omega | exact True.intro | (simp only [rI_rI, rJ_rJ, hI_rI, hJ_rI, hI_rJ, hJ_rJ, hR_rI, hR_rJ, hN_rI, hN_rJ, svH_63, svH_66, rfH_63, wvH_63, wvH_62, wvH_67, wvH_68, wvH_69, sc_63, sc_n62, sc_n67, sc_n68, sc_n69, sc_n70, reduceIte, Nat.reduceEqDiff, eq_self, up_up, up_self, up_ne, ne_eq, not_false_eq_true, Int.reduceEq, Int.reduceNeg]; omega))
    · have r : nxt (hI h 63) m = -1 := nxt_no fun N z1 z2 z3 => i5.o N z2 (by omega)
      have r3 := h3 F a b c i1 i2
      rw [r] at r3
      repeat' (first | apply And.intro | (with_reducible assumption) | (intro h9; first | (exfalso; omega) | (simp only [rI_rI, rJ_rJ, hI_rI, hJ_rI, hI_rJ, hJ_rJ, hR_rI, hR_rJ, hN_rI, hN_rJ, svH_63, svH_66, rfH_63, wvH_63, wvH_62, wvH_67, wvH_68, wvH_69, sc_63, sc_n62, sc_n67, sc_n68, sc_n69, sc_n70, reduceIte, Nat.reduceEqDiff, eq_self, up_up, up_self, up_ne, ne_eq, not_false_eq_true, Int.reduceEq, Int.reduceNeg] at h9; first | (exfalso; omega) | skip) | skip) | exact r3 | exact h1 | exact h1 (by omega) | exact h2 | exact h2 (by omega) | exact h3 | exact h3 (by omega) | omega | exact True.intro | (simp only [rI_rI, rJ_rJ, hI_rI, hJ_rI, hI_rJ, hJ_rJ, hR_rI, hR_rJ, hN_rI, hN_rJ, svH_63, svH_66, rfH_63, wvH_63, wvH_62, wvH_67, wvH_68, wvH_69, sc_63, sc_n62, sc_n67, sc_n68, sc_n69, sc_n70, reduceIte, Nat.reduceEqDiff, eq_self, up_up, up_self, up_ne, ne_eq, not_false_eq_true, Int.reduceEq, Int.reduceNeg]; omega))
theorem m_X10_model : MM 238 s_X10_model := mm_of (own := 9) (by rfl) k_X10_model (cl := [(237, s_X10_lays), (201, s_X10_mask)]) ⟨m_X10_lays, m_X10_mask, trivial⟩ o_X10_model
def s_X10_wordOf : CS := (zc 6, ap [(3, 62), (0, 0), (0, 0)] (fun n v h Rt X =>
(-1 ≤ n ∧ n ≤ 65536 ∧ 0 ≤ v ∧ v < hI h 63 281) ∧ WF (hI h 63) ∧ (n = -1 → Rt (some (.inl (-1))) h) ∧ (n ≠ -1 → ∀ a b, Rt (some (.inl (asg (hI h 63) n v))) (wvH h a b))))
set_option maxRecDepth 100000 in
set_option maxHeartbeats 4000000 in
theorem o_X10_wordOf : Obl true 1 3 (sp [(230, s_X10_laysAssignment)]) [] code_X10_wordOf s_X10_wordOf := by
  refine obl0 (by rfl) ?_
  intro n r_n v r_v h Rt X hh hf hs
  obtain ⟨⟨a1, a2, a3, a4⟩, h1, h2, h3⟩ := hs
  have v1 := h1.vn
  have g : n ≠ -1 → ∀ a b, Asg (hI h 63) a (asg (hI h 63) n) → Rt (some (.inl (a v))) (wvH h a b) := fun z a b ha => by
    rw [ha.o v a3 a4]
    exact h3 z a b
  repeat' (first | apply And.intro | (with_reducible assumption) | (intro h9; first | (exfalso; omega) | (simp only [rI_rI, rJ_rJ, hI_rI, hJ_rI, hI_rJ, hJ_rJ, hR_rI, hR_rJ, hN_rI, hN_rJ, svH_63, svH_66, rfH_63, wvH_63, wvH_62, wvH_67, wvH_68, wvH_69, sc_63, sc_n62, sc_n67, sc_n68, sc_n69, sc_n70, reduceIte, Nat.reduceEqDiff, eq_self, up_up, up_self, up_ne, ne_eq, not_false_eq_true, Int.reduceEq, Int.reduceNeg] at h9; first | (exfalso; omega) | skip) | skip) | exact h1 | exact g (by omega) _ _ (by assumption) | exact h1 | exact h1 (by omega) | exact h2 | exact h2 (by omega) | exact h3 | exact h3 (by omega) | omega | exact True.intro | (simp only [rI_rI, rJ_rJ, hI_rI, hJ_rI, hI_rJ, hJ_rJ, hR_rI, hR_rJ, hN_rI, hN_rJ, svH_63, svH_66, rfH_63, wvH_63, wvH_62, wvH_67, wvH_68, wvH_69, sc_63, sc_n62, sc_n67, sc_n68, sc_n69, sc_n70, reduceIte, Nat.reduceEqDiff, eq_self, up_up, up_self, up_ne, ne_eq, not_false_eq_true, Int.reduceEq, Int.reduceNeg]; omega))
theorem m_X10_wordOf : MM 239 s_X10_wordOf := mm_of (own := 9) (by rfl) k_X10_wordOf (cl := [(230, s_X10_laysAssignment)]) ⟨m_X10_laysAssignment, trivial⟩ o_X10_wordOf

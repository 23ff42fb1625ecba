/-! ===== the class: descriptions written ===== -/
/-- characters added -/
def tAs (r : Rw) : List Int → Rw
  | [] => r
  | c :: L => tAs (tAd r c) L
theorem tAs_app : ∀ (P Q : List Int) (r : Rw), tAs r (P ++ Q) = tAs (tAs r P) Q := by
  intro P
  induction P with
  | nil => intro Q r; rfl
  | cons c P ih => intro Q r; exact ih Q _
theorem tAd_ne (r : Rw) (c : Int) {a : Nat} (h1 : a ≠ 49) (h2 : a ≠ 50) : tAd r c a = r a := by
  unfold tAd
  split
  · rw [ur_ne h1, ur_ne h2]
  · rfl
theorem tAs_ne : ∀ (P : List Int) (r : Rw) {a : Nat}, a ≠ 49 → a ≠ 50 → tAs r P a = r a := by
  intro P
  induction P with
  | nil => intro r a h1 h2; rfl
  | cons c P ih => intro r a h1 h2; exact (ih _ h1 h2).trans (tAd_ne r c h1 h2)
abbrev TLr (r : Rw) : Prop := 0 ≤ r 49 1 ∧ r 49 1 ≤ 120
theorem tAd_tl {r : Rw} (h : TLr r) (c : Int) : TLr (tAd r c) := by
  unfold tAd
  split
  · rw [TLr, ur_self, up_self]; omega
  · exact h
theorem tAs_tl : ∀ (P : List Int) {r : Rw}, TLr r → TLr (tAs r P) := by
  intro P
  induction P with
  | nil => intro r h; exact h
  | cons c P ih => intro r h; exact ih (tAd_tl h c)
theorem GH.ta {h : Hp} {w : Int → Int} (g : GH h w) (P : List Int) : GH (wI h (tAs (hI h) P)) w := by
  show GR (tAs (hI h) P 1) (tAs (hI h) P 2) (tAs (hI h) P 3) (tAs (hI h) P 4) w
  rw [tAs_ne P _ (by decide) (by decide), tAs_ne P _ (by decide) (by decide), tAs_ne P _ (by decide) (by decide), tAs_ne P _ (by decide) (by decide)]
  exact g
theorem numL_d {x : Int} (h0 : 0 ≤ x) (h1 : x < 10) : numL x = [48 + x] := by
  unfold numL
  rw [if_neg (by omega), if_neg (by omega), show x % 10 = x by omega]
  rfl
/-- the text holds these characters -/
def TxL (r : Rw) (L : List Int) : Prop := Box (r 49 1 = (L.length : Int) ∧ L.length ≤ 120 ∧ ∀ i : Nat, i < L.length → r 50 i = L.getD i 0)
theorem TxL.add {r : Rw} {L : List Int} (h : TxL r L) (hl : L.length < 120) (c : Int) : TxL (tAd r c) (L ++ [c]) := by
  obtain ⟨h1, h2, h3⟩ := h.o
  unfold tAd
  rw [if_pos (by omega)]
  refine Box.i ⟨?_, by rw [List.length_append]; show L.length + 1 ≤ 120; omega, fun i hi => ?_⟩
  · rw [ur_self, up_self, h1, List.length_append]
    rfl
  · rw [ur_ne (by decide), ur_self, h1]
    rw [List.length_append] at hi
    have hi : i < L.length + 1 := hi
    by_cases e : i = L.length
    · subst e
      rw [up_self, getD_e]
    · rw [up_ne (by omega), getD_a (by omega)]
      exact h3 i (by omega)
theorem TxL.adds : ∀ (P : List Int) {r : Rw} {L : List Int}, TxL r L → L.length + P.length ≤ 120 → TxL (tAs r P) (L ++ P) := by
  intro P
  induction P with
  | nil => intro r L h _; rw [List.append_nil]; exact h
  | cons c P ih =>
    intro r L h hl
    rw [List.length_cons] at hl
    have := ih (h.add (by omega) c) (by rw [List.length_append]; show L.length + 1 + P.length ≤ 120; omega)
    rw [List.append_assoc] at this
    exact this
theorem tAd_1 (r : Rw) (c : Int) : tAd r c 1 = r 1 := tAd_ne r c (by decide) (by decide)
theorem tAs_1 (r : Rw) (P : List Int) : tAs r P 1 = r 1 := tAs_ne P r (by decide) (by decide)
theorem tAd_2 (r : Rw) (c : Int) : tAd r c 2 = r 2 := tAd_ne r c (by decide) (by decide)
theorem tAs_2 (r : Rw) (P : List Int) : tAs r P 2 = r 2 := tAs_ne P r (by decide) (by decide)
theorem tAd_3 (r : Rw) (c : Int) : tAd r c 3 = r 3 := tAd_ne r c (by decide) (by decide)
theorem tAs_3 (r : Rw) (P : List Int) : tAs r P 3 = r 3 := tAs_ne P r (by decide) (by decide)
theorem tAd_4 (r : Rw) (c : Int) : tAd r c 4 = r 4 := tAd_ne r c (by decide) (by decide)
theorem tAs_4 (r : Rw) (P : List Int) : tAs r P 4 = r 4 := tAs_ne P r (by decide) (by decide)
def s_X8_addNumber : CS := (zc 2, ap [(3, 60), (0, 0)] (fun x h Rt X =>
(0 ≤ x ∧ x ≤ 999) ∧ TL h ∧ Rt none (wI h (tAs (hI h) (numL x)))))
set_option maxRecDepth 100000 in
set_option maxHeartbeats 4000000 in
theorem o_X8_addNumber : Obl true 0 2 (sp [(126, s_X7_add)]) [] code_X8_addNumber s_X8_addNumber := by
  refine obl0 (by rfl) ?_
  intro x r_x h Rt X hh hf hs
  obtain ⟨h1, h2, h3⟩ := hs
  have t0 : TLr (hI h) := h2
  unfold numL at h3
  by_cases a : 100 ≤ x
  · rw [if_pos a, if_pos (by omega)] at h3
    have h3 : Rt none (wI h (tAd (tAd (tAd (hI h) (48 + x / 100)) (48 + x / 10 % 10)) (48 + x % 10))) := h3
    repeat' (first | apply And.intro | (with_reducible assumption) | (intro h9; first | (exfalso; omega) | (simp only [rI_rI, rJ_rJ, hI_rI, hJ_rI, hI_rJ, hJ_rJ, hI_rR, hR_rI, hR_rJ, hN_rI, hN_rJ, svH_63, svH_66, rfH_63, wvH_63, wvH_62, wvH_67, wvH_68, wvH_69, sc_63, sc_n62, sc_n67, sc_n68, sc_n69, sc_n70, reduceIte, Nat.reduceEqDiff, eq_self, up_up, up_self, up_ne, ne_eq, not_false_eq_true, Int.reduceEq, Int.reduceNeg, hI_wI, tAd_1, tAd_2, tAd_3, tAd_4, tAs_1, tAs_2, tAs_3, tAs_4] at h9; first | (exfalso; omega) | skip) | skip) | exact (tAd_tl t0 _).1 | exact (tAd_tl t0 _).2 | exact (tAd_tl (tAd_tl t0 _) _).1 | exact (tAd_tl (tAd_tl t0 _) _).2 | exact h1 | exact h1 (by omega) | exact h2 | exact h2 (by omega) | exact h3 | exact h3 (by omega) | omega | exact True.intro | (simp only [rI_rI, rJ_rJ, hI_rI, hJ_rI, hI_rJ, hJ_rJ, hI_rR, hR_rI, hR_rJ, hN_rI, hN_rJ, svH_63, svH_66, rfH_63, wvH_63, wvH_62, wvH_67, wvH_68, wvH_69, sc_63, sc_n62, sc_n67, sc_n68, sc_n69, sc_n70, reduceIte, Nat.reduceEqDiff, eq_self, up_up, up_self, up_ne, ne_eq, not_false_eq_true, Int.reduceEq, Int.reduceNeg, hI_wI, tAd_1, tAd_2, tAd_3, tAd_4, tAs_1, tAs_2, tAs_3, tAs_4]; omega))
  · rw [if_neg a] at h3
    by_cases b : 10 ≤ x
    · rw [if_pos b] at h3
      have h3 : Rt none (wI h (tAd (tAd (hI h) (48 + x / 10 % 10)) (48 + x % 10))) := h3
      repeat' (first | apply And.intro | (with_reducible assumption) | (intro h9; first | (exfalso; omega) | (simp only [rI_rI, rJ_rJ, hI_rI, hJ_rI, hI_rJ, hJ_rJ, hI_rR, hR_rI, hR_rJ, hN_rI, hN_rJ, svH_63, svH_66, rfH_63, wvH_63, wvH_62, wvH_67, wvH_68, wvH_69, sc_63, sc_n62, sc_n67, sc_n68, sc_n69, sc_n70, reduceIte, Nat.reduceEqDiff, eq_self, up_up, up_self, up_ne, ne_eq, not_false_eq_true, Int.reduceEq, Int.reduceNeg, hI_wI, tAd_1, tAd_2, tAd_3, tAd_4, tAs_1, tAs_2, tAs_3, tAs_4] at h9; first | (exfalso; omega) | skip) | skip) | exact (tAd_tl t0 _).1 | exact (tAd_tl t0 _).2 | exact h1 | exact h1 (by omega) | exact h2 | exact h2 (by omega) | exact h3 | exact h3 (by omega) | omega | exact True.intro | (simp only [rI_rI, rJ_rJ, hI_rI, hJ_rI, hI_rJ, hJ_rJ, hI_rR, hR_rI, hR_rJ, hN_rI, hN_rJ, svH_63, svH_66, rfH_63, wvH_63, wvH_62, wvH_67, wvH_68, wvH_69, sc_63, sc_n62, sc_n67, sc_n68, sc_n69, sc_n70, reduceIte, Nat.reduceEqDiff, eq_self, up_up, up_self, up_ne, ne_eq, not_false_eq_true, Int.reduceEq, Int.reduceNeg, hI_wI, tAd_1, tAd_2, tAd_3, tAd_4, tAs_1, tAs_2, tAs_3, tAs_4]; omega))
    · rw [if_neg b] at h3
      have h3 : Rt none (wI h (tAd (hI h) (48 + x % 10))) := h3
      repeat' (first | apply And.intro | (with_reducible assumption) | (intro h9; first | (exfalso; omega) | (simp only [rI_rI, rJ_rJ, hI_rI, hJ_rI, hI_rJ, hJ_rJ, hI_rR, hR_rI, hR_rJ, hN_rI, hN_rJ, svH_63, svH_66, rfH_63, wvH_63, wvH_62, wvH_67, wvH_68, wvH_69, sc_63, sc_n62, sc_n67, sc_n68, sc_n69, sc_n70, reduceIte, Nat.reduceEqDiff, eq_self, up_up, up_self, up_ne, ne_eq, not_false_eq_true, Int.reduceEq, Int.reduceNeg, hI_wI, tAd_1, tAd_2, tAd_3, tAd_4, tAs_1, tAs_2, tAs_3, tAs_4] at h9; first | (exfalso; omega) | skip) | skip) | exact h1 | exact h1 (by omega) | exact h2 | exact h2 (by omega) | exact h3 | exact h3 (by omega) | omega | exact True.intro | (simp only [rI_rI, rJ_rJ, hI_rI, hJ_rI, hI_rJ, hJ_rJ, hI_rR, hR_rI, hR_rJ, hN_rI, hN_rJ, svH_63, svH_66, rfH_63, wvH_63, wvH_62, wvH_67, wvH_68, wvH_69, sc_63, sc_n62, sc_n67, sc_n68, sc_n69, sc_n70, reduceIte, Nat.reduceEqDiff, eq_self, up_up, up_self, up_ne, ne_eq, not_false_eq_true, Int.reduceEq, Int.reduceNeg, hI_wI, tAd_1, tAd_2, tAd_3, tAd_4, tAs_1, tAs_2, tAs_3, tAs_4]; omega))
theorem m_X8_addNumber : MM 134 s_X8_addNumber := mm_of (own := 7) (by rfl) k_X8_addNumber (cl := [(126, s_X7_add)]) ⟨m_X7_add, trivial⟩ o_X8_addNumber
def AwQ (h : Hp) (k : Int) (N m : Nat) (vs : List AV) (g : Hp) : Prop := ∃ i : Nat, g = wI h (tAs (hI h) (wdU k i)) ∧ vs = [.inr (.inr (some 60)), .inl k, .inl (i : Int)] ∧ i ≤ N ∧ m = N - i
def s_X8_addWord : CS := (zc 9, ap [(3, 60), (0, 0)] (fun k h Rt X =>
(2 ≤ k ∧ k ≤ 24) ∧ TL h ∧ Rt none (wI h (tAs (hI h) (wdU k (wlen k).toNat)))))
set_option maxRecDepth 100000 in
set_option maxHeartbeats 4000000 in
theorem o_X8_addWord : Obl true 0 3 (sp [(40, s_X2_wordLength), (41, s_X2_letter), (126, s_X7_add)]) [] code_X8_addWord s_X8_addWord := by
  refine oblL (by rfl) [(2, [0, 1, 2])] ?_
  intro k r_k h Rt X hh hf hs
  obtain ⟨h1, h2, h3⟩ := hs
  have t0 : TLr (hI h) := h2
  have wr := wlen_rng h1.1 h1.2
  have we : whl (fun i => decide (wl k i ≠ 32)) 5 0 = wlen k := rfl
  obtain ⟨N, hN⟩ : ∃ N : Nat, N = (wlen k).toNat := ⟨_, rfl⟩
  have hN2 : whl (fun i => decide (wl k i ≠ 32)) 5 0 = (N : Int) := by rw [we]; omega
  rw [← hN] at h3
  clear we
  refine ⟨fun m _ vs g => AwQ h k N m vs g, ?_, ?_⟩
  · exact Exists.intro _ ⟨0, rfl, rfl, by omega, rfl⟩
  · rintro m pc vs' vs g hl ⟨i, rfl, rfl, i1, rfl⟩ hv hh1 hf1
    obtain ⟨rfl, rfl⟩ := look1 hl
    have t1 := tAs_tl (wdU k i) t0
    by_cases y : i < N
    · have C : ∃ k', k' < N - i ∧ AwQ h k N k' [.inr (.inr (some 60)), .inl k, .inl ((i : Int) + 1)] (wI h (tAd (tAs (hI h) (wdU k i)) (wl k i))) :=
        ⟨N - (i + 1), by omega, i + 1, by
          show _ = wI h (tAs (hI h) (wdU k i ++ [wl k i]))
          rw [tAs_app]
          rfl, rfl, by omega, rfl⟩
      repeat' (first | apply And.intro | (with_reducible assumption) | (intro h9; first | (exfalso; omega) | (simp only [rI_rI, rJ_rJ, hI_rI, hJ_rI, hI_rJ, hJ_rJ, hI_rR, hR_rI, hR_rJ, hN_rI, hN_rJ, svH_63, svH_66, rfH_63, wvH_63, wvH_62, wvH_67, wvH_68, wvH_69, sc_63, sc_n62, sc_n67, sc_n68, sc_n69, sc_n70, reduceIte, Nat.reduceEqDiff, eq_self, up_up, up_self, up_ne, ne_eq, not_false_eq_true, Int.reduceEq, Int.reduceNeg, hI_wI, tAd_1, tAd_2, tAd_3, tAd_4, tAs_1, tAs_2, tAs_3, tAs_4] at h9; first | (exfalso; omega) | skip) | skip) | omega | exact t1.1 | exact t1.2 | exact C | exact h1 | exact h1 (by omega) | exact h2 | exact h2 (by omega) | exact h3 | exact h3 (by omega) | omega | exact True.intro | (simp only [rI_rI, rJ_rJ, hI_rI, hJ_rI, hI_rJ, hJ_rJ, hI_rR, hR_rI, hR_rJ, hN_rI, hN_rJ, svH_63, svH_66, rfH_63, wvH_63, wvH_62, wvH_67, wvH_68, wvH_69, sc_63, sc_n62, sc_n67, sc_n68, sc_n69, sc_n70, reduceIte, Nat.reduceEqDiff, eq_self, up_up, up_self, up_ne, ne_eq, not_false_eq_true, Int.reduceEq, Int.reduceNeg, hI_wI, tAd_1, tAd_2, tAd_3, tAd_4, tAs_1, tAs_2, tAs_3, tAs_4]; omega))
    · have e : N = i := by omega
      rw [e] at h3
      repeat' (first | apply And.intro | (with_reducible assumption) | (intro h9; first | (exfalso; omega) | (simp only [rI_rI, rJ_rJ, hI_rI, hJ_rI, hI_rJ, hJ_rJ, hI_rR, hR_rI, hR_rJ, hN_rI, hN_rJ, svH_63, svH_66, rfH_63, wvH_63, wvH_62, wvH_67, wvH_68, wvH_69, sc_63, sc_n62, sc_n67, sc_n68, sc_n69, sc_n70, reduceIte, Nat.reduceEqDiff, eq_self, up_up, up_self, up_ne, ne_eq, not_false_eq_true, Int.reduceEq, Int.reduceNeg, hI_wI, tAd_1, tAd_2, tAd_3, tAd_4, tAs_1, tAs_2, tAs_3, tAs_4] at h9; first | (exfalso; omega) | skip) | skip) | exact h3 | exact h1 | exact h1 (by omega) | exact h2 | exact h2 (by omega) | exact h3 | exact h3 (by omega) | omega | exact True.intro | (simp only [rI_rI, rJ_rJ, hI_rI, hJ_rI, hI_rJ, hJ_rJ, hI_rR, hR_rI, hR_rJ, hN_rI, hN_rJ, svH_63, svH_66, rfH_63, wvH_63, wvH_62, wvH_67, wvH_68, wvH_69, sc_63, sc_n62, sc_n67, sc_n68, sc_n69, sc_n70, reduceIte, Nat.reduceEqDiff, eq_self, up_up, up_self, up_ne, ne_eq, not_false_eq_true, Int.reduceEq, Int.reduceNeg, hI_wI, tAd_1, tAd_2, tAd_3, tAd_4, tAs_1, tAs_2, tAs_3, tAs_4]; omega))
theorem m_X8_addWord : MM 132 s_X8_addWord := mm_of (own := 7) (by rfl) k_X8_addWord (cl := [(40, s_X2_wordLength), (41, s_X2_letter), (126, s_X7_add)]) ⟨m_X2_wordLength, m_X2_letter, m_X7_add, trivial⟩ o_X8_addWord
def s_X8_addDigits : CS := (zc 3, ap [(3, 60), (0, 0), (0, 0)] (fun n k h Rt X =>
∃ w, GH h w ∧ WF w ∧ (0 ≤ n ∧ n < w 0 ∧ k = nd w n 0 ∧ 2 ≤ k) ∧ TL h ∧ Rt none (wI h (tAs (hI h) (digL w n)))))
set_option maxRecDepth 100000 in
set_option maxHeartbeats 4000000 in
theorem o_X8_addDigits : Obl true 0 3 (sp [(126, s_X7_add), (5, s_X0_get), (134, s_X8_addNumber), (39, s_X2_digitCount), (6, s_X0_width)]) [] code_X8_addDigits s_X8_addDigits := by
  refine obl0 (by rfl) ?_
  intro n r_n k r_k h Rt X hh hf hs
  obtain ⟨w, hG, hW, ⟨n0, n1, ek, k2⟩, hT, h5⟩ := hs
  have t0 : TLr (hI h) := hT
  have nn := hW.nn
  have gn := hG.n
  have wd := hW.wd n0 n1
  have g1 := hG.k1 n0 n1
  unfold digL at h5
  have dg : dgc k = if k = 21 then 2 else if k = 22 ∨ k = 23 then 1 else 0 := rfl
  by_cases a : nd w n 0 = 21
  · obtain ⟨u6, u5, u7⟩ := d21 hW n0 n1 a
    obtain ⟨s5, s6, s7⟩ := hG.sl n0 n1 a
    rw [if_pos a] at h5
    have q1 : numL (hI h 2 (n * 8 + 6)) = [48 + nd w n 5] := by rw [s6]; exact numL_d (by omega) (by omega)
    have q2 : numL (hI h 2 (n * 8 + 7)) = [48 + nd w n 6] := by rw [s7]; exact numL_d (by omega) (by omega)
    have h5 : Rt none (wI h (tAs (tAd (tAs (tAd (hI h) 32) (numL (hI h 2 (n * 8 + 6)))) 32) (numL (hI h 2 (n * 8 + 7))))) := by rw [q1, q2]; exact h5
    repeat' (first | apply And.intro | (with_reducible assumption) | (intro h9; first | (exfalso; omega) | (simp only [rI_rI, rJ_rJ, hI_rI, hJ_rI, hI_rJ, hJ_rJ, hI_rR, hR_rI, hR_rJ, hN_rI, hN_rJ, svH_63, svH_66, rfH_63, wvH_63, wvH_62, wvH_67, wvH_68, wvH_69, sc_63, sc_n62, sc_n67, sc_n68, sc_n69, sc_n70, reduceIte, Nat.reduceEqDiff, eq_self, up_up, up_self, up_ne, ne_eq, not_false_eq_true, Int.reduceEq, Int.reduceNeg, hI_wI, tAd_1, tAd_2, tAd_3, tAd_4, tAs_1, tAs_2, tAs_3, tAs_4] at h9; first | (exfalso; omega) | skip) | skip) | exact (tAd_tl t0 _).1 | exact (tAd_tl t0 _).2 | (simp only [rI_rI, rJ_rJ, hI_rI, hJ_rI, hI_rJ, hJ_rJ, hI_rR, hR_rI, hR_rJ, hN_rI, hN_rJ, svH_63, svH_66, rfH_63, wvH_63, wvH_62, wvH_67, wvH_68, wvH_69, sc_63, sc_n62, sc_n67, sc_n68, sc_n69, sc_n70, reduceIte, Nat.reduceEqDiff, eq_self, up_up, up_self, up_ne, ne_eq, not_false_eq_true, Int.reduceEq, Int.reduceNeg, hI_wI, tAd_1, tAd_2, tAd_3, tAd_4, tAs_1, tAs_2, tAs_3, tAs_4]; first | exact (tAs_tl _ (tAd_tl t0 _)).1 | exact (tAs_tl _ (tAd_tl t0 _)).2 | exact (tAd_tl (tAs_tl _ (tAd_tl t0 _)) _).1 | exact (tAd_tl (tAs_tl _ (tAd_tl t0 _)) _).2 | exact h5) | exact h5 | exact h5 (by omega) | omega | exact True.intro | (simp only [rI_rI, rJ_rJ, hI_rI, hJ_rI, hI_rJ, hJ_rJ, hI_rR, hR_rI, hR_rJ, hN_rI, hN_rJ, svH_63, svH_66, rfH_63, wvH_63, wvH_62, wvH_67, wvH_68, wvH_69, sc_63, sc_n62, sc_n67, sc_n68, sc_n69, sc_n70, reduceIte, Nat.reduceEqDiff, eq_self, up_up, up_self, up_ne, ne_eq, not_false_eq_true, Int.reduceEq, Int.reduceNeg, hI_wI, tAd_1, tAd_2, tAd_3, tAd_4, tAs_1, tAs_2, tAs_3, tAs_4]; omega))
  · rw [if_neg a] at h5
    rw [if_neg (by omega)] at dg
    by_cases b : nd w n 0 = 22 ∨ nd w n 0 = 23
    · rw [if_pos b] at h5
      rw [if_pos (by omega)] at dg
      have q1 : numL (hI h 2 (n * 8 + 1)) = [48 + nd w n 1] := by rw [g1]; exact numL_d (by omega) (by omega)
      have h5 : Rt none (wI h (tAs (tAd (hI h) 32) (numL (hI h 2 (n * 8 + 1))))) := by rw [q1]; exact h5
      repeat' (first | apply And.intro | (with_reducible assumption) | (intro h9; first | (exfalso; omega) | (simp only [rI_rI, rJ_rJ, hI_rI, hJ_rI, hI_rJ, hJ_rJ, hI_rR, hR_rI, hR_rJ, hN_rI, hN_rJ, svH_63, svH_66, rfH_63, wvH_63, wvH_62, wvH_67, wvH_68, wvH_69, sc_63, sc_n62, sc_n67, sc_n68, sc_n69, sc_n70, reduceIte, Nat.reduceEqDiff, eq_self, up_up, up_self, up_ne, ne_eq, not_false_eq_true, Int.reduceEq, Int.reduceNeg, hI_wI, tAd_1, tAd_2, tAd_3, tAd_4, tAs_1, tAs_2, tAs_3, tAs_4] at h9; first | (exfalso; omega) | skip) | skip) | exact (tAd_tl t0 _).1 | exact (tAd_tl t0 _).2 | (simp only [rI_rI, rJ_rJ, hI_rI, hJ_rI, hI_rJ, hJ_rJ, hI_rR, hR_rI, hR_rJ, hN_rI, hN_rJ, svH_63, svH_66, rfH_63, wvH_63, wvH_62, wvH_67, wvH_68, wvH_69, sc_63, sc_n62, sc_n67, sc_n68, sc_n69, sc_n70, reduceIte, Nat.reduceEqDiff, eq_self, up_up, up_self, up_ne, ne_eq, not_false_eq_true, Int.reduceEq, Int.reduceNeg, hI_wI, tAd_1, tAd_2, tAd_3, tAd_4, tAs_1, tAs_2, tAs_3, tAs_4]; exact h5) | exact h5 | exact h5 (by omega) | omega | exact True.intro | (simp only [rI_rI, rJ_rJ, hI_rI, hJ_rI, hI_rJ, hJ_rJ, hI_rR, hR_rI, hR_rJ, hN_rI, hN_rJ, svH_63, svH_66, rfH_63, wvH_63, wvH_62, wvH_67, wvH_68, wvH_69, sc_63, sc_n62, sc_n67, sc_n68, sc_n69, sc_n70, reduceIte, Nat.reduceEqDiff, eq_self, up_up, up_self, up_ne, ne_eq, not_false_eq_true, Int.reduceEq, Int.reduceNeg, hI_wI, tAd_1, tAd_2, tAd_3, tAd_4, tAs_1, tAs_2, tAs_3, tAs_4]; omega))
    · rw [if_neg b] at h5
      rw [if_neg (by omega)] at dg
      repeat' (first | apply And.intro | (with_reducible assumption) | (intro h9; first | (exfalso; omega) | (simp only [rI_rI, rJ_rJ, hI_rI, hJ_rI, hI_rJ, hJ_rJ, hI_rR, hR_rI, hR_rJ, hN_rI, hN_rJ, svH_63, svH_66, rfH_63, wvH_63, wvH_62, wvH_67, wvH_68, wvH_69, sc_63, sc_n62, sc_n67, sc_n68, sc_n69, sc_n70, reduceIte, Nat.reduceEqDiff, eq_self, up_up, up_self, up_ne, ne_eq, not_false_eq_true, Int.reduceEq, Int.reduceNeg, hI_wI, tAd_1, tAd_2, tAd_3, tAd_4, tAs_1, tAs_2, tAs_3, tAs_4] at h9; first | (exfalso; omega) | skip) | skip) | exact h5 | exact h5 | exact h5 (by omega) | omega | exact True.intro | (simp only [rI_rI, rJ_rJ, hI_rI, hJ_rI, hI_rJ, hJ_rJ, hI_rR, hR_rI, hR_rJ, hN_rI, hN_rJ, svH_63, svH_66, rfH_63, wvH_63, wvH_62, wvH_67, wvH_68, wvH_69, sc_63, sc_n62, sc_n67, sc_n68, sc_n69, sc_n70, reduceIte, Nat.reduceEqDiff, eq_self, up_up, up_self, up_ne, ne_eq, not_false_eq_true, Int.reduceEq, Int.reduceNeg, hI_wI, tAd_1, tAd_2, tAd_3, tAd_4, tAs_1, tAs_2, tAs_3, tAs_4]; omega))
theorem m_X8_addDigits : MM 133 s_X8_addDigits := mm_of (own := 7) (by rfl) k_X8_addDigits (cl := [(126, s_X7_add), (5, s_X0_get), (134, s_X8_addNumber), (39, s_X2_digitCount), (6, s_X0_width)]) ⟨m_X7_add, m_X0_get, m_X8_addNumber, m_X2_digitCount, m_X0_width, trivial⟩ o_X8_addDigits

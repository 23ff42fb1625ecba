/-! ===== the class: its graph ===== -/
/-- the graph's rows hold the nodes and variables of w -/
def GR (f1 f2 f3 f4 w : Int → Int) : Prop := Box (f1 3 = w 0 ∧ f1 4 = w 281 ∧ (∀ n, 0 ≤ n → n < w 0 → f2 (n * 8 + 0) = nd w n 0 ∧ f2 (n * 8 + 1) = nd w n 1 ∧ f2 (n * 8 + 2) = nd w n 2 ∧ f2 (n * 8 + 3) = nd w n 3 ∧ f2 (n * 8 + 4) = nd w n 4 ∧
  (nd w n 0 = 21 → f2 (n * 8 + 5) = -1 ∧ f2 (n * 8 + 6) = nd w n 5 ∧ f2 (n * 8 + 7) = nd w n 6) ∧ (nd w n 0 ≠ 21 → f2 (n * 8 + 5) = nd w n 5 ∧ f2 (n * 8 + 6) = -1 ∧ f2 (n * 8 + 7) = -1)) ∧ ∀ v, 0 ≤ v → v < w 281 → f3 v = w (282 + v) ∧ f4 v = sumW w (v + 1).toNat)
def GH (h : Hp) (w : Int → Int) : Prop := GR (hI h 1) (hI h 2) (hI h 3) (hI h 4) w
theorem GH.n {h : Hp} {w : Int → Int} (g : GH h w) : hI h 1 3 = w 0 := (Box.o g).1
theorem GH.v {h : Hp} {w : Int → Int} (g : GH h w) : hI h 1 4 = w 281 := (Box.o g).2.1
theorem GH.k0 {h : Hp} {w : Int → Int} (g : GH h w) {n : Int} (h0 : 0 ≤ n) (h1 : n < w 0) : hI h 2 (n * 8 + 0) = nd w n 0 := ((Box.o g).2.2.1 n h0 h1).1
theorem GH.k1 {h : Hp} {w : Int → Int} (g : GH h w) {n : Int} (h0 : 0 ≤ n) (h1 : n < w 0) : hI h 2 (n * 8 + 1) = nd w n 1 := ((Box.o g).2.2.1 n h0 h1).2.1
theorem GH.k2 {h : Hp} {w : Int → Int} (g : GH h w) {n : Int} (h0 : 0 ≤ n) (h1 : n < w 0) : hI h 2 (n * 8 + 2) = nd w n 2 := ((Box.o g).2.2.1 n h0 h1).2.2.1
theorem GH.k3 {h : Hp} {w : Int → Int} (g : GH h w) {n : Int} (h0 : 0 ≤ n) (h1 : n < w 0) : hI h 2 (n * 8 + 3) = nd w n 3 := ((Box.o g).2.2.1 n h0 h1).2.2.2.1
theorem GH.k4 {h : Hp} {w : Int → Int} (g : GH h w) {n : Int} (h0 : 0 ≤ n) (h1 : n < w 0) : hI h 2 (n * 8 + 4) = nd w n 4 := ((Box.o g).2.2.1 n h0 h1).2.2.2.2.1
theorem GH.sl {h : Hp} {w : Int → Int} (g : GH h w) {n : Int} (h0 : 0 ≤ n) (h1 : n < w 0) (k : nd w n 0 = 21) : hI h 2 (n * 8 + 5) = -1 ∧ hI h 2 (n * 8 + 6) = nd w n 5 ∧ hI h 2 (n * 8 + 7) = nd w n 6 := ((Box.o g).2.2.1 n h0 h1).2.2.2.2.2.1 k
theorem GH.ns {h : Hp} {w : Int → Int} (g : GH h w) {n : Int} (h0 : 0 ≤ n) (h1 : n < w 0) (k : nd w n 0 ≠ 21) : hI h 2 (n * 8 + 5) = nd w n 5 ∧ hI h 2 (n * 8 + 6) = -1 ∧ hI h 2 (n * 8 + 7) = -1 := ((Box.o g).2.2.1 n h0 h1).2.2.2.2.2.2 k
theorem GH.vn {h : Hp} {w : Int → Int} (g : GH h w) {v : Int} (h0 : 0 ≤ v) (h1 : v < w 281) : hI h 3 v = w (282 + v) := ((Box.o g).2.2.2 v h0 h1).1
theorem GH.ve {h : Hp} {w : Int → Int} (g : GH h w) {v : Int} (h0 : 0 ≤ v) (h1 : v < w 281) : hI h 4 v = sumW w (v + 1).toNat := ((Box.o g).2.2.2 v h0 h1).2
theorem fullW {k : Int} (h0 : 0 ≤ k) (h1 : k ≤ 20) : sShl 1 k = p2 k := by
  rw [sShl_eq h0 (by omega) (by omega) (by have := p2_le20 h1; omega), Int.one_mul]
def s_X9_fullWord : CS := (zc 1, ap [(0, 0)] (fun k h Rt X =>
(0 ≤ k ∧ k ≤ 20) ∧ Rt (some (.inl (p2 k - 1))) h))
set_option maxRecDepth 100000 in
set_option maxHeartbeats 4000000 in
theorem o_X9_fullWord : Obl true 1 1 (sp []) [] code_X9_fullWord s_X9_fullWord := by
  refine obl0 (by rfl) ?_
  intro k r_k h Rt X hh hf hs
  obtain ⟨h1, h2⟩ := hs
  have hp := p2_pos k
  have hp2 := p2_le20 h1.2
  have e := fullW h1.1 h1.2
  rw [← e] at h2 hp hp2
  repeat' (first | apply And.intro | (with_reducible assumption) | (intro h9; first | (exfalso; omega) | (simp only [rI_rI, rJ_rJ, hI_rI, hJ_rI, hI_rJ, hJ_rJ, hR_rI, hR_rJ, hN_rI, hN_rJ, svH_63, svH_66, rfH_63, wvH_63, wvH_62, wvH_67, wvH_68, wvH_69, sc_63, sc_n62, sc_n67, sc_n68, sc_n69, sc_n70, reduceIte, Nat.reduceEqDiff, eq_self, up_up, up_self, up_ne, ne_eq, not_false_eq_true, Int.reduceEq, Int.reduceNeg] at h9; first | (exfalso; omega) | skip) | skip) | exact h1 | exact h1 (by omega) | exact h2 | exact h2 (by omega) | omega | exact True.intro | (simp only [rI_rI, rJ_rJ, hI_rI, hJ_rI, hI_rJ, hJ_rJ, hR_rI, hR_rJ, hN_rI, hN_rJ, svH_63, svH_66, rfH_63, wvH_63, wvH_62, wvH_67, wvH_68, wvH_69, sc_63, sc_n62, sc_n67, sc_n68, sc_n69, sc_n70, reduceIte, Nat.reduceEqDiff, eq_self, up_up, up_self, up_ne, ne_eq, not_false_eq_true, Int.reduceEq, Int.reduceNeg]; omega))
theorem m_X9_fullWord : MM 187 s_X9_fullWord := mm_of (own := 8) (by rfl) k_X9_fullWord (cl := []) trivial o_X9_fullWord
def s_X9_isWidth : CS := (zc 1, ap [(0, 0)] (fun k h Rt X =>
(1 ≤ k ∧ k ≤ 8 → Rt (some (.inl 1)) h) ∧ (¬ (1 ≤ k ∧ k ≤ 8) → Rt (some (.inl 0)) h)))
set_option maxRecDepth 100000 in
set_option maxHeartbeats 4000000 in
theorem o_X9_isWidth : Obl true 2 1 (sp []) [] code_X9_isWidth s_X9_isWidth := by
  refine obl0 (by rfl) ?_
  intro k r_k h Rt X hh hf hs
  obtain ⟨h1, h2⟩ := hs
  repeat' (first | apply And.intro | (with_reducible assumption) | (intro h9; first | (exfalso; omega) | (simp only [rI_rI, rJ_rJ, hI_rI, hJ_rI, hI_rJ, hJ_rJ, hR_rI, hR_rJ, hN_rI, hN_rJ, svH_63, svH_66, rfH_63, wvH_63, wvH_62, wvH_67, wvH_68, wvH_69, sc_63, sc_n62, sc_n67, sc_n68, sc_n69, sc_n70, reduceIte, Nat.reduceEqDiff, eq_self, up_up, up_self, up_ne, ne_eq, not_false_eq_true, Int.reduceEq, Int.reduceNeg] at h9; first | (exfalso; omega) | skip) | skip) | exact h1 | exact h1 (by omega) | exact h2 | exact h2 (by omega) | omega | exact True.intro | (simp only [rI_rI, rJ_rJ, hI_rI, hJ_rI, hI_rJ, hJ_rJ, hR_rI, hR_rJ, hN_rI, hN_rJ, svH_63, svH_66, rfH_63, wvH_63, wvH_62, wvH_67, wvH_68, wvH_69, sc_63, sc_n62, sc_n67, sc_n68, sc_n69, sc_n70, reduceIte, Nat.reduceEqDiff, eq_self, up_up, up_self, up_ne, ne_eq, not_false_eq_true, Int.reduceEq, Int.reduceNeg]; omega))
theorem m_X9_isWidth : MM 185 s_X9_isWidth := mm_of (own := 8) (by rfl) k_X9_isWidth (cl := []) trivial o_X9_isWidth
def s_X9_isWord : CS := (zc 2, ap [(0, 0), (0, 0)] (fun k v h Rt X =>
(1 ≤ k ∧ k ≤ 8 ∧ 0 ≤ v ∧ v ≤ p2 k - 1 → Rt (some (.inl 1)) h) ∧ (¬ (1 ≤ k ∧ k ≤ 8 ∧ 0 ≤ v ∧ v ≤ p2 k - 1) → Rt (some (.inl 0)) h)))
set_option maxRecDepth 100000 in
set_option maxHeartbeats 4000000 in
theorem o_X9_isWord : Obl true 2 2 (sp [(185, s_X9_isWidth), (187, s_X9_fullWord)]) [] code_X9_isWord s_X9_isWord := by
  refine obl0 (by rfl) ?_
  intro k r_k v r_v h Rt X hh hf hs
  obtain ⟨h1, h2⟩ := hs
  repeat' (first | apply And.intro | (with_reducible assumption) | (intro h9; first | (exfalso; omega) | (simp only [rI_rI, rJ_rJ, hI_rI, hJ_rI, hI_rJ, hJ_rJ, hR_rI, hR_rJ, hN_rI, hN_rJ, svH_63, svH_66, rfH_63, wvH_63, wvH_62, wvH_67, wvH_68, wvH_69, sc_63, sc_n62, sc_n67, sc_n68, sc_n69, sc_n70, reduceIte, Nat.reduceEqDiff, eq_self, up_up, up_self, up_ne, ne_eq, not_false_eq_true, Int.reduceEq, Int.reduceNeg] at h9; first | (exfalso; omega) | skip) | skip) | exact h1 | exact h1 (by omega) | exact h2 | exact h2 (by omega) | omega | exact True.intro | (simp only [rI_rI, rJ_rJ, hI_rI, hJ_rI, hI_rJ, hJ_rJ, hR_rI, hR_rJ, hN_rI, hN_rJ, svH_63, svH_66, rfH_63, wvH_63, wvH_62, wvH_67, wvH_68, wvH_69, sc_63, sc_n62, sc_n67, sc_n68, sc_n69, sc_n70, reduceIte, Nat.reduceEqDiff, eq_self, up_up, up_self, up_ne, ne_eq, not_false_eq_true, Int.reduceEq, Int.reduceNeg]; omega))
theorem m_X9_isWord : MM 186 s_X9_isWord := mm_of (own := 8) (by rfl) k_X9_isWord (cl := [(185, s_X9_isWidth), (187, s_X9_fullWord)]) ⟨m_X9_isWidth, m_X9_fullWord, trivial⟩ o_X9_isWord
def s_X9_signedWord : CS := (zc 1, ap [(0, 0), (0, 0)] (fun v k h Rt X =>
(1 ≤ k ∧ k ≤ 8 ∧ 0 ≤ v ∧ v < p2 k) ∧ Rt (some (.inl (sgn v k))) h))
set_option maxRecDepth 100000 in
set_option maxHeartbeats 4000000 in
theorem o_X9_signedWord : Obl true 1 2 (sp []) [] code_X9_signedWord s_X9_signedWord := by
  refine obl0 (by rfl) ?_
  intro v r_v k r_k h Rt X hh hf hs
  obtain ⟨h1, h2⟩ := hs
  obtain ⟨a1, a2, a3, a4⟩ := h1
  have e3 := p2_le8 a2
  have e2 := fullW (show 0 ≤ k by omega) (by omega)
  have hp := p2_pos (k - 1)
  have e5 : p2 k = 2 * p2 (k - 1) := by rw [← p2_succ (by omega)]; congr 1; omega
  by_cases c : p2 (k - 1) ≤ v
  · have e1 : sgn v k = v - sShl 1 k := by unfold sgn; rw [if_pos c, e2]
    have e : sShr v (k - 1) = 1 := by
      rw [sShr_eq ⟨by omega, by omega⟩ (by omega) (by omega), Int.ediv_eq_iff_of_pos hp]
      omega
    rw [e1] at h2
    repeat' (first | apply And.intro | (with_reducible assumption) | (intro h9; first | (exfalso; omega) | (simp only [rI_rI, rJ_rJ, hI_rI, hJ_rI, hI_rJ, hJ_rJ, hR_rI, hR_rJ, hN_rI, hN_rJ, svH_63, svH_66, rfH_63, wvH_63, wvH_62, wvH_67, wvH_68, wvH_69, sc_63, sc_n62, sc_n67, sc_n68, sc_n69, sc_n70, reduceIte, Nat.reduceEqDiff, eq_self, up_up, up_self, up_ne, ne_eq, not_false_eq_true, Int.reduceEq, Int.reduceNeg] at h9; first | (exfalso; omega) | skip) | skip) | exact h1 | exact h1 (by omega) | exact h2 | exact h2 (by omega) | omega | exact True.intro | (simp only [rI_rI, rJ_rJ, hI_rI, hJ_rI, hI_rJ, hJ_rJ, hR_rI, hR_rJ, hN_rI, hN_rJ, svH_63, svH_66, rfH_63, wvH_63, wvH_62, wvH_67, wvH_68, wvH_69, sc_63, sc_n62, sc_n67, sc_n68, sc_n69, sc_n70, reduceIte, Nat.reduceEqDiff, eq_self, up_up, up_self, up_ne, ne_eq, not_false_eq_true, Int.reduceEq, Int.reduceNeg]; omega))
  · have e1 : sgn v k = v := by unfold sgn; rw [if_neg c]
    have e : sShr v (k - 1) = 0 := by
      rw [sShr_eq ⟨by omega, by omega⟩ (by omega) (by omega), Int.ediv_eq_zero_of_lt a3 (by omega)]
    rw [e1] at h2
    repeat' (first | apply And.intro | (with_reducible assumption) | (intro h9; first | (exfalso; omega) | (simp only [rI_rI, rJ_rJ, hI_rI, hJ_rI, hI_rJ, hJ_rJ, hR_rI, hR_rJ, hN_rI, hN_rJ, svH_63, svH_66, rfH_63, wvH_63, wvH_62, wvH_67, wvH_68, wvH_69, sc_63, sc_n62, sc_n67, sc_n68, sc_n69, sc_n70, reduceIte, Nat.reduceEqDiff, eq_self, up_up, up_self, up_ne, ne_eq, not_false_eq_true, Int.reduceEq, Int.reduceNeg] at h9; first | (exfalso; omega) | skip) | skip) | exact h1 | exact h1 (by omega) | exact h2 | exact h2 (by omega) | omega | exact True.intro | (simp only [rI_rI, rJ_rJ, hI_rI, hJ_rI, hI_rJ, hJ_rJ, hR_rI, hR_rJ, hN_rI, hN_rJ, svH_63, svH_66, rfH_63, wvH_63, wvH_62, wvH_67, wvH_68, wvH_69, sc_63, sc_n62, sc_n67, sc_n68, sc_n69, sc_n70, reduceIte, Nat.reduceEqDiff, eq_self, up_up, up_self, up_ne, ne_eq, not_false_eq_true, Int.reduceEq, Int.reduceNeg]; omega))
theorem m_X9_signedWord : MM 188 s_X9_signedWord := mm_of (own := 8) (by rfl) k_X9_signedWord (cl := []) trivial o_X9_signedWord
def s_X0_count : CS := (zc 1, ap [(3, 1)] (fun  h Rt X =>
Rt (some (.inl (hI h 1 3))) h))
set_option maxRecDepth 100000 in
set_option maxHeartbeats 4000000 in
theorem o_X0_count : Obl true 1 1 (sp []) [] code_X0_count s_X0_count := by
  refine obl0 (by rfl) ?_
  intro  h Rt X hh hf hs
  repeat' (first | apply And.intro | (with_reducible assumption) | (intro h9; first | (exfalso; omega) | (simp only [rI_rI, rJ_rJ, hI_rI, hJ_rI, hI_rJ, hJ_rJ, hR_rI, hR_rJ, hN_rI, hN_rJ, svH_63, svH_66, rfH_63, wvH_63, wvH_62, wvH_67, wvH_68, wvH_69, sc_63, sc_n62, sc_n67, sc_n68, sc_n69, sc_n70, reduceIte, Nat.reduceEqDiff, eq_self, up_up, up_self, up_ne, ne_eq, not_false_eq_true, Int.reduceEq, Int.reduceNeg] at h9; first | (exfalso; omega) | skip) | skip) | exact hs | omega | exact True.intro | (simp only [rI_rI, rJ_rJ, hI_rI, hJ_rI, hI_rJ, hJ_rJ, hR_rI, hR_rJ, hN_rI, hN_rJ, svH_63, svH_66, rfH_63, wvH_63, wvH_62, wvH_67, wvH_68, wvH_69, sc_63, sc_n62, sc_n67, sc_n68, sc_n69, sc_n70, reduceIte, Nat.reduceEqDiff, eq_self, up_up, up_self, up_ne, ne_eq, not_false_eq_true, Int.reduceEq, Int.reduceNeg]; omega))
theorem m_X0_count : MM 1 s_X0_count := mm_of (own := 0) (by rfl) k_X0_count (cl := []) trivial o_X0_count
def s_X0_variableCount : CS := (zc 1, ap [(3, 1)] (fun  h Rt X =>
Rt (some (.inl (hI h 1 4))) h))
set_option maxRecDepth 100000 in
set_option maxHeartbeats 4000000 in
theorem o_X0_variableCount : Obl true 1 1 (sp []) [] code_X0_variableCount s_X0_variableCount := by
  refine obl0 (by rfl) ?_
  intro  h Rt X hh hf hs
  repeat' (first | apply And.intro | (with_reducible assumption) | (intro h9; first | (exfalso; omega) | (simp only [rI_rI, rJ_rJ, hI_rI, hJ_rI, hI_rJ, hJ_rJ, hR_rI, hR_rJ, hN_rI, hN_rJ, svH_63, svH_66, rfH_63, wvH_63, wvH_62, wvH_67, wvH_68, wvH_69, sc_63, sc_n62, sc_n67, sc_n68, sc_n69, sc_n70, reduceIte, Nat.reduceEqDiff, eq_self, up_up, up_self, up_ne, ne_eq, not_false_eq_true, Int.reduceEq, Int.reduceNeg] at h9; first | (exfalso; omega) | skip) | skip) | exact hs | omega | exact True.intro | (simp only [rI_rI, rJ_rJ, hI_rI, hJ_rI, hI_rJ, hJ_rJ, hR_rI, hR_rJ, hN_rI, hN_rJ, svH_63, svH_66, rfH_63, wvH_63, wvH_62, wvH_67, wvH_68, wvH_69, sc_63, sc_n62, sc_n67, sc_n68, sc_n69, sc_n70, reduceIte, Nat.reduceEqDiff, eq_self, up_up, up_self, up_ne, ne_eq, not_false_eq_true, Int.reduceEq, Int.reduceNeg]; omega))
theorem m_X0_variableCount : MM 2 s_X0_variableCount := mm_of (own := 0) (by rfl) k_X0_variableCount (cl := []) trivial o_X0_variableCount
def s_X0_has : CS := (zc 1, ap [(3, 1), (0, 0)] (fun n h Rt X =>
(0 ≤ n ∧ n < hI h 1 3 → Rt (some (.inl 1)) h) ∧ (¬ (0 ≤ n ∧ n < hI h 1 3) → Rt (some (.inl 0)) h)))
set_option maxRecDepth 100000 in
set_option maxHeartbeats 4000000 in
theorem o_X0_has : Obl true 2 2 (sp []) [] code_X0_has s_X0_has := by
  refine obl0 (by rfl) ?_
  intro n r_n h Rt X hh hf hs
  obtain ⟨h1, h2⟩ := hs
  repeat' (first | apply And.intro | (with_reducible assumption) | (intro h9; first | (exfalso; omega) | (simp only [rI_rI, rJ_rJ, hI_rI, hJ_rI, hI_rJ, hJ_rJ, hR_rI, hR_rJ, hN_rI, hN_rJ, svH_63, svH_66, rfH_63, wvH_63, wvH_62, wvH_67, wvH_68, wvH_69, sc_63, sc_n62, sc_n67, sc_n68, sc_n69, sc_n70, reduceIte, Nat.reduceEqDiff, eq_self, up_up, up_self, up_ne, ne_eq, not_false_eq_true, Int.reduceEq, Int.reduceNeg] at h9; first | (exfalso; omega) | skip) | skip) | exact h1 | exact h1 (by omega) | exact h2 | exact h2 (by omega) | omega | exact True.intro | (simp only [rI_rI, rJ_rJ, hI_rI, hJ_rI, hI_rJ, hJ_rJ, hR_rI, hR_rJ, hN_rI, hN_rJ, svH_63, svH_66, rfH_63, wvH_63, wvH_62, wvH_67, wvH_68, wvH_69, sc_63, sc_n62, sc_n67, sc_n68, sc_n69, sc_n70, reduceIte, Nat.reduceEqDiff, eq_self, up_up, up_self, up_ne, ne_eq, not_false_eq_true, Int.reduceEq, Int.reduceNeg]; omega))
theorem m_X0_has : MM 3 s_X0_has := mm_of (own := 0) (by rfl) k_X0_has (cl := []) trivial o_X0_has
def s_X0_hasVariable : CS := (zc 1, ap [(3, 1), (0, 0)] (fun n h Rt X =>
(0 ≤ n ∧ n < hI h 1 4 → Rt (some (.inl 1)) h) ∧ (¬ (0 ≤ n ∧ n < hI h 1 4) → Rt (some (.inl 0)) h)))
set_option maxRecDepth 100000 in
set_option maxHeartbeats 4000000 in
theorem o_X0_hasVariable : Obl true 2 2 (sp []) [] code_X0_hasVariable s_X0_hasVariable := by
  refine obl0 (by rfl) ?_
  intro n r_n h Rt X hh hf hs
  obtain ⟨h1, h2⟩ := hs
  repeat' (first | apply And.intro | (with_reducible assumption) | (intro h9; first | (exfalso; omega) | (simp only [rI_rI, rJ_rJ, hI_rI, hJ_rI, hI_rJ, hJ_rJ, hR_rI, hR_rJ, hN_rI, hN_rJ, svH_63, svH_66, rfH_63, wvH_63, wvH_62, wvH_67, wvH_68, wvH_69, sc_63, sc_n62, sc_n67, sc_n68, sc_n69, sc_n70, reduceIte, Nat.reduceEqDiff, eq_self, up_up, up_self, up_ne, ne_eq, not_false_eq_true, Int.reduceEq, Int.reduceNeg] at h9; first | (exfalso; omega) | skip) | skip) | exact h1 | exact h1 (by omega) | exact h2 | exact h2 (by omega) | omega | exact True.intro | (simp only [rI_rI, rJ_rJ, hI_rI, hJ_rI, hI_rJ, hJ_rJ, hR_rI, hR_rJ, hN_rI, hN_rJ, svH_63, svH_66, rfH_63, wvH_63, wvH_62, wvH_67, wvH_68, wvH_69, sc_63, sc_n62, sc_n67, sc_n68, sc_n69, sc_n70, reduceIte, Nat.reduceEqDiff, eq_self, up_up, up_self, up_ne, ne_eq, not_false_eq_true, Int.reduceEq, Int.reduceNeg]; omega))
theorem m_X0_hasVariable : MM 4 s_X0_hasVariable := mm_of (own := 0) (by rfl) k_X0_hasVariable (cl := []) trivial o_X0_hasVariable
def s_X0_get : CS := (zc 1, ap [(3, 1), (0, 0), (0, 0)] (fun n j h Rt X =>
(0 ≤ hI h 1 3 ∧ hI h 1 3 ≤ 40) ∧ (0 ≤ n ∧ n < hI h 1 3 ∧ 0 ≤ j ∧ j < 8 → Rt (some (.inl (hI h 2 (n * 8 + j)))) h) ∧ (¬ (0 ≤ n ∧ n < hI h 1 3 ∧ 0 ≤ j ∧ j < 8) → Rt (some (.inl (-1))) h)))
set_option maxRecDepth 100000 in
set_option maxHeartbeats 4000000 in
theorem o_X0_get : Obl true 1 4 (sp []) [] code_X0_get s_X0_get := by
  refine obl0 (by rfl) ?_
  intro n r_n j r_j h Rt X hh hf hs
  obtain ⟨⟨a1, a2⟩, h2, h3⟩ := hs
  repeat' (first | apply And.intro | (with_reducible assumption) | (intro h9; first | (exfalso; omega) | (simp only [rI_rI, rJ_rJ, hI_rI, hJ_rI, hI_rJ, hJ_rJ, hR_rI, hR_rJ, hN_rI, hN_rJ, svH_63, svH_66, rfH_63, wvH_63, wvH_62, wvH_67, wvH_68, wvH_69, sc_63, sc_n62, sc_n67, sc_n68, sc_n69, sc_n70, reduceIte, Nat.reduceEqDiff, eq_self, up_up, up_self, up_ne, ne_eq, not_false_eq_true, Int.reduceEq, Int.reduceNeg] at h9; first | (exfalso; omega) | skip) | skip) | exact h2 | exact h2 (by omega) | exact h3 | exact h3 (by omega) | omega | exact True.intro | (simp only [rI_rI, rJ_rJ, hI_rI, hJ_rI, hI_rJ, hJ_rJ, hR_rI, hR_rJ, hN_rI, hN_rJ, svH_63, svH_66, rfH_63, wvH_63, wvH_62, wvH_67, wvH_68, wvH_69, sc_63, sc_n62, sc_n67, sc_n68, sc_n69, sc_n70, reduceIte, Nat.reduceEqDiff, eq_self, up_up, up_self, up_ne, ne_eq, not_false_eq_true, Int.reduceEq, Int.reduceNeg]; omega))
theorem m_X0_get : MM 5 s_X0_get := mm_of (own := 0) (by rfl) k_X0_get (cl := []) trivial o_X0_get
def s_X0_width : CS := (zc 2, ap [(3, 1), (0, 0)] (fun n h Rt X =>
(0 ≤ hI h 1 3 ∧ hI h 1 3 ≤ 40) ∧ (0 ≤ n ∧ n < hI h 1 3 → Rt (some (.inl (hI h 2 (n * 8 + 1)))) h) ∧ (¬ (0 ≤ n ∧ n < hI h 1 3) → Rt (some (.inl (-1))) h)))
set_option maxRecDepth 100000 in
set_option maxHeartbeats 4000000 in
theorem o_X0_width : Obl true 1 2 (sp [(5, s_X0_get)]) [] code_X0_width s_X0_width := by
  refine obl0 (by rfl) ?_
  intro n r_n h Rt X hh hf hs
  obtain ⟨⟨a1, a2⟩, h2, h3⟩ := hs
  repeat' (first | apply And.intro | (with_reducible assumption) | (intro h9; first | (exfalso; omega) | (simp only [rI_rI, rJ_rJ, hI_rI, hJ_rI, hI_rJ, hJ_rJ, hR_rI, hR_rJ, hN_rI, hN_rJ, svH_63, svH_66, rfH_63, wvH_63, wvH_62, wvH_67, wvH_68, wvH_69, sc_63, sc_n62, sc_n67, sc_n68, sc_n69, sc_n70, reduceIte, Nat.reduceEqDiff, eq_self, up_up, up_self, up_ne, ne_eq, not_false_eq_true, Int.reduceEq, Int.reduceNeg] at h9; first | (exfalso; omega) | skip) | skip) | exact h2 | exact h2 (by omega) | exact h3 | exact h3 (by omega) | omega | exact True.intro | (simp only [rI_rI, rJ_rJ, hI_rI, hJ_rI, hI_rJ, hJ_rJ, hR_rI, hR_rJ, hN_rI, hN_rJ, svH_63, svH_66, rfH_63, wvH_63, wvH_62, wvH_67, wvH_68, wvH_69, sc_63, sc_n62, sc_n67, sc_n68, sc_n69, sc_n70, reduceIte, Nat.reduceEqDiff, eq_self, up_up, up_self, up_ne, ne_eq, not_false_eq_true, Int.reduceEq, Int.reduceNeg]; omega))
theorem m_X0_width : MM 6 s_X0_width := mm_of (own := 0) (by rfl) k_X0_width (cl := [(5, s_X0_get)]) ⟨m_X0_get, trivial⟩ o_X0_width
def s_X0_variableNode : CS := (zc 2, ap [(3, 1), (0, 0)] (fun v h Rt X =>
(0 ≤ hI h 1 4 ∧ hI h 1 4 ≤ 4) ∧ (0 ≤ v ∧ v < hI h 1 4 → Rt (some (.inl (hI h 3 v))) h) ∧ (¬ (0 ≤ v ∧ v < hI h 1 4) → Rt (some (.inl (-1))) h)))
set_option maxRecDepth 100000 in
set_option maxHeartbeats 4000000 in
theorem o_X0_variableNode : Obl true 1 2 (sp [(4, s_X0_hasVariable)]) [] code_X0_variableNode s_X0_variableNode := by
  refine obl0 (by rfl) ?_
  intro v r_v h Rt X hh hf hs
  obtain ⟨⟨a1, a2⟩, h2, h3⟩ := hs
  repeat' (first | apply And.intro | (with_reducible assumption) | (intro h9; first | (exfalso; omega) | (simp only [rI_rI, rJ_rJ, hI_rI, hJ_rI, hI_rJ, hJ_rJ, hR_rI, hR_rJ, hN_rI, hN_rJ, svH_63, svH_66, rfH_63, wvH_63, wvH_62, wvH_67, wvH_68, wvH_69, sc_63, sc_n62, sc_n67, sc_n68, sc_n69, sc_n70, reduceIte, Nat.reduceEqDiff, eq_self, up_up, up_self, up_ne, ne_eq, not_false_eq_true, Int.reduceEq, Int.reduceNeg] at h9; first | (exfalso; omega) | skip) | skip) | exact h2 | exact h2 (by omega) | exact h3 | exact h3 (by omega) | omega | exact True.intro | (simp only [rI_rI, rJ_rJ, hI_rI, hJ_rI, hI_rJ, hJ_rJ, hR_rI, hR_rJ, hN_rI, hN_rJ, svH_63, svH_66, rfH_63, wvH_63, wvH_62, wvH_67, wvH_68, wvH_69, sc_63, sc_n62, sc_n67, sc_n68, sc_n69, sc_n70, reduceIte, Nat.reduceEqDiff, eq_self, up_up, up_self, up_ne, ne_eq, not_false_eq_true, Int.reduceEq, Int.reduceNeg]; omega))
theorem m_X0_variableNode : MM 7 s_X0_variableNode := mm_of (own := 0) (by rfl) k_X0_variableNode (cl := [(4, s_X0_hasVariable)]) ⟨m_X0_hasVariable, trivial⟩ o_X0_variableNode
def s_X0_variableWidth : CS := (zc 3, ap [(3, 1), (0, 0)] (fun v h Rt X =>
∃ w, GH h w ∧ WF w ∧ (0 ≤ v ∧ v < w 281) ∧ Rt (some (.inl (nd w (w (282 + v)) 1))) h))
set_option maxRecDepth 100000 in
set_option maxHeartbeats 4000000 in
theorem o_X0_variableWidth : Obl true 1 2 (sp [(7, s_X0_variableNode), (5, s_X0_get)]) [] code_X0_variableWidth s_X0_variableWidth := by
  refine obl0 (by rfl) ?_
  intro v r_v h Rt X hh hf hs
  obtain ⟨w, hG, hW, ⟨a1, a2⟩, h2⟩ := hs
  have c1 := hG.n
  have c2 := hG.v
  have c3 := hW.nn
  have c4 := hW.vn
  have c5 := hG.vn a1 a2
  have c6 := hW.var a1 a2
  have c7 := hG.k1 c6.1 c6.2.1
  rw [← c7, ← c5] at h2
  repeat' (first | apply And.intro | (with_reducible assumption) | (intro h9; first | (exfalso; omega) | (simp only [rI_rI, rJ_rJ, hI_rI, hJ_rI, hI_rJ, hJ_rJ, hR_rI, hR_rJ, hN_rI, hN_rJ, svH_63, svH_66, rfH_63, wvH_63, wvH_62, wvH_67, wvH_68, wvH_69, sc_63, sc_n62, sc_n67, sc_n68, sc_n69, sc_n70, reduceIte, Nat.reduceEqDiff, eq_self, up_up, up_self, up_ne, ne_eq, not_false_eq_true, Int.reduceEq, Int.reduceNeg] at h9; first | (exfalso; omega) | skip) | skip) | exact h2 | exact h2 (by omega) | omega | exact True.intro | (simp only [rI_rI, rJ_rJ, hI_rI, hJ_rI, hI_rJ, hJ_rJ, hR_rI, hR_rJ, hN_rI, hN_rJ, svH_63, svH_66, rfH_63, wvH_63, wvH_62, wvH_67, wvH_68, wvH_69, sc_63, sc_n62, sc_n67, sc_n68, sc_n69, sc_n70, reduceIte, Nat.reduceEqDiff, eq_self, up_up, up_self, up_ne, ne_eq, not_false_eq_true, Int.reduceEq, Int.reduceNeg]; omega))
theorem m_X0_variableWidth : MM 8 s_X0_variableWidth := mm_of (own := 0) (by rfl) k_X0_variableWidth (cl := [(7, s_X0_variableNode), (5, s_X0_get)]) ⟨m_X0_variableNode, m_X0_get, trivial⟩ o_X0_variableWidth
def s_X0_variableBits : CS := (zc 1, ap [(3, 1)] (fun  h Rt X =>
∃ w, GH h w ∧ WF w ∧ Rt (some (.inl (sumW w (w 281).toNat))) h))
set_option maxRecDepth 100000 in
set_option maxHeartbeats 4000000 in
theorem o_X0_variableBits : Obl true 1 1 (sp []) [] code_X0_variableBits s_X0_variableBits := by
  refine obl0 (by rfl) ?_
  intro  h Rt X hh hf hs
  obtain ⟨w, hG, hW, h2⟩ := hs
  have c2 := hG.v
  have c4 := hW.vn
  by_cases z : 0 < w 281
  · have c5 := hG.ve (v := w 281 - 1) (by omega) (by omega)
    rw [show w 281 - 1 + 1 = w 281 by omega] at c5
    rw [← c5, ← c2] at h2
    repeat' (first | apply And.intro | (with_reducible assumption) | (intro h9; first | (exfalso; omega) | (simp only [rI_rI, rJ_rJ, hI_rI, hJ_rI, hI_rJ, hJ_rJ, hR_rI, hR_rJ, hN_rI, hN_rJ, svH_63, svH_66, rfH_63, wvH_63, wvH_62, wvH_67, wvH_68, wvH_69, sc_63, sc_n62, sc_n67, sc_n68, sc_n69, sc_n70, reduceIte, Nat.reduceEqDiff, eq_self, up_up, up_self, up_ne, ne_eq, not_false_eq_true, Int.reduceEq, Int.reduceNeg] at h9; first | (exfalso; omega) | skip) | skip) | exact h2 | exact h2 (by omega) | omega | exact True.intro | (simp only [rI_rI, rJ_rJ, hI_rI, hJ_rI, hI_rJ, hJ_rJ, hR_rI, hR_rJ, hN_rI, hN_rJ, svH_63, svH_66, rfH_63, wvH_63, wvH_62, wvH_67, wvH_68, wvH_69, sc_63, sc_n62, sc_n67, sc_n68, sc_n69, sc_n70, reduceIte, Nat.reduceEqDiff, eq_self, up_up, up_self, up_ne, ne_eq, not_false_eq_true, Int.reduceEq, Int.reduceNeg]; omega))
  · have e : sumW w (w 281).toNat = 0 := by rw [show (w 281).toNat = 0 by omega]; rfl
    rw [e] at h2
    repeat' (first | apply And.intro | (with_reducible assumption) | (intro h9; first | (exfalso; omega) | (simp only [rI_rI, rJ_rJ, hI_rI, hJ_rI, hI_rJ, hJ_rJ, hR_rI, hR_rJ, hN_rI, hN_rJ, svH_63, svH_66, rfH_63, wvH_63, wvH_62, wvH_67, wvH_68, wvH_69, sc_63, sc_n62, sc_n67, sc_n68, sc_n69, sc_n70, reduceIte, Nat.reduceEqDiff, eq_self, up_up, up_self, up_ne, ne_eq, not_false_eq_true, Int.reduceEq, Int.reduceNeg] at h9; first | (exfalso; omega) | skip) | skip) | exact h2 | exact h2 (by omega) | omega | exact True.intro | (simp only [rI_rI, rJ_rJ, hI_rI, hJ_rI, hI_rJ, hJ_rJ, hR_rI, hR_rJ, hN_rI, hN_rJ, svH_63, svH_66, rfH_63, wvH_63, wvH_62, wvH_67, wvH_68, wvH_69, sc_63, sc_n62, sc_n67, sc_n68, sc_n69, sc_n70, reduceIte, Nat.reduceEqDiff, eq_self, up_up, up_self, up_ne, ne_eq, not_false_eq_true, Int.reduceEq, Int.reduceNeg]; omega))
theorem m_X0_variableBits : MM 27 s_X0_variableBits := mm_of (own := 0) (by rfl) k_X0_variableBits (cl := []) trivial o_X0_variableBits
def s_X0_placeOf : CS := (zc 2, ap [(3, 1), (0, 0)] (fun v h Rt X =>
∃ w, GH h w ∧ WF w ∧ (0 ≤ v ∧ v < w 281 → Rt (some (.inl (plc w v))) h) ∧ (¬ (0 ≤ v ∧ v < w 281) → Rt (some (.inl 0)) h)))
set_option maxRecDepth 100000 in
set_option maxHeartbeats 4000000 in
theorem o_X0_placeOf : Obl true 1 2 (sp [(4, s_X0_hasVariable), (27, s_X0_variableBits)]) [] code_X0_placeOf s_X0_placeOf := by
  refine obl0 (by rfl) ?_
  intro v r_v h Rt X hh hf hs
  obtain ⟨w, hG, hW, h2, h3⟩ := hs
  have c2 := hG.v
  have c4 := hW.vn
  by_cases z : 0 ≤ v ∧ v < w 281
  · have c5 := hG.ve z.1 z.2
    have k2 := h2 z
    have c6 := plc_rng hW z.1 z.2
    unfold plc at k2 c6
    have c7 := hW.wv z.1 z.2
    have c8 := hW.s16
    have c9 := sumW_le hW.vz (j := 0) (w 281).toNat (by omega) (by omega)
    have c0 := sumW_le hW.vz (j := 0) (v + 1).toNat (by omega) (by omega)
    have e0 : sumW w 0 = 0 := rfl
    rw [← c5] at k2 c6
    repeat' (first | apply And.intro | (with_reducible assumption) | (intro h9; first | (exfalso; omega) | (simp only [rI_rI, rJ_rJ, hI_rI, hJ_rI, hI_rJ, hJ_rJ, hR_rI, hR_rJ, hN_rI, hN_rJ, svH_63, svH_66, rfH_63, wvH_63, wvH_62, wvH_67, wvH_68, wvH_69, sc_63, sc_n62, sc_n67, sc_n68, sc_n69, sc_n70, reduceIte, Nat.reduceEqDiff, eq_self, up_up, up_self, up_ne, ne_eq, not_false_eq_true, Int.reduceEq, Int.reduceNeg] at h9; first | (exfalso; omega) | skip) | skip) | refine Exists.intro w ?_ | exact hG | exact hW | exact k2 | exact h2 | exact h2 (by omega) | exact h3 | exact h3 (by omega) | omega | exact True.intro | (simp only [rI_rI, rJ_rJ, hI_rI, hJ_rI, hI_rJ, hJ_rJ, hR_rI, hR_rJ, hN_rI, hN_rJ, svH_63, svH_66, rfH_63, wvH_63, wvH_62, wvH_67, wvH_68, wvH_69, sc_63, sc_n62, sc_n67, sc_n68, sc_n69, sc_n70, reduceIte, Nat.reduceEqDiff, eq_self, up_up, up_self, up_ne, ne_eq, not_false_eq_true, Int.reduceEq, Int.reduceNeg]; omega))
  · repeat' (first | apply And.intro | (with_reducible assumption) | (intro h9; first | (exfalso; omega) | (simp only [rI_rI, rJ_rJ, hI_rI, hJ_rI, hI_rJ, hJ_rJ, hR_rI, hR_rJ, hN_rI, hN_rJ, svH_63, svH_66, rfH_63, wvH_63, wvH_62, wvH_67, wvH_68, wvH_69, sc_63, sc_n62, sc_n67, sc_n68, sc_n69, sc_n70, reduceIte, Nat.reduceEqDiff, eq_self, up_up, up_self, up_ne, ne_eq, not_false_eq_true, Int.reduceEq, Int.reduceNeg] at h9; first | (exfalso; omega) | skip) | skip) | exact h3 z | exact h2 | exact h2 (by omega) | exact h3 | exact h3 (by omega) | omega | exact True.intro | (simp only [rI_rI, rJ_rJ, hI_rI, hJ_rI, hI_rJ, hJ_rJ, hR_rI, hR_rJ, hN_rI, hN_rJ, svH_63, svH_66, rfH_63, wvH_63, wvH_62, wvH_67, wvH_68, wvH_69, sc_63, sc_n62, sc_n67, sc_n68, sc_n69, sc_n70, reduceIte, Nat.reduceEqDiff, eq_self, up_up, up_self, up_ne, ne_eq, not_false_eq_true, Int.reduceEq, Int.reduceNeg]; omega))
/-- how many blocks of 64 assignments -/
def blk (w : Int → Int) : Int := p2 (if 6 ≤ sumW w (w 281).toNat then sumW w (w 281).toNat - 6 else 0)
theorem blk_rng {w : Int → Int} (h : WF w) : 1 ≤ blk w ∧ blk w ≤ 1024 := by
  have c8 := h.s16
  have hp := p2_pos (if 6 ≤ sumW w (w 281).toNat then sumW w (w 281).toNat - 6 else 0)
  have : p2 (if 6 ≤ sumW w (w 281).toNat then sumW w (w 281).toNat - 6 else 0) ≤ p2 10 := p2_le (by split <;> omega)
  have e : p2 10 = 1024 := by decide
  unfold blk
  omega
theorem m_X0_placeOf : MM 28 s_X0_placeOf := mm_of (own := 0) (by rfl) k_X0_placeOf (cl := [(4, s_X0_hasVariable), (27, s_X0_variableBits)]) ⟨m_X0_hasVariable, m_X0_variableBits, trivial⟩ o_X0_placeOf
def s_X0_blockCount : CS := (zc 2, ap [(3, 1)] (fun  h Rt X =>
∃ w, GH h w ∧ WF w ∧ Rt (some (.inl (blk w))) h))
set_option maxRecDepth 100000 in
set_option maxHeartbeats 4000000 in
theorem o_X0_blockCount : Obl true 1 1 (sp [(27, s_X0_variableBits)]) [] code_X0_blockCount s_X0_blockCount := by
  refine obl0 (by rfl) ?_
  intro  h Rt X hh hf hs
  obtain ⟨w, hG, hW, h2⟩ := hs
  have c4 := hW.vn
  have c8 := hW.s16
  have c9 := sumW_le hW.vz (j := 0) (w 281).toNat (by omega) (by omega)
  have e0 : sumW w 0 = 0 := rfl
  unfold blk at h2
  by_cases z : 6 ≤ sumW w (w 281).toNat
  · rw [if_pos z, ← fullW (by omega) (by omega)] at h2
    have z2 : ¬ sumW w (w 281).toNat - 6 < 0 := by omega
    have z3 : sumW w (w 281).toNat - 6 ≤ 0 → sumW w (w 281).toNat - 6 = 0 := by omega
    repeat' (first | apply And.intro | (with_reducible assumption) | (intro h9; first | (exfalso; omega) | (simp only [rI_rI, rJ_rJ, hI_rI, hJ_rI, hI_rJ, hJ_rJ, hR_rI, hR_rJ, hN_rI, hN_rJ, svH_63, svH_66, rfH_63, wvH_63, wvH_62, wvH_67, wvH_68, wvH_69, sc_63, sc_n62, sc_n67, sc_n68, sc_n69, sc_n70, reduceIte, Nat.reduceEqDiff, eq_self, up_up, up_self, up_ne, ne_eq, not_false_eq_true, Int.reduceEq, Int.reduceNeg] at h9; first | (exfalso; omega) | skip) | skip) | refine Exists.intro w ?_ | exact hG | exact hW | (rw [z3 (by omega)] at h2; exact h2) | exact h2 | exact h2 (by omega) | omega | exact True.intro | (simp only [rI_rI, rJ_rJ, hI_rI, hJ_rI, hI_rJ, hJ_rJ, hR_rI, hR_rJ, hN_rI, hN_rJ, svH_63, svH_66, rfH_63, wvH_63, wvH_62, wvH_67, wvH_68, wvH_69, sc_63, sc_n62, sc_n67, sc_n68, sc_n69, sc_n70, reduceIte, Nat.reduceEqDiff, eq_self, up_up, up_self, up_ne, ne_eq, not_false_eq_true, Int.reduceEq, Int.reduceNeg]; omega))
  · rw [if_neg z, ← fullW (by omega) (by omega)] at h2
    repeat' (first | apply And.intro | (with_reducible assumption) | (intro h9; first | (exfalso; omega) | (simp only [rI_rI, rJ_rJ, hI_rI, hJ_rI, hI_rJ, hJ_rJ, hR_rI, hR_rJ, hN_rI, hN_rJ, svH_63, svH_66, rfH_63, wvH_63, wvH_62, wvH_67, wvH_68, wvH_69, sc_63, sc_n62, sc_n67, sc_n68, sc_n69, sc_n70, reduceIte, Nat.reduceEqDiff, eq_self, up_up, up_self, up_ne, ne_eq, not_false_eq_true, Int.reduceEq, Int.reduceNeg] at h9; first | (exfalso; omega) | skip) | skip) | refine Exists.intro w ?_ | exact hG | exact hW | exact h2 | exact h2 (by omega) | omega | exact True.intro | (simp only [rI_rI, rJ_rJ, hI_rI, hJ_rI, hI_rJ, hJ_rJ, hR_rI, hR_rJ, hN_rI, hN_rJ, svH_63, svH_66, rfH_63, wvH_63, wvH_62, wvH_67, wvH_68, wvH_69, sc_63, sc_n62, sc_n67, sc_n68, sc_n69, sc_n70, reduceIte, Nat.reduceEqDiff, eq_self, up_up, up_self, up_ne, ne_eq, not_false_eq_true, Int.reduceEq, Int.reduceNeg]; omega))
/-- the places of a block that are assignments -/
def msk (w : Int → Int) : Int64 := if 6 ≤ sumW w (w 281).toNat then -1 else lShl 1 (p2 (sumW w (w 281).toNat)) - 1
theorem m_X0_blockCount : MM 29 s_X0_blockCount := mm_of (own := 0) (by rfl) k_X0_blockCount (cl := [(27, s_X0_variableBits)]) ⟨m_X0_variableBits, trivial⟩ o_X0_blockCount
def s_X0_blockMask : CS := (zc 2, ap [(3, 1)] (fun  h Rt X =>
∃ w, GH h w ∧ WF w ∧ Rt (some (.inr (.inl (msk w)))) h))
set_option maxRecDepth 100000 in
set_option maxHeartbeats 4000000 in
theorem o_X0_blockMask : Obl true 3 2 (sp [(27, s_X0_variableBits)]) [] code_X0_blockMask s_X0_blockMask := by
  refine obl0 (by rfl) ?_
  intro  h Rt X hh hf hs
  obtain ⟨w, hG, hW, h2⟩ := hs
  have c4 := hW.vn
  have c8 := hW.s16
  have c9 := sumW_le hW.vz (j := 0) (w 281).toNat (by omega) (by omega)
  have e0 : sumW w 0 = 0 := rfl
  unfold msk at h2
  by_cases z : 6 ≤ sumW w (w 281).toNat
  · rw [if_pos z] at h2
    repeat' (first | apply And.intro | (with_reducible assumption) | (intro h9; first | (exfalso; omega) | (simp only [rI_rI, rJ_rJ, hI_rI, hJ_rI, hI_rJ, hJ_rJ, hR_rI, hR_rJ, hN_rI, hN_rJ, svH_63, svH_66, rfH_63, wvH_63, wvH_62, wvH_67, wvH_68, wvH_69, sc_63, sc_n62, sc_n67, sc_n68, sc_n69, sc_n70, reduceIte, Nat.reduceEqDiff, eq_self, up_up, up_self, up_ne, ne_eq, not_false_eq_true, Int.reduceEq, Int.reduceNeg] at h9; first | (exfalso; omega) | skip) | skip) | refine Exists.intro w ?_ | exact hG | exact hW | exact h2 | exact h2 (by omega) | omega | exact True.intro | (simp only [rI_rI, rJ_rJ, hI_rI, hJ_rI, hI_rJ, hJ_rJ, hR_rI, hR_rJ, hN_rI, hN_rJ, svH_63, svH_66, rfH_63, wvH_63, wvH_62, wvH_67, wvH_68, wvH_69, sc_63, sc_n62, sc_n67, sc_n68, sc_n69, sc_n70, reduceIte, Nat.reduceEqDiff, eq_self, up_up, up_self, up_ne, ne_eq, not_false_eq_true, Int.reduceEq, Int.reduceNeg]; omega))
  · rw [if_neg z, ← fullW (by omega) (by omega)] at h2
    repeat' (first | apply And.intro | (with_reducible assumption) | (intro h9; first | (exfalso; omega) | (simp only [rI_rI, rJ_rJ, hI_rI, hJ_rI, hI_rJ, hJ_rJ, hR_rI, hR_rJ, hN_rI, hN_rJ, svH_63, svH_66, rfH_63, wvH_63, wvH_62, wvH_67, wvH_68, wvH_69, sc_63, sc_n62, sc_n67, sc_n68, sc_n69, sc_n70, reduceIte, Nat.reduceEqDiff, eq_self, up_up, up_self, up_ne, ne_eq, not_false_eq_true, Int.reduceEq, Int.reduceNeg] at h9; first | (exfalso; omega) | skip) | skip) | refine Exists.intro w ?_ | exact hG | exact hW | exact h2 | exact h2 (by omega) | omega | exact True.intro | (simp only [rI_rI, rJ_rJ, hI_rI, hJ_rI, hI_rJ, hJ_rJ, hR_rI, hR_rJ, hN_rI, hN_rJ, svH_63, svH_66, rfH_63, wvH_63, wvH_62, wvH_67, wvH_68, wvH_69, sc_63, sc_n62, sc_n67, sc_n68, sc_n69, sc_n70, reduceIte, Nat.reduceEqDiff, eq_self, up_up, up_self, up_ne, ne_eq, not_false_eq_true, Int.reduceEq, Int.reduceNeg]; omega))
theorem m_X0_blockMask : MM 30 s_X0_blockMask := mm_of (own := 0) (by rfl) k_X0_blockMask (cl := [(27, s_X0_variableBits)]) ⟨m_X0_variableBits, trivial⟩ o_X0_blockMask
def s_X0_allNodes : CS := (zc 1, ap [(3, 1)] (fun  h Rt X =>
Rt (some (.inr (.inl (lShl 1 (hI h 1 3) - 1)))) h))
set_option maxRecDepth 100000 in
set_option maxHeartbeats 4000000 in
theorem o_X0_allNodes : Obl true 3 1 (sp []) [] code_X0_allNodes s_X0_allNodes := by
  refine obl0 (by rfl) ?_
  intro  h Rt X hh hf hs
  repeat' (first | apply And.intro | (with_reducible assumption) | (intro h9; first | (exfalso; omega) | (simp only [rI_rI, rJ_rJ, hI_rI, hJ_rI, hI_rJ, hJ_rJ, hR_rI, hR_rJ, hN_rI, hN_rJ, svH_63, svH_66, rfH_63, wvH_63, wvH_62, wvH_67, wvH_68, wvH_69, sc_63, sc_n62, sc_n67, sc_n68, sc_n69, sc_n70, reduceIte, Nat.reduceEqDiff, eq_self, up_up, up_self, up_ne, ne_eq, not_false_eq_true, Int.reduceEq, Int.reduceNeg] at h9; first | (exfalso; omega) | skip) | skip) | exact hs | omega | exact True.intro | (simp only [rI_rI, rJ_rJ, hI_rI, hJ_rI, hI_rJ, hJ_rJ, hR_rI, hR_rJ, hN_rI, hN_rJ, svH_63, svH_66, rfH_63, wvH_63, wvH_62, wvH_67, wvH_68, wvH_69, sc_63, sc_n62, sc_n67, sc_n68, sc_n69, sc_n70, reduceIte, Nat.reduceEqDiff, eq_self, up_up, up_self, up_ne, ne_eq, not_false_eq_true, Int.reduceEq, Int.reduceNeg]; omega))
theorem m_X0_allNodes : MM 24 s_X0_allNodes := mm_of (own := 0) (by rfl) k_X0_allNodes (cl := []) trivial o_X0_allNodes
def bO (x : Int) : Int64 := if x = -1 then 0 else lShl 1 x
def s_X0_bitOf : CS := (zc 1, ap [(0, 0)] (fun n h Rt X =>
Rt (some (.inr (.inl (bO n)))) h))
set_option maxRecDepth 100000 in
set_option maxHeartbeats 4000000 in
theorem o_X0_bitOf : Obl true 3 1 (sp []) [] code_X0_bitOf s_X0_bitOf := by
  refine obl0 (by rfl) ?_
  intro n r_n h Rt X hh hf hs
  unfold bO at hs
  by_cases z : n = -1
  · rw [if_pos z] at hs
    repeat' (first | apply And.intro | (with_reducible assumption) | (intro h9; first | (exfalso; omega) | (simp only [rI_rI, rJ_rJ, hI_rI, hJ_rI, hI_rJ, hJ_rJ, hR_rI, hR_rJ, hN_rI, hN_rJ, svH_63, svH_66, rfH_63, wvH_63, wvH_62, wvH_67, wvH_68, wvH_69, sc_63, sc_n62, sc_n67, sc_n68, sc_n69, sc_n70, reduceIte, Nat.reduceEqDiff, eq_self, up_up, up_self, up_ne, ne_eq, not_false_eq_true, Int.reduceEq, Int.reduceNeg] at h9; first | (exfalso; omega) | skip) | skip) | exact hs | omega | exact True.intro | (simp only [rI_rI, rJ_rJ, hI_rI, hJ_rI, hI_rJ, hJ_rJ, hR_rI, hR_rJ, hN_rI, hN_rJ, svH_63, svH_66, rfH_63, wvH_63, wvH_62, wvH_67, wvH_68, wvH_69, sc_63, sc_n62, sc_n67, sc_n68, sc_n69, sc_n70, reduceIte, Nat.reduceEqDiff, eq_self, up_up, up_self, up_ne, ne_eq, not_false_eq_true, Int.reduceEq, Int.reduceNeg]; omega))
  · rw [if_neg z] at hs
    repeat' (first | apply And.intro | (with_reducible assumption) | (intro h9; first | (exfalso; omega) | (simp only [rI_rI, rJ_rJ, hI_rI, hJ_rI, hI_rJ, hJ_rJ, hR_rI, hR_rJ, hN_rI, hN_rJ, svH_63, svH_66, rfH_63, wvH_63, wvH_62, wvH_67, wvH_68, wvH_69, sc_63, sc_n62, sc_n67, sc_n68, sc_n69, sc_n70, reduceIte, Nat.reduceEqDiff, eq_self, up_up, up_self, up_ne, ne_eq, not_false_eq_true, Int.reduceEq, Int.reduceNeg] at h9; first | (exfalso; omega) | skip) | skip) | exact hs | omega | exact True.intro | (simp only [rI_rI, rJ_rJ, hI_rI, hJ_rI, hI_rJ, hJ_rJ, hR_rI, hR_rJ, hN_rI, hN_rJ, svH_63, svH_66, rfH_63, wvH_63, wvH_62, wvH_67, wvH_68, wvH_69, sc_63, sc_n62, sc_n67, sc_n68, sc_n69, sc_n70, reduceIte, Nat.reduceEqDiff, eq_self, up_up, up_self, up_ne, ne_eq, not_false_eq_true, Int.reduceEq, Int.reduceNeg]; omega))
theorem m_X0_bitOf : MM 26 s_X0_bitOf := mm_of (own := 0) (by rfl) k_X0_bitOf (cl := []) trivial o_X0_bitOf
def s_X0_variableWord : CS := (zc 4, ap [(3, 1), (0, 0), (0, 0)] (fun N v h Rt X =>
∃ w, GH h w ∧ WF w ∧ (-1 ≤ N ∧ 0 ≤ v ∧ v < w 281) ∧ Rt (some (.inl (wrd w N v))) h))
set_option maxRecDepth 100000 in
set_option maxHeartbeats 4000000 in
theorem o_X0_variableWord : Obl true 1 3 (sp [(4, s_X0_hasVariable), (28, s_X0_placeOf), (8, s_X0_variableWidth), (187, s_X9_fullWord)]) [] code_X0_variableWord s_X0_variableWord := by
  refine obl0 (by rfl) ?_
  intro N r_N v r_v h Rt X hh hf hs
  obtain ⟨w, hG, hW, ⟨a1, a2⟩, h2⟩ := hs
  have c2 := hG.v
  have c4 := hW.vn
  have c6 := plc_rng hW a2.1 a2.2
  have c7 := hW.wv a2.1 a2.2
  unfold wrd at h2
  by_cases z : N = -1
  · rw [if_pos z] at h2
    repeat' (first | apply And.intro | (with_reducible assumption) | (intro h9; first | (exfalso; omega) | (simp only [rI_rI, rJ_rJ, hI_rI, hJ_rI, hI_rJ, hJ_rJ, hR_rI, hR_rJ, hN_rI, hN_rJ, svH_63, svH_66, rfH_63, wvH_63, wvH_62, wvH_67, wvH_68, wvH_69, sc_63, sc_n62, sc_n67, sc_n68, sc_n69, sc_n70, reduceIte, Nat.reduceEqDiff, eq_self, up_up, up_self, up_ne, ne_eq, not_false_eq_true, Int.reduceEq, Int.reduceNeg] at h9; first | (exfalso; omega) | skip) | skip) | exact h2 | exact h2 (by omega) | omega | exact True.intro | (simp only [rI_rI, rJ_rJ, hI_rI, hJ_rI, hI_rJ, hJ_rJ, hR_rI, hR_rJ, hN_rI, hN_rJ, svH_63, svH_66, rfH_63, wvH_63, wvH_62, wvH_67, wvH_68, wvH_69, sc_63, sc_n62, sc_n67, sc_n68, sc_n69, sc_n70, reduceIte, Nat.reduceEqDiff, eq_self, up_up, up_self, up_ne, ne_eq, not_false_eq_true, Int.reduceEq, Int.reduceNeg]; omega))
  · rw [if_neg z] at h2
    unfold asg at h2
    have e : bAnd (sShr N (plc w v)) (p2 (nd w (w (282 + v)) 1) - 1) = N / p2 (plc w v) % p2 (nd w (w (282 + v)) 1) := by
      rw [bAnd_mask (by omega) (by omega), sShr_eq r_N (by omega) (by omega)]
    rw [← e] at h2
    repeat' (first | apply And.intro | (with_reducible assumption) | (intro h9; first | (exfalso; omega) | (simp only [rI_rI, rJ_rJ, hI_rI, hJ_rI, hI_rJ, hJ_rJ, hR_rI, hR_rJ, hN_rI, hN_rJ, svH_63, svH_66, rfH_63, wvH_63, wvH_62, wvH_67, wvH_68, wvH_69, sc_63, sc_n62, sc_n67, sc_n68, sc_n69, sc_n70, reduceIte, Nat.reduceEqDiff, eq_self, up_up, up_self, up_ne, ne_eq, not_false_eq_true, Int.reduceEq, Int.reduceNeg] at h9; first | (exfalso; omega) | skip) | skip) | refine Exists.intro w ?_ | exact hG | exact hW | exact h2 | exact h2 (by omega) | omega | exact True.intro | (simp only [rI_rI, rJ_rJ, hI_rI, hJ_rI, hI_rJ, hJ_rJ, hR_rI, hR_rJ, hN_rI, hN_rJ, svH_63, svH_66, rfH_63, wvH_63, wvH_62, wvH_67, wvH_68, wvH_69, sc_63, sc_n62, sc_n67, sc_n68, sc_n69, sc_n70, reduceIte, Nat.reduceEqDiff, eq_self, up_up, up_self, up_ne, ne_eq, not_false_eq_true, Int.reduceEq, Int.reduceNeg]; omega))
theorem m_X0_variableWord : MM 32 s_X0_variableWord := mm_of (own := 0) (by rfl) k_X0_variableWord (cl := [(4, s_X0_hasVariable), (28, s_X0_placeOf), (8, s_X0_variableWidth), (187, s_X9_fullWord)]) ⟨m_X0_hasVariable, m_X0_placeOf, m_X0_variableWidth, m_X9_fullWord, trivial⟩ o_X0_variableWord
def s_X0_canSlice : CS := (zc 3, ap [(3, 1), (0, 0), (0, 0), (0, 0)] (fun n hi lo h Rt X =>
(0 ≤ hI h 1 3 ∧ hI h 1 3 ≤ 40 ∧ 0 ≤ n ∧ n < hI h 1 3) ∧ (0 ≤ lo ∧ lo ≤ hi ∧ hi < hI h 2 (n * 8 + 1) → Rt (some (.inl 1)) h) ∧ (¬ (0 ≤ lo ∧ lo ≤ hi ∧ hi < hI h 2 (n * 8 + 1)) → Rt (some (.inl 0)) h)))
set_option maxRecDepth 100000 in
set_option maxHeartbeats 4000000 in
theorem o_X0_canSlice : Obl true 2 4 (sp [(6, s_X0_width)]) [] code_X0_canSlice s_X0_canSlice := by
  refine obl0 (by rfl) ?_
  intro n r_n hi r_hi lo r_lo h Rt X hh hf hs
  obtain ⟨⟨a1, a2, a3, a4⟩, h2, h3⟩ := hs
  repeat' (first | apply And.intro | (with_reducible assumption) | (intro h9; first | (exfalso; omega) | (simp only [rI_rI, rJ_rJ, hI_rI, hJ_rI, hI_rJ, hJ_rJ, hR_rI, hR_rJ, hN_rI, hN_rJ, svH_63, svH_66, rfH_63, wvH_63, wvH_62, wvH_67, wvH_68, wvH_69, sc_63, sc_n62, sc_n67, sc_n68, sc_n69, sc_n70, reduceIte, Nat.reduceEqDiff, eq_self, up_up, up_self, up_ne, ne_eq, not_false_eq_true, Int.reduceEq, Int.reduceNeg] at h9; first | (exfalso; omega) | skip) | skip) | exact h2 | exact h2 (by omega) | exact h3 | exact h3 (by omega) | omega | exact True.intro | (simp only [rI_rI, rJ_rJ, hI_rI, hJ_rI, hI_rJ, hJ_rJ, hR_rI, hR_rJ, hN_rI, hN_rJ, svH_63, svH_66, rfH_63, wvH_63, wvH_62, wvH_67, wvH_68, wvH_69, sc_63, sc_n62, sc_n67, sc_n68, sc_n69, sc_n70, reduceIte, Nat.reduceEqDiff, eq_self, up_up, up_self, up_ne, ne_eq, not_false_eq_true, Int.reduceEq, Int.reduceNeg]; omega))
theorem m_X0_canSlice : MM 17 s_X0_canSlice := mm_of (own := 0) (by rfl) k_X0_canSlice (cl := [(6, s_X0_width)]) ⟨m_X0_width, trivial⟩ o_X0_canSlice
def s_X0_canExtend : CS := (zc 3, ap [(3, 1), (0, 0), (0, 0)] (fun n k h Rt X =>
(0 ≤ hI h 1 3 ∧ hI h 1 3 ≤ 40 ∧ 0 ≤ n ∧ n < hI h 1 3) ∧ (hI h 2 (n * 8 + 1) < k ∧ k ≤ 8 → Rt (some (.inl 1)) h) ∧ (¬ (hI h 2 (n * 8 + 1) < k ∧ k ≤ 8) → Rt (some (.inl 0)) h)))
set_option maxRecDepth 100000 in
set_option maxHeartbeats 4000000 in
theorem o_X0_canExtend : Obl true 2 3 (sp [(6, s_X0_width)]) [] code_X0_canExtend s_X0_canExtend := by
  refine obl0 (by rfl) ?_
  intro n r_n k r_k h Rt X hh hf hs
  obtain ⟨⟨a1, a2, a3, a4⟩, h2, h3⟩ := hs
  repeat' (first | apply And.intro | (with_reducible assumption) | (intro h9; first | (exfalso; omega) | (simp only [rI_rI, rJ_rJ, hI_rI, hJ_rI, hI_rJ, hJ_rJ, hR_rI, hR_rJ, hN_rI, hN_rJ, svH_63, svH_66, rfH_63, wvH_63, wvH_62, wvH_67, wvH_68, wvH_69, sc_63, sc_n62, sc_n67, sc_n68, sc_n69, sc_n70, reduceIte, Nat.reduceEqDiff, eq_self, up_up, up_self, up_ne, ne_eq, not_false_eq_true, Int.reduceEq, Int.reduceNeg] at h9; first | (exfalso; omega) | skip) | skip) | exact h2 | exact h2 (by omega) | exact h3 | exact h3 (by omega) | omega | exact True.intro | (simp only [rI_rI, rJ_rJ, hI_rI, hJ_rI, hI_rJ, hJ_rJ, hR_rI, hR_rJ, hN_rI, hN_rJ, svH_63, svH_66, rfH_63, wvH_63, wvH_62, wvH_67, wvH_68, wvH_69, sc_63, sc_n62, sc_n67, sc_n68, sc_n69, sc_n70, reduceIte, Nat.reduceEqDiff, eq_self, up_up, up_self, up_ne, ne_eq, not_false_eq_true, Int.reduceEq, Int.reduceNeg]; omega))
theorem m_X0_canExtend : MM 18 s_X0_canExtend := mm_of (own := 0) (by rfl) k_X0_canExtend (cl := [(6, s_X0_width)]) ⟨m_X0_width, trivial⟩ o_X0_canExtend
def s_X0_binaryWidth : CS := (zc 3, ap [(3, 1), (0, 0), (0, 0), (0, 0)] (fun k a b h Rt X =>
(0 ≤ hI h 1 3 ∧ hI h 1 3 ≤ 40 ∧ 0 ≤ a ∧ a < hI h 1 3 ∧ 0 ≤ b ∧ b < hI h 1 3) ∧ (1 ≤ hI h 2 (a * 8 + 1) ∧ hI h 2 (a * 8 + 1) ≤ 8 ∧ 1 ≤ hI h 2 (b * 8 + 1) ∧ hI h 2 (b * 8 + 1) ≤ 8) ∧ (k = 18 → Rt (some (.inl (hI h 2 (a * 8 + 1) + hI h 2 (b * 8 + 1)))) h) ∧ (k ≠ 18 → 13 ≤ k → Rt (some (.inl 1)) h) ∧ (k < 13 → Rt (some (.inl (hI h 2 (a * 8 + 1)))) h)))
set_option maxRecDepth 100000 in
set_option maxHeartbeats 4000000 in
theorem o_X0_binaryWidth : Obl true 1 4 (sp [(6, s_X0_width)]) [] code_X0_binaryWidth s_X0_binaryWidth := by
  refine obl0 (by rfl) ?_
  intro k r_k a r_a b r_b h Rt X hh hf hs
  obtain ⟨⟨a1, a2, a3, a4, a5, a6⟩, ⟨a7, a8, a9, a10⟩, h2, h3, h4⟩ := hs
  repeat' (first | apply And.intro | (with_reducible assumption) | (intro h9; first | (exfalso; omega) | (simp only [rI_rI, rJ_rJ, hI_rI, hJ_rI, hI_rJ, hJ_rJ, hR_rI, hR_rJ, hN_rI, hN_rJ, svH_63, svH_66, rfH_63, wvH_63, wvH_62, wvH_67, wvH_68, wvH_69, sc_63, sc_n62, sc_n67, sc_n68, sc_n69, sc_n70, reduceIte, Nat.reduceEqDiff, eq_self, up_up, up_self, up_ne, ne_eq, not_false_eq_true, Int.reduceEq, Int.reduceNeg] at h9; first | (exfalso; omega) | skip) | skip) | exact h3 (by omega) (by omega) | exact h2 | exact h2 (by omega) | exact h3 | exact h3 (by omega) | exact h4 | exact h4 (by omega) | omega | exact True.intro | (simp only [rI_rI, rJ_rJ, hI_rI, hJ_rI, hI_rJ, hJ_rJ, hR_rI, hR_rJ, hN_rI, hN_rJ, svH_63, svH_66, rfH_63, wvH_63, wvH_62, wvH_67, wvH_68, wvH_69, sc_63, sc_n62, sc_n67, sc_n68, sc_n69, sc_n70, reduceIte, Nat.reduceEqDiff, eq_self, up_up, up_self, up_ne, ne_eq, not_false_eq_true, Int.reduceEq, Int.reduceNeg]; omega))
theorem m_X0_binaryWidth : MM 19 s_X0_binaryWidth := mm_of (own := 0) (by rfl) k_X0_binaryWidth (cl := [(6, s_X0_width)]) ⟨m_X0_width, trivial⟩ o_X0_binaryWidth

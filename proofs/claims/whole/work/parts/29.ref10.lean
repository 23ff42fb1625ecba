/-! ===== the reference: values laid ===== -/
/-- the row of values is that of an environment -/
def Vls (w env f : Int → Int) : Prop := Box (∀ m, 0 ≤ m → m < w 0 → f m = vl w env m)
def VlsB (w env f : Int → Int) (i : Int) : Prop := Box (∀ m, 0 ≤ m → m < i → f m = vl w env m)
theorem VlsB.step {w env f : Int → Int} {i : Int} (h : VlsB w env f i) {x : Int} (hx : x = vl w env i) : VlsB w env (up f i x) (i + 1) := by
  refine Box.i fun m h0 h1 => ?_
  by_cases e : m = i
  · subst e; rw [up_self, hx]
  · rw [up_ne e]; exact h.o m h0 (by omega)
theorem VlsB.lw {w env f : Int → Int} {i : Int} (h : VlsB w env f i) (hw : WF w) (he : Ev w env) (hi : i ≤ w 0) (h0 : 0 ≤ i) : Lw w f i := by
  refine Box.i fun m a b => ?_
  rw [h.o m a b]
  exact (hw.lw he h0 hi).o m a b
theorem VlsB.val {w env f : Int → Int} {i : Int} (h : VlsB w env f i) (hw : WF w) (hi : i < w 0) (h0 : 0 ≤ i) : nV w env f i = vl w env i := by
  rw [vl_eq' h0 (hw.node h0 hi)]
  exact nV_use (hw.node h0 hi) fun m a b => h.o m a b
/-- the heap with another row of words and of values -/
def wvH (h : Hp) (a b : Int → Int) : Hp := rI (rI h 67 a) 68 b
theorem wvH_63 (h : Hp) (a b : Int → Int) : hI (wvH h a b) 63 = hI h 63 := rfl
theorem wvH_62 (h : Hp) (a b : Int → Int) : hI (wvH h a b) 62 = hI h 62 := rfl
theorem wvH_67 (h : Hp) (a b : Int → Int) : hI (wvH h a b) 67 = a := rfl
theorem wvH_68 (h : Hp) (a b : Int → Int) : hI (wvH h a b) 68 = b := rfl
theorem wvH_69 (h : Hp) (a b : Int → Int) : hI (wvH h a b) 69 = hI h 69 := rfl
/-- the reference's scratch rows: fields, words, values, what is fulfilled -/
def sc (h : Hp) (F a b c : Int → Int) : Hp := (h.1, (fun q => if q = 62 then F else if q = 67 then a else if q = 68 then b else if q = 69 then c else h.2.1 q), h.2.2)
theorem sc_63 (h : Hp) (F a b c : Int → Int) : hI (sc h F a b c) 63 = hI h 63 := rfl
theorem sc_n62 (h : Hp) (F a b c : Int → Int) : hI (sc h F a b c) 62 = F := rfl
theorem sc_n67 (h : Hp) (F a b c : Int → Int) : hI (sc h F a b c) 67 = a := rfl
theorem sc_n68 (h : Hp) (F a b c : Int → Int) : hI (sc h F a b c) 68 = b := rfl
theorem sc_n69 (h : Hp) (F a b c : Int → Int) : hI (sc h F a b c) 69 = c := rfl
theorem sc_n70 (h : Hp) (F a b c : Int → Int) : hI (sc h F a b c) 70 = hI h 70 := rfl
def s_X10_laysValues : CS := (zc 4, ap [(3, 62)] (fun  h Rt X =>
WF (hI h 63) ∧ Ev (hI h 63) (hI h 67) ∧ ∀ f, Vls (hI h 63) (hI h 67) f → Rt none (rI h 68 f)))
set_option maxRecDepth 100000 in
set_option maxHeartbeats 4000000 in
theorem o_X10_laysValues : Obl true 0 2 (sp [(227, s_X10_valueOf)]) [] code_X10_laysValues s_X10_laysValues := by
  refine oblL (by rfl) [(2, [0, 1])] ?_
  intro  h Rt X hh hf hs
  obtain ⟨h1, h2, h3⟩ := hs
  have n0 := h1.nn.1
  have n1 := h1.nn.2
  have v0 := h1.vn.1
  have v1 := h1.vn.2
  refine ⟨fun k pc vs g => ∃ (i : Int) (f : Int → Int), vs = [.inr (.inr (some 62)), .inl i] ∧ g = rI h 68 f ∧ 0 ≤ i ∧ i ≤ hI h 63 0 ∧ VlsB (hI h 63) (hI h 67) f i ∧ k = (hI h 63 0 - i).toNat, ?_, ?_⟩
  · repeat' (first | apply And.intro | (with_reducible assumption) | (intro h9; first | (exfalso; omega) | (simp only [rI_rI, rJ_rJ, hI_rI, hJ_rI, hI_rJ, hJ_rJ, hR_rI, hR_rJ, hN_rI, hN_rJ, svH_63, svH_66, rfH_63, wvH_63, wvH_62, wvH_67, wvH_68, wvH_69, sc_63, sc_n62, sc_n67, sc_n68, sc_n69, sc_n70, reduceIte, Nat.reduceEqDiff, eq_self, up_up, up_self, up_ne, ne_eq, not_false_eq_true, Int.reduceEq, Int.reduceNeg] at h9; first | (exfalso; omega) | skip) | skip) | exact Exists.intro _ ⟨0, hI h 68, rfl, (rI_id h 68).symm, by omega, by omega, Box.i (fun m a b => by omega), rfl⟩ | exact h1 | exact h1 (by omega) | exact h2 | exact h2 (by omega) | exact h3 | exact h3 (by omega) | omega | exact True.intro | (simp only [rI_rI, rJ_rJ, hI_rI, hJ_rI, hI_rJ, hJ_rJ, hR_rI, hR_rJ, hN_rI, hN_rJ, svH_63, svH_66, rfH_63, wvH_63, wvH_62, wvH_67, wvH_68, wvH_69, sc_63, sc_n62, sc_n67, sc_n68, sc_n69, sc_n70, reduceIte, Nat.reduceEqDiff, eq_self, up_up, up_self, up_ne, ne_eq, not_false_eq_true, Int.reduceEq, Int.reduceNeg]; omega))
  · rintro k pc live vs g hl ⟨i, f, rfl, rfl, i1, i2, i3, rfl⟩ hv hh1 hf1
    obtain ⟨rfl, rfl⟩ := look1 hl
    by_cases c : i < hI h 63 0
    · have w1 := h1.node i1 c
      have w2 := i3.lw h1 h2 i2 i1
      have w3 := i3.val h1 c i1
      repeat' (first | apply And.intro | (with_reducible assumption) | (intro h9; first | (exfalso; omega) | (simp only [rI_rI, rJ_rJ, hI_rI, hJ_rI, hI_rJ, hJ_rJ, hR_rI, hR_rJ, hN_rI, hN_rJ, svH_63, svH_66, rfH_63, wvH_63, wvH_62, wvH_67, wvH_68, wvH_69, sc_63, sc_n62, sc_n67, sc_n68, sc_n69, sc_n70, reduceIte, Nat.reduceEqDiff, eq_self, up_up, up_self, up_ne, ne_eq, not_false_eq_true, Int.reduceEq, Int.reduceNeg] at h9; first | (exfalso; omega) | skip) | skip) | exact w1 | exact w2 | exact Exists.intro _ ⟨by omega, i + 1, _, rfl, rI_rI _ _ _ _, by omega, by omega, i3.step w3, rfl⟩ | exact h1 | exact h1 (by omega) | exact h2 | exact h2 (by omega) | exact h3 | exact h3 (by omega) | omega | exact True.intro | (simp only [rI_rI, rJ_rJ, hI_rI, hJ_rI, hI_rJ, hJ_rJ, hR_rI, hR_rJ, hN_rI, hN_rJ, svH_63, svH_66, rfH_63, wvH_63, wvH_62, wvH_67, wvH_68, wvH_69, sc_63, sc_n62, sc_n67, sc_n68, sc_n69, sc_n70, reduceIte, Nat.reduceEqDiff, eq_self, up_up, up_self, up_ne, ne_eq, not_false_eq_true, Int.reduceEq, Int.reduceNeg]; omega))
    · obtain rfl : i = hI h 63 0 := by omega
      repeat' (first | apply And.intro | (with_reducible assumption) | (intro h9; first | (exfalso; omega) | (simp only [rI_rI, rJ_rJ, hI_rI, hJ_rI, hI_rJ, hJ_rJ, hR_rI, hR_rJ, hN_rI, hN_rJ, svH_63, svH_66, rfH_63, wvH_63, wvH_62, wvH_67, wvH_68, wvH_69, sc_63, sc_n62, sc_n67, sc_n68, sc_n69, sc_n70, reduceIte, Nat.reduceEqDiff, eq_self, up_up, up_self, up_ne, ne_eq, not_false_eq_true, Int.reduceEq, Int.reduceNeg] at h9; first | (exfalso; omega) | skip) | skip) | exact h3 f i3 | exact h1 | exact h1 (by omega) | exact h2 | exact h2 (by omega) | exact h3 | exact h3 (by omega) | omega | exact True.intro | (simp only [rI_rI, rJ_rJ, hI_rI, hJ_rI, hI_rJ, hJ_rJ, hR_rI, hR_rJ, hN_rI, hN_rJ, svH_63, svH_66, rfH_63, wvH_63, wvH_62, wvH_67, wvH_68, wvH_69, sc_63, sc_n62, sc_n67, sc_n68, sc_n69, sc_n70, reduceIte, Nat.reduceEqDiff, eq_self, up_up, up_self, up_ne, ne_eq, not_false_eq_true, Int.reduceEq, Int.reduceNeg]; omega))
/-- the words of all variables -/
def Asg (w a env : Int → Int) : Prop := Box (∀ v, 0 ≤ v → v < w 281 → a v = env v)
theorem Asg.ev {w a env : Int → Int} (h : Asg w a env) (he : Ev w env) : Ev w a := Box.i fun v h0 h1 => by rw [h.o v h0 h1]; exact he.o v h0 h1
theorem Asg.vls {w a env f : Int → Int} (h : Asg w a env) (hw : WF w) (hf : Vls w a f) : Vls w env f := Box.i fun m h0 h1 => by rw [hf.o m h0 h1]; exact vl_env' hw (fun v a b => h.o v a b) h1
theorem wvH_1 (h : Hp) (a f : Int → Int) : rI (rI h 67 a) 68 f = wvH h a f := rfl
theorem m_X10_laysValues : MM 228 s_X10_laysValues := mm_of (own := 9) (by rfl) k_X10_laysValues (cl := [(227, s_X10_valueOf)]) ⟨m_X10_valueOf, trivial⟩ o_X10_laysValues
def s_X10_laysInputs : CS := (zc 5, ap [(3, 62)] (fun  h Rt X =>
WF (hI h 63) ∧ ∀ a f, Asg (hI h 63) a (fun v => hI h 63 (286 + v)) → Vls (hI h 63) (fun v => hI h 63 (286 + v)) f → Rt none (wvH h a f)))
set_option maxRecDepth 100000 in
set_option maxHeartbeats 4000000 in
theorem o_X10_laysInputs : Obl true 0 2 (sp [(228, s_X10_laysValues)]) [] code_X10_laysInputs s_X10_laysInputs := by
  refine oblL (by rfl) [(2, [0, 1])] ?_
  intro  h Rt X hh hf hs
  obtain ⟨h1, h3⟩ := hs
  have v0 := h1.vn.1
  have v1 := h1.vn.2
  refine ⟨fun k pc vs g => ∃ (i : Int) (a : Int → Int), vs = [.inr (.inr (some 62)), .inl i] ∧ g = rI h 67 a ∧ 0 ≤ i ∧ i ≤ 4 ∧ Box (∀ v, 0 ≤ v → v < i → a v = hI h 63 (286 + v)) ∧ k = (4 - i).toNat, ?_, ?_⟩
  · repeat' (first | apply And.intro | (with_reducible assumption) | (intro h9; first | (exfalso; omega) | (simp only [rI_rI, rJ_rJ, hI_rI, hJ_rI, hI_rJ, hJ_rJ, hR_rI, hR_rJ, hN_rI, hN_rJ, svH_63, svH_66, rfH_63, wvH_63, wvH_62, wvH_67, wvH_68, wvH_69, sc_63, sc_n62, sc_n67, sc_n68, sc_n69, sc_n70, reduceIte, Nat.reduceEqDiff, eq_self, up_up, up_self, up_ne, ne_eq, not_false_eq_true, Int.reduceEq, Int.reduceNeg] at h9; first | (exfalso; omega) | skip) | skip) | exact Exists.intro _ ⟨0, hI h 67, rfl, (rI_id h 67).symm, by omega, by omega, Box.i (fun m a b => by omega), rfl⟩ | exact h1 | exact h1 (by omega) | exact h3 | exact h3 (by omega) | omega | exact True.intro | (simp only [rI_rI, rJ_rJ, hI_rI, hJ_rI, hI_rJ, hJ_rJ, hR_rI, hR_rJ, hN_rI, hN_rJ, svH_63, svH_66, rfH_63, wvH_63, wvH_62, wvH_67, wvH_68, wvH_69, sc_63, sc_n62, sc_n67, sc_n68, sc_n69, sc_n70, reduceIte, Nat.reduceEqDiff, eq_self, up_up, up_self, up_ne, ne_eq, not_false_eq_true, Int.reduceEq, Int.reduceNeg]; omega))
  · rintro k pc live vs g hl ⟨i, a, rfl, rfl, i1, i2, i3, rfl⟩ hv hh1 hf1
    obtain ⟨rfl, rfl⟩ := look1 hl
    by_cases c : i < 4
    · have e : Box (∀ v, 0 ≤ v → v < i + 1 → up a i (hI h 63 (286 + i)) v = hI h 63 (286 + v)) := by
        refine Box.i fun v b0 b1 => ?_
        by_cases e : v = i
        · subst e; rw [up_self]
        · rw [up_ne e]; exact i3.o v b0 (by omega)
      repeat' (first | apply And.intro | (with_reducible assumption) | (intro h9; first | (exfalso; omega) | (simp only [rI_rI, rJ_rJ, hI_rI, hJ_rI, hI_rJ, hJ_rJ, hR_rI, hR_rJ, hN_rI, hN_rJ, svH_63, svH_66, rfH_63, wvH_63, wvH_62, wvH_67, wvH_68, wvH_69, sc_63, sc_n62, sc_n67, sc_n68, sc_n69, sc_n70, reduceIte, Nat.reduceEqDiff, eq_self, up_up, up_self, up_ne, ne_eq, not_false_eq_true, Int.reduceEq, Int.reduceNeg] at h9; first | (exfalso; omega) | skip) | skip) | exact Exists.intro _ ⟨by omega, i + 1, _, rfl, rI_rI _ _ _ _, by omega, by omega, e, rfl⟩ | exact h1 | exact h1 (by omega) | exact h3 | exact h3 (by omega) | omega | exact True.intro | (simp only [rI_rI, rJ_rJ, hI_rI, hJ_rI, hI_rJ, hJ_rJ, hR_rI, hR_rJ, hN_rI, hN_rJ, svH_63, svH_66, rfH_63, wvH_63, wvH_62, wvH_67, wvH_68, wvH_69, sc_63, sc_n62, sc_n67, sc_n68, sc_n69, sc_n70, reduceIte, Nat.reduceEqDiff, eq_self, up_up, up_self, up_ne, ne_eq, not_false_eq_true, Int.reduceEq, Int.reduceNeg]; omega))
    · obtain rfl : i = 4 := by omega
      have e : Asg (hI h 63) a (fun v => hI h 63 (286 + v)) := Box.i fun v b0 b1 => i3.o v b0 (by omega)
      have e2 := e.ev h1.inp
      repeat' (first | apply And.intro | (with_reducible assumption) | (intro h9; first | (exfalso; omega) | (simp only [rI_rI, rJ_rJ, hI_rI, hJ_rI, hI_rJ, hJ_rJ, hR_rI, hR_rJ, hN_rI, hN_rJ, svH_63, svH_66, rfH_63, wvH_63, wvH_62, wvH_67, wvH_68, wvH_69, sc_63, sc_n62, sc_n67, sc_n68, sc_n69, sc_n70, reduceIte, Nat.reduceEqDiff, eq_self, up_up, up_self, up_ne, ne_eq, not_false_eq_true, Int.reduceEq, Int.reduceNeg] at h9; first | (exfalso; omega) | skip) | skip) | exact h1 | exact e2 | exact h3 a _ e (e.vls h1 (by assumption)) | exact h1 | exact h1 (by omega) | exact h3 | exact h3 (by omega) | omega | exact True.intro | (simp only [rI_rI, rJ_rJ, hI_rI, hJ_rI, hI_rJ, hJ_rJ, hR_rI, hR_rJ, hN_rI, hN_rJ, svH_63, svH_66, rfH_63, wvH_63, wvH_62, wvH_67, wvH_68, wvH_69, sc_63, sc_n62, sc_n67, sc_n68, sc_n69, sc_n70, reduceIte, Nat.reduceEqDiff, eq_self, up_up, up_self, up_ne, ne_eq, not_false_eq_true, Int.reduceEq, Int.reduceNeg]; omega))
theorem m_X10_laysInputs : MM 229 s_X10_laysInputs := mm_of (own := 9) (by rfl) k_X10_laysInputs (cl := [(228, s_X10_laysValues)]) ⟨m_X10_laysValues, trivial⟩ o_X10_laysInputs
def s_X10_laysAssignment : CS := (zc 5, ap [(3, 62), (0, 0)] (fun N h Rt X =>
(0 ≤ N ∧ N < 2147483648) ∧ WF (hI h 63) ∧ ∀ a f, Asg (hI h 63) a (asg (hI h 63) N) → Vls (hI h 63) (asg (hI h 63) N) f → Rt none (wvH h a f)))
set_option maxRecDepth 100000 in
set_option maxHeartbeats 4000000 in
theorem o_X10_laysAssignment : Obl true 0 5 (sp [(198, s_X10_width), (201, s_X10_mask), (228, s_X10_laysValues)]) [] code_X10_laysAssignment s_X10_laysAssignment := by
  refine oblL (by rfl) [(13, [0, 2, 3])] ?_
  intro N r_N h Rt X hh hf hs
  obtain ⟨⟨a1, a2⟩, h1, h3⟩ := hs
  have v0 := h1.vn.1
  have v1 := h1.vn.2
  refine ⟨fun k pc vs g => ∃ (i x : Int) (a : Int → Int), vs = [.inr (.inr (some 62)), .inl x, .inl i] ∧ g = rI h 67 a ∧ -1 ≤ i ∧ i < hI h 63 281 ∧ x = N / p2 (sumW (hI h 63) (hI h 63 281).toNat - sumW (hI h 63) (i + 1).toNat) ∧ Box (∀ v, i < v → v < hI h 63 281 → a v = asg (hI h 63) N v) ∧ k = (i + 1).toNat, ?_, ?_⟩
  · have e : N = N / p2 (sumW (hI h 63) (hI h 63 281).toNat - sumW (hI h 63) (hI h 63 281 - 1 + 1).toNat) := by
      rw [show hI h 63 281 - 1 + 1 = hI h 63 281 by omega, Int.sub_self, p2_0, Int.ediv_one]
    repeat' (first | apply And.intro | (with_reducible assumption) | (intro h9; first | (exfalso; omega) | (simp only [rI_rI, rJ_rJ, hI_rI, hJ_rI, hI_rJ, hJ_rJ, hR_rI, hR_rJ, hN_rI, hN_rJ, svH_63, svH_66, rfH_63, wvH_63, wvH_62, wvH_67, wvH_68, wvH_69, sc_63, sc_n62, sc_n67, sc_n68, sc_n69, sc_n70, reduceIte, Nat.reduceEqDiff, eq_self, up_up, up_self, up_ne, ne_eq, not_false_eq_true, Int.reduceEq, Int.reduceNeg] at h9; first | (exfalso; omega) | skip) | skip) | exact Exists.intro _ ⟨hI h 63 281 - 1, N, hI h 67, rfl, (rI_id h 67).symm, by omega, by omega, e, Box.i (fun m a b => by omega), rfl⟩ | exact h1 | exact h1 (by omega) | exact h3 | exact h3 (by omega) | omega | exact True.intro | (simp only [rI_rI, rJ_rJ, hI_rI, hJ_rI, hI_rJ, hJ_rJ, hR_rI, hR_rJ, hN_rI, hN_rJ, svH_63, svH_66, rfH_63, wvH_63, wvH_62, wvH_67, wvH_68, wvH_69, sc_63, sc_n62, sc_n67, sc_n68, sc_n69, sc_n70, reduceIte, Nat.reduceEqDiff, eq_self, up_up, up_self, up_ne, ne_eq, not_false_eq_true, Int.reduceEq, Int.reduceNeg]; omega))
  · rintro k pc live vs g hl ⟨i, x, a, rfl, rfl, i1, i2, i3, i4, rfl⟩ hv hh1 hf1
    obtain ⟨rfl, rfl⟩ := look1 hl
    by_cases c : 0 ≤ i
    · have q := h1.wv c i2
      have q2 := h1.var c i2
      have q3 := h1.nn
      have q4 := plc_rng h1 c i2
      have e0 : sumW (hI h 63) (i + 1).toNat = sumW (hI h 63) i.toNat + nd (hI h 63) (hI h 63 (282 + i)) 1 := by
        rw [show (i + 1).toNat = i.toNat + 1 from by omega, sumW_succ, show ((i.toNat : Nat) : Int) = i from by omega]
      have x0 : 0 ≤ x := by rw [i3]; exact Int.ediv_nonneg a1 (by have := p2_pos (sumW (hI h 63) (hI h 63 281).toNat - sumW (hI h 63) (i + 1).toNat); omega)
      have x1 : x ≤ N := by rw [i3]; exact Int.ediv_le_self _ a1
      have e1 : bAnd x (p2 (nd (hI h 63) (hI h 63 (282 + i)) 1) - 1) = asg (hI h 63) N i := by
        rw [bAnd_mask (by omega) (by omega), i3]; rfl
      have e2 : sShr x (nd (hI h 63) (hI h 63 (282 + i)) 1) = N / p2 (sumW (hI h 63) (hI h 63 281).toNat - sumW (hI h 63) (i + -1 + 1).toNat) := by
        unfold plc at q4
        rw [sShr_eq ⟨by omega, by omega⟩ (by omega) (by omega), i3, Int.ediv_ediv_of_nonneg (by have := p2_pos (sumW (hI h 63) (hI h 63 281).toNat - sumW (hI h 63) (i + 1).toNat); omega), ← p2_add (by omega) (by omega)]
        congr 2
        rw [show i + -1 + 1 = i by omega]
        omega
      have e3 : Box (∀ v, i + -1 < v → v < hI h 63 281 → up a i (bAnd x (p2 (nd (hI h 63) (hI h 63 (282 + i)) 1) - 1)) v = asg (hI h 63) N v) := by
        refine Box.i fun v b0 b1 => ?_
        by_cases e : v = i
        · subst e; rw [up_self, e1]
        · rw [up_ne e]; exact i4.o v (by omega) b1
      repeat' (first | apply And.intro | (with_reducible assumption) | (intro h9; first | (exfalso; omega) | (simp only [rI_rI, rJ_rJ, hI_rI, hJ_rI, hI_rJ, hJ_rJ, hR_rI, hR_rJ, hN_rI, hN_rJ, svH_63, svH_66, rfH_63, wvH_63, wvH_62, wvH_67, wvH_68, wvH_69, sc_63, sc_n62, sc_n67, sc_n68, sc_n69, sc_n70, reduceIte, Nat.reduceEqDiff, eq_self, up_up, up_self, up_ne, ne_eq, not_false_eq_true, Int.reduceEq, Int.reduceNeg] at h9; first | (exfalso; omega) | skip) | skip) | exact Exists.intro _ ⟨by omega, i + -1, _, _, rfl, rI_rI _ _ _ _, by omega, by omega, e2, e3, rfl⟩ | exact h1 | exact h1 (by omega) | exact h3 | exact h3 (by omega) | omega | exact True.intro | (simp only [rI_rI, rJ_rJ, hI_rI, hJ_rI, hI_rJ, hJ_rJ, hR_rI, hR_rJ, hN_rI, hN_rJ, svH_63, svH_66, rfH_63, wvH_63, wvH_62, wvH_67, wvH_68, wvH_69, sc_63, sc_n62, sc_n67, sc_n68, sc_n69, sc_n70, reduceIte, Nat.reduceEqDiff, eq_self, up_up, up_self, up_ne, ne_eq, not_false_eq_true, Int.reduceEq, Int.reduceNeg]; omega))
    · obtain rfl : i = -1 := by omega
      have e : Asg (hI h 63) a (asg (hI h 63) N) := Box.i fun v b0 b1 => i4.o v (by omega) b1
      have e2 := e.ev (asg_ev _ _)
      repeat' (first | apply And.intro | (with_reducible assumption) | (intro h9; first | (exfalso; omega) | (simp only [rI_rI, rJ_rJ, hI_rI, hJ_rI, hI_rJ, hJ_rJ, hR_rI, hR_rJ, hN_rI, hN_rJ, svH_63, svH_66, rfH_63, wvH_63, wvH_62, wvH_67, wvH_68, wvH_69, sc_63, sc_n62, sc_n67, sc_n68, sc_n69, sc_n70, reduceIte, Nat.reduceEqDiff, eq_self, up_up, up_self, up_ne, ne_eq, not_false_eq_true, Int.reduceEq, Int.reduceNeg] at h9; first | (exfalso; omega) | skip) | skip) | exact h1 | exact e2 | exact h3 a _ e (e.vls h1 (by assumption)) | exact h1 | exact h1 (by omega) | exact h3 | exact h3 (by omega) | omega | exact True.intro | (simp only [rI_rI, rJ_rJ, hI_rI, hJ_rI, hI_rJ, hJ_rJ, hR_rI, hR_rJ, hN_rI, hN_rJ, svH_63, svH_66, rfH_63, wvH_63, wvH_62, wvH_67, wvH_68, wvH_69, sc_63, sc_n62, sc_n67, sc_n68, sc_n69, sc_n70, reduceIte, Nat.reduceEqDiff, eq_self, up_up, up_self, up_ne, ne_eq, not_false_eq_true, Int.reduceEq, Int.reduceNeg]; omega))
/-- a node's value read with or without its sign -/
def rd (w : Int → Int) (n g v : Int) : Int := if g = 0 then v else sgn v (nd w n 1)
theorem m_X10_laysAssignment : MM 230 s_X10_laysAssignment := mm_of (own := 9) (by rfl) k_X10_laysAssignment (cl := [(198, s_X10_width), (201, s_X10_mask), (228, s_X10_laysValues)]) ⟨m_X10_width, m_X10_mask, m_X10_laysValues, trivial⟩ o_X10_laysAssignment
def s_X10_value : CS := (zc 6, ap [(3, 62), (0, 0), (0, 0)] (fun n g h Rt X =>
WF (hI h 63) ∧ (¬ (0 ≤ n ∧ n < hI h 63 0) → Rt (some (.inl 0)) (rfH h 1)) ∧ (0 ≤ n ∧ n < hI h 63 0 → ∀ a f, Rt (some (.inl (rd (hI h 63) n g (vl (hI h 63) (fun v => hI h 63 (286 + v)) n)))) (wvH (rfH h 0) a f))))
set_option maxRecDepth 100000 in
set_option maxHeartbeats 4000000 in
theorem o_X10_value : Obl true 1 3 (sp [(199, s_X10_isNode), (193, s_X10_need), (191, s_X10_refused), (229, s_X10_laysInputs), (198, s_X10_width), (224, s_X10_signed)]) [] code_X10_value s_X10_value := by
  refine obl0 (by rfl) ?_
  intro n r_n g r_g h Rt X hh hf hs
  obtain ⟨h1, h2, h3⟩ := hs
  have n0 := h1.nn.1
  have n1 := h1.nn.2
  by_cases c : 0 ≤ n ∧ n < hI h 63 0
  · have q := h1.wd c.1 c.2
    have q2 := h1.vr h1.inp c.1 c.2
    unfold rd at h3
    have q5 : g = 0 → ∀ a f, Vls (hI h 63) (fun v => hI h 63 (286 + v)) f → Rt (some (.inl (f n))) (wvH (rfH h 0) a f) := fun z a f hf => by
      have := h3 c a f
      rw [if_pos z] at this
      rw [hf.o n c.1 c.2]; exact this
    have q6 : g ≠ 0 → ∀ a f, Vls (hI h 63) (fun v => hI h 63 (286 + v)) f → Rt (some (.inl (sgn (f n) (nd (hI h 63) n 1)))) (wvH (rfH h 0) a f) := fun z a f hf => by
      have := h3 c a f
      rw [if_neg z] at this
      rw [hf.o n c.1 c.2]; exact this
    have q7 : ∀ f, Vls (hI h 63) (fun v => hI h 63 (286 + v)) f → 0 ≤ f n ∧ f n < p2 (nd (hI h 63) n 1) := fun f hf => by
      rw [hf.o n c.1 c.2]; exact q2
    repeat' (first | apply And.intro | (with_reducible assumption) | (intro h9; first | (exfalso; omega) | (simp only [rI_rI, rJ_rJ, hI_rI, hJ_rI, hI_rJ, hJ_rJ, hR_rI, hR_rJ, hN_rI, hN_rJ, svH_63, svH_66, rfH_63, wvH_63, wvH_62, wvH_67, wvH_68, wvH_69, sc_63, sc_n62, sc_n67, sc_n68, sc_n69, sc_n70, reduceIte, Nat.reduceEqDiff, eq_self, up_up, up_self, up_ne, ne_eq, not_false_eq_true, Int.reduceEq, Int.reduceNeg] at h9; first | (exfalso; omega) | skip) | skip) | exact h1 | exact (q7 _ (by assumption)).1 | exact (q7 _ (by assumption)).2 | exact q5 (by omega) _ _ (by assumption) | exact q6 (by omega) _ _ (by assumption) | exact h1 | exact h1 (by omega) | exact h2 | exact h2 (by omega) | exact h3 | exact h3 (by omega) | omega | exact True.intro | (simp only [rI_rI, rJ_rJ, hI_rI, hJ_rI, hI_rJ, hJ_rJ, hR_rI, hR_rJ, hN_rI, hN_rJ, svH_63, svH_66, rfH_63, wvH_63, wvH_62, wvH_67, wvH_68, wvH_69, sc_63, sc_n62, sc_n67, sc_n68, sc_n69, sc_n70, reduceIte, Nat.reduceEqDiff, eq_self, up_up, up_self, up_ne, ne_eq, not_false_eq_true, Int.reduceEq, Int.reduceNeg]; omega))
  · repeat' (first | apply And.intro | (with_reducible assumption) | (intro h9; first | (exfalso; omega) | (simp only [rI_rI, rJ_rJ, hI_rI, hJ_rI, hI_rJ, hJ_rJ, hR_rI, hR_rJ, hN_rI, hN_rJ, svH_63, svH_66, rfH_63, wvH_63, wvH_62, wvH_67, wvH_68, wvH_69, sc_63, sc_n62, sc_n67, sc_n68, sc_n69, sc_n70, reduceIte, Nat.reduceEqDiff, eq_self, up_up, up_self, up_ne, ne_eq, not_false_eq_true, Int.reduceEq, Int.reduceNeg] at h9; first | (exfalso; omega) | skip) | skip) | exact h2 c | exact h1 | exact h1 (by omega) | exact h2 | exact h2 (by omega) | exact h3 | exact h3 (by omega) | omega | exact True.intro | (simp only [rI_rI, rJ_rJ, hI_rI, hJ_rI, hI_rJ, hJ_rJ, hR_rI, hR_rJ, hN_rI, hN_rJ, svH_63, svH_66, rfH_63, wvH_63, wvH_62, wvH_67, wvH_68, wvH_69, sc_63, sc_n62, sc_n67, sc_n68, sc_n69, sc_n70, reduceIte, Nat.reduceEqDiff, eq_self, up_up, up_self, up_ne, ne_eq, not_false_eq_true, Int.reduceEq, Int.reduceNeg]; omega))
theorem m_X10_value : MM 231 s_X10_value := mm_of (own := 9) (by rfl) k_X10_value (cl := [(199, s_X10_isNode), (193, s_X10_need), (191, s_X10_refused), (229, s_X10_laysInputs), (198, s_X10_width), (224, s_X10_signed)]) ⟨m_X10_isNode, m_X10_need, m_X10_refused, m_X10_laysInputs, m_X10_width, m_X10_signed, trivial⟩ o_X10_value

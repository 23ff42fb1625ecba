/-! ===== the class: what is saved; methods that throw ===== -/
/-- what a method may make, how high it stands -/
abbrev xc (mc ms n : Nat) : List AV → Hp → Nat × (Nat × Nat) := fun _ _ => (mc, (ms, n))
theorem obl0x {sh : List (Nat × Nat)} {f : Fn sh} {rk nL mc ms HT : Nat} {S : Nat → CS} {hd : List (Nat × (Nat × (Nat × Nat)))} {code : List (Nat × Row)} (hcat : (Nat.ble (catSh sh) nL && Nat.blt 0 HT) = true)
    (H : AllA sh f (fun as g => ∀ (h : Hp) (Rt : Option AV → Hp → Prop) (X : Nat → Hp → Prop), hok h → fixed h → g h Rt X → aw true rk mc ms HT S hd Rt X none (fun _ => 0) code [] (fun _ _ _ _ _ => False) 4000 code 0 (lpad (lent as) nL) [] h 0 0)) : Obl true rk nL S hd code (xc mc ms HT, ap sh f) := by
  intro as h Rt X hv hh hf ha
  obtain ⟨e, g, h1, h2⟩ := allA_el H hv ha
  rw [e]
  refine ⟨hcat, [], fun _ _ _ _ _ _ => False, 4000, ?_, fun k pc live vs h1 u v hl => by cases hl⟩
  have := h1 h Rt X hh (hf rfl) h2
  have e9 : (fun (pc : Nat) (vs : List AV) (h : Hp) (u v : Nat) => ∃ k : Nat, (fun (_ : Nat) (_ : Nat) (_ : List AV) (_ : Hp) (_ _ : Nat) => False) k pc vs h u v) = (fun _ _ _ _ _ => False) := by
    funext a b c d e
    exact propext ⟨fun ⟨_, q⟩ => q, fun q => q.elim⟩
  show aw true rk mc ms HT S hd Rt X none (fun _ => 0) code [] (fun pc vs h u v => ∃ k : Nat, (fun (_ : Nat) (_ : Nat) (_ : List AV) (_ : Hp) (_ _ : Nat) => False) k pc vs h u v) 4000 code 0 (lpad (lent as) nL) [] h 0 0
  rw [e9]
  exact this
theorem ob_i {b : Bool} {P : Prop} (h1 : b = true) (h2 : P) : ob b P := by rw [h1]; exact h2
/-- a saved row -/
def rowP (ps : Int → Int) (i : Int) : Int → Int := fun j => ps (349 * i + j)
theorem Cts_cg {u w : Int → Int} (e : ∀ j, 0 ≤ j → j < 349 → u j = w j) (h : Cts w) : Cts u := by
  unfold Cts
  rw [e 290 (by decide) (by decide), e 332 (by decide) (by decide), e 281 (by decide) (by decide)]
  exact h
theorem St0_cg {f : Nat → Int → Int} {a : Nat} {u w : Int → Int} (e : ∀ j, 0 ≤ j → j < 349 → u j = w j) (c : Cts w) (h : St0 f a w) : St0 f a u := by
  obtain ⟨h1, h2, h3, h4, h5, h6⟩ := h.o
  obtain ⟨c1, c2, c3⟩ := c.o
  refine Box.i ⟨by rw [e _ (by decide) (by decide)]; exact h1, by rw [e _ (by decide) (by decide)]; exact h2, by rw [e _ (by decide) (by decide)]; exact h3, fun k k0 k1 => ?_, fun k k0 k1 => ?_, fun k k0 k1 => ?_⟩
  · rw [e _ (by decide) (by decide)] at k1
    rw [e _ (by omega) (by omega), e _ (by omega) (by omega)]; exact h4 k k0 k1
  · rw [e _ (by decide) (by decide)] at k1
    rw [e _ (by omega) (by omega), e _ (by omega) (by omega)]; exact h5 k k0 k1
  · rw [e _ (by decide) (by decide)] at k1
    rw [e _ (by omega) (by omega)]; exact h6 k k0 k1
theorem St0_fc {f g : Nat → Int → Int} {a : Nat} {w : Int → Int} (e : ∀ q, a ≤ q → q < a + 6 → g q = f q) (h : St0 f a w) : St0 g a w := by
  unfold St0
  rw [e a (by omega) (by omega), e (a + 1) (by omega) (by omega), e (a + 2) (by omega) (by omega), e (a + 3) (by omega) (by omega), e (a + 4) (by omega) (by omega), e (a + 5) (by omega) (by omega)]
  exact h
/-- the history's rows hold the saved rows -/
def HR (f : Nat → Int → Int) (r : Int → Option Nat) (ps : Int → Int) (s : Int) : Prop := Box (f 11 1 = s ∧ 0 ≤ s ∧ s ≤ 5 ∧ ∃ P : Int → Nat, (∀ i, 0 ≤ i → i < 5 → r i = some (P i) ∧ SL (P i)) ∧ (∀ i j, 0 ≤ i → i < j → j < 5 → P i ≠ P j) ∧ ∀ i, 0 ≤ i → i < s → St0 f (P i) (rowP ps i) ∧ f (P i) 0 = rowP ps i 0 ∧ Cts (rowP ps i))
def svPp (ps : Int → Int) (s : Int) (w : Int → Int) : Int → Int := if s = 5 then pPut (pSh ps 1396) 4 w 349 else pPut ps s w 349
def svS (s : Int) : Int := if s = 5 then 5 else s + 1
def hsH (h : Hp) (f : Nat → Int → Int) (r : Int → Option Nat) : Hp := (h.1, (fun q => if 11 ≤ q ∧ q < 43 then f q else h.2.1 q), h.2.2.1, fun q => if q = 12 then r else h.2.2.2 q)
def svF' (f : Nat → Int → Int) (a : Nat) (n s : Int) : Nat → Int → Int := fun q => if q = 11 then up (f 11) 1 (s + 1) else if q = a then up (cpS f a 5 a) 0 n else if a ≤ q ∧ q < a + 6 then cpS f a 5 q else f q
theorem SL.ne {a b : Nat} (ha : SL a) (hb : SL b) (e : a ≠ b) : (a + 6 ≤ b ∨ b + 6 ≤ a) := by
  have h1 := ha.o
  have h2 := hb.o
  omega
theorem SL.lo {a : Nat} (ha : SL a) : 13 ≤ a ∧ a ≤ 37 := by
  have h1 := ha.o
  omega
theorem save_HR {f : Nat → Int → Int} {r : Int → Option Nat} {ps w : Int → Int} {s n : Int} {a : Nat} (h : HR f r ps s) (hs : s < 5) (hw : St0 f 5 w) (hc : Cts w) (hn : n = w 0) (hr : r s = some a) : HR (svF' f a n s) r (pPut ps s w 349) (s + 1) := by
  obtain ⟨h1, h2, h3, P, p1, p2, p3⟩ := h.o
  have pa := p1 s h2 hs
  rw [hr, Option.some_inj] at pa
  obtain ⟨rfl, sa⟩ := pa
  have la := sa.lo
  have ef : ∀ q, P s ≤ q → q < P s + 6 → q ≠ P s → svF' f (P s) n s q = cpS f (P s) 5 q := fun q a b c => by
    unfold svF'
    rw [if_neg (by omega), if_neg c, if_pos ⟨a, b⟩]
  have e0 : svF' f (P s) n s (P s) = up (cpS f (P s) 5 (P s)) 0 n := by
    unfold svF'
    rw [if_neg (by omega), if_pos rfl]
  refine Box.i ⟨?_, by omega, by omega, P, p1, p2, fun i i0 i1 => ?_⟩
  · unfold svF'
    rw [if_pos rfl, up_self]
  · by_cases e : i = s
    · subst e
      have er : ∀ j, 0 ≤ j → j < 349 → rowP (pPut ps i w 349) i j = w j := fun j a b => by
        unfold rowP pPut
        rw [if_pos (by omega)]
        congr 1
        omega
      refine ⟨St0_cg er hc ?_, by rw [e0, up_self, er 0 (by decide) (by decide), hn], Cts_cg er hc⟩
      have k := cpS_st (a := P i) hw hc
      unfold St0 at k ⊢
      rw [e0, ef _ (by omega) (by omega) (by omega), ef _ (by omega) (by omega) (by omega), ef _ (by omega) (by omega) (by omega), ef _ (by omega) (by omega) (by omega), ef _ (by omega) (by omega) (by omega), up_ne (by decide), up_ne (by decide), up_ne (by decide)]
      exact k
    · have q := p3 i i0 (by omega)
      have si := (p1 i i0 (by omega)).2
      have ne : P i ≠ P s := p2 i s i0 (by omega) hs
      have dj := si.ne sa ne
      have li := si.lo
      have eo : ∀ q, P i ≤ q → q < P i + 6 → svF' f (P s) n s q = f q := fun q a b => by
        unfold svF'
        rw [if_neg (by omega), if_neg (by omega), if_neg (by omega)]
      have er : ∀ j, 0 ≤ j → j < 349 → rowP (pPut ps s w 349) i j = rowP ps i j := fun j a b => by
        unfold rowP pPut
        rw [if_neg (by omega)]
      exact ⟨St0_cg er q.2.2 (St0_fc eo q.1), by rw [eo _ (by omega) (by omega), er 0 (by decide) (by decide)]; exact q.2.1, Cts_cg er q.2.2⟩
theorem save_H (h : Hp) {a : Nat} (sa : SL a) (n : Int) : rI (rI (stH h a (cpS (hI h) a 5)) a (up (hI (stH h a (cpS (hI h) a 5)) a) 0 n)) 11 (up (hI (rI (stH h a (cpS (hI h) a 5)) a (up (hI (stH h a (cpS (hI h) a 5)) a) 0 n)) 11) 1 (hI (rI (stH h a (cpS (hI h) a 5)) a (up (hI (stH h a (cpS (hI h) a 5)) a) 0 n)) 11 1 + 1)) = hsH h (svF' (hI h) a n (hI h 11 1)) (hR h 12) := by
  have la := sa.lo
  have eS : hI (stH h a (cpS (hI h) a 5)) a = cpS (hI h) a 5 a := by
    show (if a ≤ a ∧ a < a + 6 then _ else _) = _
    rw [if_pos (by omega)]
  have e11 : hI (rI (stH h a (cpS (hI h) a 5)) a (up (hI (stH h a (cpS (hI h) a 5)) a) 0 n)) 11 = hI h 11 := by
    rw [hI_rI, if_neg (by omega)]
    show (if a ≤ 11 ∧ 11 < a + 6 then _ else _) = _
    rw [if_neg (by omega)]
    rfl
  rw [e11, eS]
  have e : hI (rI (rI (stH h a (cpS (hI h) a 5)) a (up (cpS (hI h) a 5 a) 0 n)) 11 (up (hI h 11) 1 (hI h 11 1 + 1))) = fun q => if 11 ≤ q ∧ q < 43 then svF' (hI h) a n (hI h 11 1) q else hI h q := by
    funext q
    rw [hI_rI, hI_rI]
    unfold svF'
    by_cases z : 11 ≤ q ∧ q < 43
    · rw [if_pos z]
      by_cases q1 : q = 11
      · rw [if_pos q1, if_pos q1]
      rw [if_neg q1, if_neg q1]
      by_cases q2 : q = a
      · rw [if_pos q2, if_pos q2]
      rw [if_neg q2, if_neg q2]
      show (if a ≤ q ∧ q < a + 6 then _ else _) = _
      rfl
    · rw [if_neg z, if_neg (by omega), if_neg (by omega)]
      show (if a ≤ q ∧ q < a + 6 then _ else _) = _
      rw [if_neg (by omega)]
      rfl
  have eR : hR h = fun q => if q = 12 then hR h 12 else hR h q := by
    funext q
    by_cases z : q = 12
    · rw [if_pos z, z]
    · rw [if_neg z]
  show (h.1, hI (rI (rI (stH h a (cpS (hI h) a 5)) a (up (cpS (hI h) a 5 a) 0 n)) 11 (up (hI h 11) 1 (hI h 11 1 + 1))), (h.2.2.1, hR h)) = _
  rw [e]
  unfold hsH
  congr 3
theorem hs_hs (h : Hp) (f g : Nat → Int → Int) (r k : Int → Option Nat) (x : Int → Int) (e : ∀ q, 43 ≤ q ∨ q < 11 → True) : hsH (rI (rR h 12 k) 11 x) f r = hsH h f r := by
  unfold hsH rI rR
  congr 2
  · funext q
    by_cases z : 11 ≤ q ∧ q < 43
    · rw [if_pos z, if_pos z]
    · rw [if_neg z, if_neg z]
      show (if q = 11 then x else h.2.1 q) = h.2.1 q
      rw [if_neg (by omega)]
  · congr 1
    funext q
    by_cases z : q = 12
    · rw [if_pos z, if_pos z]
    · rw [if_neg z, if_neg z]
      show (if q = 12 then k else h.2.2.2 q) = h.2.2.2 q
      rw [if_neg z]
/-- the rows when the oldest state has fallen away -/
theorem drop_HR {f : Nat → Int → Int} {r k : Int → Option Nat} {ps : Int → Int} (h : HR f r ps 5) (k1 : ∀ i, 0 ≤ i → i < 4 → k i = r (i + 1)) (k2 : k 4 = r 0) : HR (fun q => if q = 11 then up (f 11) 1 4 else f q) k (pSh ps 1396) 4 := by
  obtain ⟨h1, h2, h3, P, p1, p2, p3⟩ := h.o
  refine Box.i ⟨by show (if 11 = 11 then up (f 11) 1 4 else f 11) 1 = 4; rw [if_pos rfl, up_self], by omega, by omega, fun i => if i = 4 then P 0 else P (i + 1), fun i i0 i1 => ?_, fun i j i0 i1 i2 => ?_, fun i i0 i1 => ?_⟩ <;> dsimp only
  · by_cases e : i = 4
    · rw [if_pos e, e, k2]; exact p1 0 (by omega) (by omega)
    · rw [if_neg e, k1 i i0 (by omega)]; exact p1 (i + 1) (by omega) (by omega)
  · rw [if_neg (show ¬ i = 4 by omega)]
    by_cases e : j = 4
    · rw [if_pos e]; exact fun q => p2 0 (i + 1) (by omega) (by omega) (by omega) q.symm
    · rw [if_neg e]; exact p2 (i + 1) (j + 1) (by omega) (by omega) (by omega)
  · rw [if_neg (show ¬ i = 4 by omega)]
    have q := p3 (i + 1) (by omega) (by omega)
    have si := (p1 (i + 1) (by omega) (by omega)).2
    have li := si.lo
    have eo : ∀ q, P (i + 1) ≤ q → q < P (i + 1) + 6 → (fun q => if q = 11 then up (f 11) 1 4 else f q) q = f q := fun q a b => by
      show (if q = 11 then _ else _) = _
      rw [if_neg (by omega)]
    have er : ∀ j, 0 ≤ j → j < 349 → rowP (pSh ps 1396) i j = rowP ps (i + 1) j := fun j a b => by
      unfold rowP pSh
      rw [if_pos (by omega)]
      congr 1
      omega
    refine ⟨St0_cg er q.2.2 (St0_fc eo q.1), ?_, Cts_cg er q.2.2⟩
    rw [if_neg (by omega), er 0 (by decide) (by decide)]; exact q.2.1
theorem rRR (h : Hp) (a : Nat) (f g : Int → Option Nat) : rR (rR h a f) a g = rR h a g := by
  unfold rR
  congr 3
  funext b
  by_cases e : b = a <;> simp [e]
def U5 (f : Int → Option Nat) (a b c d e : Nat) : Int → Option Nat := up (up (up (up (up f 0 (some a)) 1 (some b)) 2 (some c)) 3 (some d)) 4 (some e)
theorem rR_id (h : Hp) (a : Nat) : rR h a (hR h a) = h := by
  unfold rR hR
  have : (fun b => if b = a then h.2.2.2 a else h.2.2.2 b) = h.2.2.2 := by
    funext b
    by_cases e : b = a
    · subst e; simp
    · simp [e]
  rw [this]
theorem U5_id {f : Int → Option Nat} {a b c d e : Nat} (h0 : f 0 = some a) (h1 : f 1 = some b) (h2 : f 2 = some c) (h3 : f 3 = some d) (h4 : f 4 = some e) : U5 f a b c d e = f := by
  unfold U5
  rw [← h0, up_id, ← h1, up_id, ← h2, up_id, ← h3, up_id, ← h4, up_id]
def dk (f : Int → Option Nat) : Int → Option Nat := up (up (up (up (up f 0 (f 1)) 1 (f 2)) 2 (f 3)) 3 (f 4)) 4 (f 0)
def s_X1_dropOldest : CS := (zc 1, ap [(3, 11)] (fun  h Rt X =>
Box (∃ a b c d e : Nat, hR h 12 0 = some a ∧ hR h 12 1 = some b ∧ hR h 12 2 = some c ∧ hR h 12 3 = some d ∧ hR h 12 4 = some e ∧ SL a ∧ SL b ∧ SL c ∧ SL d ∧ SL e) ∧ (0 < hI h 11 1 ∧ hI h 11 1 ≤ 5) ∧ Rt none (rI (rR h 12 (dk (hR h 12))) 11 (up (hI h 11) 1 (hI h 11 1 - 1)))))
set_option maxRecDepth 100000 in
set_option maxHeartbeats 4000000 in
theorem o_X1_dropOldest : Obl true 0 3 (sp []) [] code_X1_dropOldest s_X1_dropOldest := by
  refine obl0 (by rfl) ?_
  intro  h Rt X hh hf hs
  obtain ⟨h1, ⟨q1, q2⟩, q3⟩ := hs
  obtain ⟨a, b, c, d, e, e0, e1, e2, e3, e4, sa, sb, sc, sd, se⟩ := h1.o
  have e9 : h = rR h 12 (U5 (hR h 12) a b c d e) := by rw [U5_id e0 e1 e2 e3 e4, rR_id]
  obtain ⟨g, e8⟩ : ∃ g, h = rR g 12 (U5 (hR g 12) a b c d e) := ⟨h, e9⟩
  clear e9
  subst e8
  have q4 : 0 < hI g 11 1 := q1
  have q5 : hI g 11 1 ≤ 5 := q2
  repeat' (first | apply And.intro | (with_reducible assumption) | (intro h9; first | (exfalso; omega) | (simp only [rI_rI, rJ_rJ, hI_rI, hJ_rI, hI_rJ, hJ_rJ, hI_rR, hR_rI, hR_rJ, hN_rI, hN_rJ, svH_63, svH_66, rfH_63, wvH_63, wvH_62, wvH_67, wvH_68, wvH_69, sc_63, sc_n62, sc_n67, sc_n68, sc_n69, sc_n70, reduceIte, Nat.reduceEqDiff, eq_self, up_up, up_self, up_ne, ne_eq, not_false_eq_true, Int.reduceEq, Int.reduceNeg] at h9; first | (exfalso; omega) | skip) | skip) | refine ob_i (show (Nat.beq 23 23 && Nat.beq (tGK b).1 5) = true from sb.kd) ?_ | refine ob_i (show (Nat.beq 23 23 && Nat.beq (tGK c).1 5) = true from sc.kd) ?_ | refine ob_i (show (Nat.beq 23 23 && Nat.beq (tGK d).1 5) = true from sd.kd) ?_ | refine ob_i (show (Nat.beq 23 23 && Nat.beq (tGK e).1 5) = true from se.kd) ?_ | refine ob_i (show (Nat.beq 23 23 && Nat.beq (tGK a).1 5) = true from sa.kd) ?_ | (refine rt_eq (Rt := Rt) q3 rfl ?_; simp only [rRR]; rfl) | exact h1 | exact h1 (by omega) | omega | exact True.intro | (simp only [rI_rI, rJ_rJ, hI_rI, hJ_rI, hI_rJ, hJ_rJ, hI_rR, hR_rI, hR_rJ, hN_rI, hN_rJ, svH_63, svH_66, rfH_63, wvH_63, wvH_62, wvH_67, wvH_68, wvH_69, sc_63, sc_n62, sc_n67, sc_n68, sc_n69, sc_n70, reduceIte, Nat.reduceEqDiff, eq_self, up_up, up_self, up_ne, ne_eq, not_false_eq_true, Int.reduceEq, Int.reduceNeg]; omega))
theorem m_X1_dropOldest : MM 36 s_X1_dropOldest := mm_of (own := 1) (by rfl) k_X1_dropOldest (cl := []) trivial o_X1_dropOldest

/-! ===== the reference: the digest ===== -/
def mx (s : Int64) (x : Int) : Int64 := Int64.ofNat 31 * s + i2L x
def fW (w : Int → Int) (n : Int) (s : Int64) : Nat → Int64
  | 0 => s
  | j + 1 => mx (fW w n s j) (toldW w n j)
/-- the nodes, the inputs, the constraints, the wishes, the least model's words -/
def dN (w : Int → Int) (s : Int64) : Nat → Int64
  | 0 => s
  | n + 1 => mx (fW w n (dN w s n) 9) (vl w (fun v => w (286 + v)) n)
def dI (w : Int → Int) (s : Int64) : Nat → Int64
  | 0 => s
  | v + 1 => mx (dI w s v) (w (286 + (v : Int)))
def dC (w : Int → Int) (s : Int64) : Nat → Int64
  | 0 => s
  | k + 1 => mx (mx (dC w s k) (w (291 + (k : Int)))) (w (311 + (k : Int)))
def dW (w : Int → Int) (s : Int64) : Nat → Int64
  | 0 => s
  | k + 1 => mx (mx (dW w s k) (w (333 + (k : Int)))) (w (341 + (k : Int)))
def dM (w : Int → Int) (r : Int) (s : Int64) : Nat → Int64
  | 0 => s
  | v + 1 => mx (dM w r s v) (wrd w r v)
def dg1 (w : Int → Int) : Int64 := dN w (mx (Int64.ofNat 1862) (w 0)) (w 0).toNat
def dg2 (w : Int → Int) : Int64 := mx (dI w (dg1 w) (w 281).toNat) (w 290)
def dg3 (w : Int → Int) : Int64 := mx (mx (dC w (dg2 w) (w 290).toNat) (w 331)) (w 332)
def dg4 (w : Int → Int) : Int64 := mx (dW w (dg3 w) (w 332).toNat) (if nxt w 0 = -1 then 0 else 1)
def dgT (w : Int → Int) (len sav : Int) : Int64 := mx (mx (dM w (nxt w 0) (dg4 w) (w 281).toNat) len) sav
/-- what the digest changes -/
def DgR (h g : Hp) : Prop := Box (g.1 = h.1 ∧ g.2.2.2 = h.2.2.2 ∧ (∀ a, a ≠ 62 → a ≠ 67 → a ≠ 68 → a ≠ 69 → hI g a = hI h a) ∧ (∀ a, a ≠ 62 → hJ g a = hJ h a) ∧ (∀ j, j ≠ 4 → j ≠ 10 → j ≠ 11 → hI g 62 j = hI h 62 j) ∧ hI g 62 4 = 0 ∧ FR (hI h 63) (hI g 62) (hI g 69))
theorem hI_rJ' (h : Hp) (a b : Nat) (f : Int → Int64) : hI (rJ h a f) b = hI h b := rfl
theorem DgR.rJ {h g : Hp} (d : DgR h g) (X : Int → Int64) : DgR h (CWordSolverLaw_law_r9643_f7b4c7.rJ g 62 X) := by
  obtain ⟨d1, d2, d3, d4, d5, d6, d7⟩ := d.o
  refine Box.i ⟨d1, d2, d3, fun a ha => ?_, d5, d6, d7⟩
  show (if a = 62 then X else hJ g a) = _
  rw [if_neg ha]
  exact d4 a ha
theorem DgR.wv {h g : Hp} (d : DgR h g) (a b : Int → Int) : DgR h (wvH g a b) := by
  obtain ⟨d1, d2, d3, d4, d5, d6, d7⟩ := d.o
  refine Box.i ⟨d1, d2, fun c h1 h2 h3 h4 => ?_, d4, d5, d6, d7⟩
  show (if c = 68 then b else if c = 67 then a else hI g c) = _
  rw [if_neg h3, if_neg h2]
  exact d3 c h1 h2 h3 h4
theorem DgR.sc {h g : Hp} (d : DgR h g) {F a b c : Int → Int} (hz : Fz (hI g 62) F) (hf : FR (hI g 63) F c) : DgR h (CWordSolverLaw_law_r9643_f7b4c7.sc g F a b c) := by
  obtain ⟨d1, d2, d3, d4, d5, d6, d7⟩ := d.o
  have e63 : hI g 63 = hI h 63 := d3 63 (by decide) (by decide) (by decide) (by decide)
  rw [e63] at hf
  refine Box.i ⟨d1, d2, fun x h1 h2 h3 h4 => ?_, d4, fun j h1 h2 h3 => ?_, ?_, hf⟩
  · show (if x = 62 then F else if x = 67 then a else if x = 68 then b else if x = 69 then c else hI g x) = _
    rw [if_neg h1, if_neg h2, if_neg h3, if_neg h4]
    exact d3 x h1 h2 h3 h4
  · show F j = _
    rw [hz.o.2 j h2 h3]
    exact d5 j h1 h2 h3
  · show F 4 = 0
    rw [hz.o.2 4 (by decide) (by decide)]
    exact d6
/-- the heap and the number so far -/
def DgS (h g : Hp) (s : Int64) : Prop := Box (DgR h g ∧ hJ g 62 26 = s)
theorem DgS.m {h g : Hp} {s : Int64} (d : DgS h g s) {x y : Int} (e : x = y) : DgS h (CWordSolverLaw_law_r9643_f7b4c7.rJ g 62 (up (hJ g 62) 26 (mx (hJ g 62 26) x))) (mx s y) := by
  subst e
  refine Box.i ⟨d.o.1.rJ _, ?_⟩
  show up (hJ g 62) 26 (mx (hJ g 62 26) x) 26 = _
  rw [up_self, d.o.2]
def s_X10_mix : CS := (zc 1, ap [(3, 62), (0, 0)] (fun x h Rt X =>
Rt none (rJ h 62 (up (hJ h 62) 26 (mx (hJ h 62 26) x)))))
set_option maxRecDepth 100000 in
set_option maxHeartbeats 4000000 in
theorem o_X10_mix : Obl true 0 2 (sp []) [] code_X10_mix s_X10_mix := by
  refine obl0 (by rfl) ?_
  intro x r_x h Rt X hh hf hs
  unfold mx at hs
  repeat' (first | apply And.intro | (with_reducible assumption) | (intro h9; first | (exfalso; omega) | (simp only [rI_rI, rJ_rJ, hI_rI, hJ_rI, hI_rJ, hJ_rJ, hI_rR, hR_rI, hR_rJ, hN_rI, hN_rJ, svH_63, svH_66, rfH_63, wvH_63, wvH_62, wvH_67, wvH_68, wvH_69, sc_63, sc_n62, sc_n67, sc_n68, sc_n69, sc_n70, reduceIte, Nat.reduceEqDiff, eq_self, up_up, up_self, up_ne, ne_eq, not_false_eq_true, Int.reduceEq, Int.reduceNeg] at h9; first | (exfalso; omega) | skip) | skip) | exact hs | exact hs | omega | exact True.intro | (simp only [rI_rI, rJ_rJ, hI_rI, hJ_rI, hI_rJ, hJ_rJ, hI_rR, hR_rI, hR_rJ, hN_rI, hN_rJ, svH_63, svH_66, rfH_63, wvH_63, wvH_62, wvH_67, wvH_68, wvH_69, sc_63, sc_n62, sc_n67, sc_n68, sc_n69, sc_n70, reduceIte, Nat.reduceEqDiff, eq_self, up_up, up_self, up_ne, ne_eq, not_false_eq_true, Int.reduceEq, Int.reduceNeg]; omega))
theorem m_X10_mix : MM 286 s_X10_mix := mm_of (own := 9) (by rfl) k_X10_mix (cl := []) trivial o_X10_mix
def DgQ (h : Hp) (m pc : Nat) (vs : List AV) (g : Hp) : Prop :=
  (pc = 24 ∧ ∃ n : Nat, vs = [.inr (.inr (some 62)), .inl (n : Int)] ∧ (n : Int) ≤ hI h 63 0 ∧ DgS h g (dN (hI h 63) (mx (Int64.ofNat 1862) (hI h 63 0)) n) ∧ m = 100000 + 100 * (40 - n)) ∨
  (pc = 36 ∧ ∃ n j : Nat, vs = [.inr (.inr (some 62)), .inl (n : Int), .inl (j : Int)] ∧ (n : Int) < hI h 63 0 ∧ j ≤ 9 ∧ DgS h g (fW (hI h 63) n (dN (hI h 63) (mx (Int64.ofNat 1862) (hI h 63 0)) n) j) ∧ m = 100000 + 100 * (40 - n) - 1 - j) ∨
  (pc = 80 ∧ ∃ v : Nat, vs = [.inr (.inr (some 62)), .inl (v : Int)] ∧ (v : Int) ≤ hI h 63 281 ∧ DgS h g (dI (hI h 63) (dg1 (hI h 63)) v) ∧ m = 50000 + (4 - v)) ∨
  (pc = 126 ∧ ∃ k : Nat, vs = [.inr (.inr (some 62)), .inl (k : Int)] ∧ (k : Int) ≤ hI h 63 290 ∧ DgS h g (dC (hI h 63) (dg2 (hI h 63)) k) ∧ m = 40000 + (20 - k)) ∨
  (pc = 198 ∧ ∃ k : Nat, vs = [.inr (.inr (some 62)), .inl (k : Int)] ∧ (k : Int) ≤ hI h 63 332 ∧ DgS h g (dW (hI h 63) (dg3 (hI h 63)) k) ∧ m = 30000 + (8 - k)) ∨
  (pc = 266 ∧ ∃ v : Nat, vs = [.inr (.inr (some 62)), .inl (nxt (hI h 63) 0), .inl (v : Int)] ∧ (v : Int) ≤ hI h 63 281 ∧ DgS h g (dM (hI h 63) (nxt (hI h 63) 0) (dg4 (hI h 63)) v) ∧ m = 20000 + (4 - v))
theorem look6 {a b c d e f : Nat} {l1 l2 l3 l4 l5 l6 : List Nat} {pc : Nat} {x : List Nat} (h : look [(a, l1), (b, l2), (c, l3), (d, l4), (e, l5), (f, l6)] pc = some x) : (pc = a ∧ x = l1) ∨ (pc = b ∧ x = l2) ∨ (pc = c ∧ x = l3) ∨ (pc = d ∧ x = l4) ∨ (pc = e ∧ x = l5) ∨ (pc = f ∧ x = l6) := by
  have := look_mem h
  simp only [List.mem_cons, List.not_mem_nil, or_false, Prod.mk.injEq] at this
  exact this
def s_X10_digest : CS := (zc 8, ap [(3, 62)] (fun  h Rt X =>
WF (hI h 63) ∧ FR (hI h 63) (hI h 62) (hI h 69) ∧ ∀ g, DgR h g → Rt (some (.inr (.inl (dgT (hI h 63) (hI h 62 6) (hI h 62 3))))) g))
set_option maxRecDepth 100000 in
set_option maxHeartbeats 4000000 in
theorem o_X10_digest : Obl true 3 3 (sp [(286, s_X10_mix), (221, s_X10_told), (229, s_X10_laysInputs), (238, s_X10_model), (239, s_X10_wordOf)]) [] code_X10_digest s_X10_digest := by
  refine oblL (by rfl) [(24, [0, 1]), (36, [0, 1, 2]), (80, [0, 1]), (126, [0, 1]), (198, [0, 1]), (266, [0, 1, 2])] ?_
  intro  h Rt X hh hf hs
  obtain ⟨hW, hR, h3⟩ := hs
  have nn := hW.nn
  have vn := hW.vn
  have cn := hW.cn
  have wn := hW.wn
  refine ⟨DgQ h, ?_, ?_⟩
  · have D0 : DgS h (rJ (rI h 62 (up (hI h 62) 4 0)) 62 (up (hJ h 62) 26 (Int64.ofNat 1862))) (Int64.ofNat 1862) := by
      refine Box.i ⟨Box.i ⟨rfl, rfl, fun a h1 h2 h3 h4 => ?_, fun a h1 => ?_, fun j h1 h2 h3 => ?_, up_self (hI h 62) 4 0, hR.up4⟩, up_self (hJ h 62) 26 _⟩
      · show (if a = 62 then _ else hI h a) = _
        rw [if_neg h1]
      · show (if a = 62 then _ else hJ h a) = _
        rw [if_neg h1]
      · exact up_ne h1
    have C : ∃ k, DgQ h k 24 [.inr (.inr (some 62)), .inl 0] (rJ (rJ (rI h 62 (up (hI h 62) 4 0)) 62 (up (hJ h 62) 26 (Int64.ofNat 1862))) 62 (up (hJ (rJ (rI h 62 (up (hI h 62) 4 0)) 62 (up (hJ h 62) 26 (Int64.ofNat 1862))) 62) 26 (mx (hJ (rJ (rI h 62 (up (hI h 62) 4 0)) 62 (up (hJ h 62) 26 (Int64.ofNat 1862))) 62 26) (hI h 63 0)))) := ⟨100000 + 100 * 40, Or.inl ⟨rfl, 0, rfl, nn.1, D0.m rfl, rfl⟩⟩
    repeat' (first | apply And.intro | (with_reducible assumption) | (intro h9; first | (exfalso; omega) | (simp only [rI_rI, rJ_rJ, hI_rI, hJ_rI, hI_rJ, hJ_rJ, hI_rR, hR_rI, hR_rJ, hN_rI, hN_rJ, svH_63, svH_66, rfH_63, wvH_63, wvH_62, wvH_67, wvH_68, wvH_69, sc_63, sc_n62, sc_n67, sc_n68, sc_n69, sc_n70, reduceIte, Nat.reduceEqDiff, eq_self, up_up, up_self, up_ne, ne_eq, not_false_eq_true, Int.reduceEq, Int.reduceNeg] at h9; first | (exfalso; omega) | skip) | skip) | exact C | (simp only [rI_rI, rJ_rJ, hI_rI, hJ_rI, hI_rJ, hJ_rJ, hI_rR, hR_rI, hR_rJ, hN_rI, hN_rJ, svH_63, svH_66, rfH_63, wvH_63, wvH_62, wvH_67, wvH_68, wvH_69, sc_63, sc_n62, sc_n67, sc_n68, sc_n69, sc_n70, reduceIte, Nat.reduceEqDiff, eq_self, up_up, up_self, up_ne, ne_eq, not_false_eq_true, Int.reduceEq, Int.reduceNeg]; exact C) | exact h3 | exact h3 (by omega) | omega | exact True.intro | (simp only [rI_rI, rJ_rJ, hI_rI, hJ_rI, hI_rJ, hJ_rJ, hI_rR, hR_rI, hR_rJ, hN_rI, hN_rJ, svH_63, svH_66, rfH_63, wvH_63, wvH_62, wvH_67, wvH_68, wvH_69, sc_63, sc_n62, sc_n67, sc_n68, sc_n69, sc_n70, reduceIte, Nat.reduceEqDiff, eq_self, up_up, up_self, up_ne, ne_eq, not_false_eq_true, Int.reduceEq, Int.reduceNeg]; omega))
  · rintro m pc vs' vs g hl hq hv hh1 hf1
    have key : ∀ s, DgS h g s → hI g 63 = hI h 63 ∧ FR (hI h 63) (hI g 62) (hI g 69) ∧ hI g 62 6 = hI h 62 6 ∧ hI g 62 3 = hI h 62 3 := fun s d => by
      obtain ⟨d1, d2, d3, d4, d5, d6, d7⟩ := d.o.1.o
      exact ⟨d3 63 (by decide) (by decide) (by decide) (by decide), d7, d5 6 (by decide) (by decide) (by decide), d5 3 (by decide) (by decide) (by decide)⟩
    rcases hq with ⟨rfl, n, rfl, i1, hS, rfl⟩ | ⟨rfl, n, j, rfl, i1, j1, hS, rfl⟩ | ⟨rfl, v, rfl, i1, hS, rfl⟩ | ⟨rfl, k, rfl, i1, hS, rfl⟩ | ⟨rfl, k, rfl, i1, hS, rfl⟩ | ⟨rfl, v, rfl, i1, hS, rfl⟩
    · have e : vs' = [0, 1] := by
        rcases look6 hl with q | q | q | q | q | q <;> first | exact q.2 | omega
      subst e
      obtain ⟨e63, _⟩ := key _ hS
      have e0 : hI g 63 0 = hI h 63 0 := by rw [e63]
      by_cases y : (n : Int) < hI h 63 0
      · have C : ∃ k', k' < 100000 + 100 * (40 - n) ∧ DgQ h k' 36 [.inr (.inr (some 62)), .inl (n : Int), .inl 0] g := ⟨_, by omega, Or.inr (Or.inl ⟨rfl, n, 0, rfl, y, by omega, hS, rfl⟩)⟩
        repeat' (first | apply And.intro | (with_reducible assumption) | (intro h9; first | (exfalso; omega) | (simp only [rI_rI, rJ_rJ, hI_rI, hJ_rI, hI_rJ, hJ_rJ, hI_rR, hR_rI, hR_rJ, hN_rI, hN_rJ, svH_63, svH_66, rfH_63, wvH_63, wvH_62, wvH_67, wvH_68, wvH_69, sc_63, sc_n62, sc_n67, sc_n68, sc_n69, sc_n70, reduceIte, Nat.reduceEqDiff, eq_self, up_up, up_self, up_ne, ne_eq, not_false_eq_true, Int.reduceEq, Int.reduceNeg] at h9; first | (exfalso; omega) | skip) | skip) | exact C | exact h3 | exact h3 (by omega) | omega | exact True.intro | (simp only [rI_rI, rJ_rJ, hI_rI, hJ_rI, hI_rJ, hJ_rJ, hI_rR, hR_rI, hR_rJ, hN_rI, hN_rJ, svH_63, svH_66, rfH_63, wvH_63, wvH_62, wvH_67, wvH_68, wvH_69, sc_63, sc_n62, sc_n67, sc_n68, sc_n69, sc_n70, reduceIte, Nat.reduceEqDiff, eq_self, up_up, up_self, up_ne, ne_eq, not_false_eq_true, Int.reduceEq, Int.reduceNeg]; omega))
      · have e : (hI h 63 0).toNat = n := by omega
        have C : ∃ k', k' < 100000 + 100 * (40 - n) ∧ DgQ h k' 80 [.inr (.inr (some 62)), .inl 0] g := ⟨_, by omega, Or.inr (Or.inr (Or.inl ⟨rfl, 0, rfl, vn.1, (by show DgS h g (dN _ _ _); rw [e]; exact hS), rfl⟩))⟩
        repeat' (first | apply And.intro | (with_reducible assumption) | (intro h9; first | (exfalso; omega) | (simp only [rI_rI, rJ_rJ, hI_rI, hJ_rI, hI_rJ, hJ_rJ, hI_rR, hR_rI, hR_rJ, hN_rI, hN_rJ, svH_63, svH_66, rfH_63, wvH_63, wvH_62, wvH_67, wvH_68, wvH_69, sc_63, sc_n62, sc_n67, sc_n68, sc_n69, sc_n70, reduceIte, Nat.reduceEqDiff, eq_self, up_up, up_self, up_ne, ne_eq, not_false_eq_true, Int.reduceEq, Int.reduceNeg] at h9; first | (exfalso; omega) | skip) | skip) | exact C | exact h3 | exact h3 (by omega) | omega | exact True.intro | (simp only [rI_rI, rJ_rJ, hI_rI, hJ_rI, hI_rJ, hJ_rJ, hI_rR, hR_rI, hR_rJ, hN_rI, hN_rJ, svH_63, svH_66, rfH_63, wvH_63, wvH_62, wvH_67, wvH_68, wvH_69, sc_63, sc_n62, sc_n67, sc_n68, sc_n69, sc_n70, reduceIte, Nat.reduceEqDiff, eq_self, up_up, up_self, up_ne, ne_eq, not_false_eq_true, Int.reduceEq, Int.reduceNeg]; omega))
    · have e : vs' = [0, 1, 2] := by
        rcases look6 hl with q | q | q | q | q | q <;> first | exact q.2 | omega
      subst e
      obtain ⟨e63, _⟩ := key _ hS
      have hWg : WF (hI g 63) := by rw [e63]; exact hW
      by_cases y : j < 9
      · have C : ∃ k', k' < 100000 + 100 * (40 - n) - 1 - j ∧ DgQ h k' 36 [.inr (.inr (some 62)), .inl (n : Int), .inl ((j : Int) + 1)] (rJ g 62 (up (hJ g 62) 26 (mx (hJ g 62 26) (toldW (hI g 63) n j)))) := ⟨_, by omega, Or.inr (Or.inl ⟨rfl, n, j + 1, rfl, i1, by omega, hS.m (by rw [e63]), rfl⟩)⟩
        repeat' (first | apply And.intro | (with_reducible assumption) | (intro h9; first | (exfalso; omega) | (simp only [rI_rI, rJ_rJ, hI_rI, hJ_rI, hI_rJ, hJ_rJ, hI_rR, hR_rI, hR_rJ, hN_rI, hN_rJ, svH_63, svH_66, rfH_63, wvH_63, wvH_62, wvH_67, wvH_68, wvH_69, sc_63, sc_n62, sc_n67, sc_n68, sc_n69, sc_n70, reduceIte, Nat.reduceEqDiff, eq_self, up_up, up_self, up_ne, ne_eq, not_false_eq_true, Int.reduceEq, Int.reduceNeg] at h9; first | (exfalso; omega) | skip) | skip) | exact C | exact h3 | exact h3 (by omega) | omega | exact True.intro | (simp only [rI_rI, rJ_rJ, hI_rI, hJ_rI, hI_rJ, hJ_rJ, hI_rR, hR_rI, hR_rJ, hN_rI, hN_rJ, svH_63, svH_66, rfH_63, wvH_63, wvH_62, wvH_67, wvH_68, wvH_69, sc_63, sc_n62, sc_n67, sc_n68, sc_n69, sc_n70, reduceIte, Nat.reduceEqDiff, eq_self, up_up, up_self, up_ne, ne_eq, not_false_eq_true, Int.reduceEq, Int.reduceNeg]; omega))
      · have je : j = 9 := by omega
        subst je
        have C : ∀ a f, Vls (hI g 63) (fun v => hI g 63 (286 + v)) f → ∃ k', k' < 100000 + 100 * (40 - n) - 1 - 9 ∧ DgQ h k' 24 [.inr (.inr (some 62)), .inl ((n : Int) + 1)] (rJ (wvH g a f) 62 (up (hJ (wvH g a f) 62) 26 (mx (hJ (wvH g a f) 62 26) (f n)))) := fun a f hf => ⟨_, by omega, Or.inl ⟨rfl, n + 1, rfl, by omega, DgS.m (Box.i ⟨hS.o.1.wv a f, hS.o.2⟩) (by rw [hf.o n (by omega) (by rw [e63]; exact i1), e63]), rfl⟩⟩
        repeat' (first | apply And.intro | (with_reducible assumption) | (intro h9; first | (exfalso; omega) | (simp only [rI_rI, rJ_rJ, hI_rI, hJ_rI, hI_rJ, hJ_rJ, hI_rR, hR_rI, hR_rJ, hN_rI, hN_rJ, svH_63, svH_66, rfH_63, wvH_63, wvH_62, wvH_67, wvH_68, wvH_69, sc_63, sc_n62, sc_n67, sc_n68, sc_n69, sc_n70, reduceIte, Nat.reduceEqDiff, eq_self, up_up, up_self, up_ne, ne_eq, not_false_eq_true, Int.reduceEq, Int.reduceNeg] at h9; first | (exfalso; omega) | skip) | skip) | exact hWg | exact C _ _ (by assumption) | (simp only [rI_rI, rJ_rJ, hI_rI, hJ_rI, hI_rJ, hJ_rJ, hI_rR, hR_rI, hR_rJ, hN_rI, hN_rJ, svH_63, svH_66, rfH_63, wvH_63, wvH_62, wvH_67, wvH_68, wvH_69, sc_63, sc_n62, sc_n67, sc_n68, sc_n69, sc_n70, reduceIte, Nat.reduceEqDiff, eq_self, up_up, up_self, up_ne, ne_eq, not_false_eq_true, Int.reduceEq, Int.reduceNeg]; exact C _ _ (by assumption)) | exact h3 | exact h3 (by omega) | omega | exact True.intro | (simp only [rI_rI, rJ_rJ, hI_rI, hJ_rI, hI_rJ, hJ_rJ, hI_rR, hR_rI, hR_rJ, hN_rI, hN_rJ, svH_63, svH_66, rfH_63, wvH_63, wvH_62, wvH_67, wvH_68, wvH_69, sc_63, sc_n62, sc_n67, sc_n68, sc_n69, sc_n70, reduceIte, Nat.reduceEqDiff, eq_self, up_up, up_self, up_ne, ne_eq, not_false_eq_true, Int.reduceEq, Int.reduceNeg]; omega))
    · have e : vs' = [0, 1] := by
        rcases look6 hl with q | q | q | q | q | q <;> first | exact q.2 | omega
      subst e
      obtain ⟨e63, _⟩ := key _ hS
      have e0 : hI g 63 281 = hI h 63 281 := by rw [e63]
      by_cases y : (v : Int) < hI h 63 281
      · have C : ∃ k', k' < 50000 + (4 - v) ∧ DgQ h k' 80 [.inr (.inr (some 62)), .inl ((v : Int) + 1)] (rJ g 62 (up (hJ g 62) 26 (mx (hJ g 62 26) (hI g 63 (286 + v))))) := ⟨_, by omega, Or.inr (Or.inr (Or.inl ⟨rfl, v + 1, rfl, by omega, hS.m (by rw [e63]), rfl⟩))⟩
        repeat' (first | apply And.intro | (with_reducible assumption) | (intro h9; first | (exfalso; omega) | (simp only [rI_rI, rJ_rJ, hI_rI, hJ_rI, hI_rJ, hJ_rJ, hI_rR, hR_rI, hR_rJ, hN_rI, hN_rJ, svH_63, svH_66, rfH_63, wvH_63, wvH_62, wvH_67, wvH_68, wvH_69, sc_63, sc_n62, sc_n67, sc_n68, sc_n69, sc_n70, reduceIte, Nat.reduceEqDiff, eq_self, up_up, up_self, up_ne, ne_eq, not_false_eq_true, Int.reduceEq, Int.reduceNeg] at h9; first | (exfalso; omega) | skip) | skip) | exact C | exact h3 | exact h3 (by omega) | omega | exact True.intro | (simp only [rI_rI, rJ_rJ, hI_rI, hJ_rI, hI_rJ, hJ_rJ, hI_rR, hR_rI, hR_rJ, hN_rI, hN_rJ, svH_63, svH_66, rfH_63, wvH_63, wvH_62, wvH_67, wvH_68, wvH_69, sc_63, sc_n62, sc_n67, sc_n68, sc_n69, sc_n70, reduceIte, Nat.reduceEqDiff, eq_self, up_up, up_self, up_ne, ne_eq, not_false_eq_true, Int.reduceEq, Int.reduceNeg]; omega))
      · have e : (hI h 63 281).toNat = v := by omega
        have C : ∃ k', k' < 50000 + (4 - v) ∧ DgQ h k' 126 [.inr (.inr (some 62)), .inl 0] (rJ g 62 (up (hJ g 62) 26 (mx (hJ g 62 26) (hI g 63 290)))) := ⟨_, by omega, Or.inr (Or.inr (Or.inr (Or.inl ⟨rfl, 0, rfl, cn.1, (by show DgS h _ (mx (dI _ _ _) _); rw [e]; exact hS.m (by rw [e63])), rfl⟩)))⟩
        repeat' (first | apply And.intro | (with_reducible assumption) | (intro h9; first | (exfalso; omega) | (simp only [rI_rI, rJ_rJ, hI_rI, hJ_rI, hI_rJ, hJ_rJ, hI_rR, hR_rI, hR_rJ, hN_rI, hN_rJ, svH_63, svH_66, rfH_63, wvH_63, wvH_62, wvH_67, wvH_68, wvH_69, sc_63, sc_n62, sc_n67, sc_n68, sc_n69, sc_n70, reduceIte, Nat.reduceEqDiff, eq_self, up_up, up_self, up_ne, ne_eq, not_false_eq_true, Int.reduceEq, Int.reduceNeg] at h9; first | (exfalso; omega) | skip) | skip) | exact C | exact h3 | exact h3 (by omega) | omega | exact True.intro | (simp only [rI_rI, rJ_rJ, hI_rI, hJ_rI, hI_rJ, hJ_rJ, hI_rR, hR_rI, hR_rJ, hN_rI, hN_rJ, svH_63, svH_66, rfH_63, wvH_63, wvH_62, wvH_67, wvH_68, wvH_69, sc_63, sc_n62, sc_n67, sc_n68, sc_n69, sc_n70, reduceIte, Nat.reduceEqDiff, eq_self, up_up, up_self, up_ne, ne_eq, not_false_eq_true, Int.reduceEq, Int.reduceNeg]; omega))
    · have e : vs' = [0, 1] := by
        rcases look6 hl with q | q | q | q | q | q <;> first | exact q.2 | omega
      subst e
      obtain ⟨e63, _⟩ := key _ hS
      have e0 : hI g 63 290 = hI h 63 290 := by rw [e63]
      by_cases y : (k : Int) < hI h 63 290
      · have C := (hS.m (x := hI g 63 (291 + k)) rfl).m (x := hI g 63 (311 + k)) rfl
        have C : ∃ k', k' < 40000 + (20 - k) ∧ DgQ h k' 126 [.inr (.inr (some 62)), .inl ((k : Int) + 1)] _ := ⟨_, by omega, Or.inr (Or.inr (Or.inr (Or.inl ⟨rfl, k + 1, rfl, by omega, (by rw [e63] at C; exact C), rfl⟩)))⟩
        rw [← e63] at C
        repeat' (first | apply And.intro | (with_reducible assumption) | (intro h9; first | (exfalso; omega) | (simp only [rI_rI, rJ_rJ, hI_rI, hJ_rI, hI_rJ, hJ_rJ, hI_rR, hR_rI, hR_rJ, hN_rI, hN_rJ, svH_63, svH_66, rfH_63, wvH_63, wvH_62, wvH_67, wvH_68, wvH_69, sc_63, sc_n62, sc_n67, sc_n68, sc_n69, sc_n70, reduceIte, Nat.reduceEqDiff, eq_self, up_up, up_self, up_ne, ne_eq, not_false_eq_true, Int.reduceEq, Int.reduceNeg] at h9; first | (exfalso; omega) | skip) | skip) | exact C | (simp only [rI_rI, rJ_rJ, hI_rI, hJ_rI, hI_rJ, hJ_rJ, hI_rR, hR_rI, hR_rJ, hN_rI, hN_rJ, svH_63, svH_66, rfH_63, wvH_63, wvH_62, wvH_67, wvH_68, wvH_69, sc_63, sc_n62, sc_n67, sc_n68, sc_n69, sc_n70, reduceIte, Nat.reduceEqDiff, eq_self, up_up, up_self, up_ne, ne_eq, not_false_eq_true, Int.reduceEq, Int.reduceNeg]; simp only [rI_rI, rJ_rJ, hI_rI, hJ_rI, hI_rJ, hJ_rJ, hI_rR, hR_rI, hR_rJ, hN_rI, hN_rJ, svH_63, svH_66, rfH_63, wvH_63, wvH_62, wvH_67, wvH_68, wvH_69, sc_63, sc_n62, sc_n67, sc_n68, sc_n69, sc_n70, reduceIte, Nat.reduceEqDiff, eq_self, up_up, up_self, up_ne, ne_eq, not_false_eq_true, Int.reduceEq, Int.reduceNeg] at C; exact C) | exact h3 | exact h3 (by omega) | omega | exact True.intro | (simp only [rI_rI, rJ_rJ, hI_rI, hJ_rI, hI_rJ, hJ_rJ, hI_rR, hR_rI, hR_rJ, hN_rI, hN_rJ, svH_63, svH_66, rfH_63, wvH_63, wvH_62, wvH_67, wvH_68, wvH_69, sc_63, sc_n62, sc_n67, sc_n68, sc_n69, sc_n70, reduceIte, Nat.reduceEqDiff, eq_self, up_up, up_self, up_ne, ne_eq, not_false_eq_true, Int.reduceEq, Int.reduceNeg]; omega))
      · have e : (hI h 63 290).toNat = k := by omega
        have C := (hS.m (x := hI g 63 331) rfl).m (x := hI g 63 332) rfl
        have C : ∃ k', k' < 40000 + (20 - k) ∧ DgQ h k' 198 [.inr (.inr (some 62)), .inl 0] _ := ⟨_, by omega, Or.inr (Or.inr (Or.inr (Or.inr (Or.inl ⟨rfl, 0, rfl, wn.1, (by show DgS h _ (mx (mx (dC _ _ _) _) _); rw [e, ← e63]; rw [← e63] at C; exact C), rfl⟩))))⟩
        repeat' (first | apply And.intro | (with_reducible assumption) | (intro h9; first | (exfalso; omega) | (simp only [rI_rI, rJ_rJ, hI_rI, hJ_rI, hI_rJ, hJ_rJ, hI_rR, hR_rI, hR_rJ, hN_rI, hN_rJ, svH_63, svH_66, rfH_63, wvH_63, wvH_62, wvH_67, wvH_68, wvH_69, sc_63, sc_n62, sc_n67, sc_n68, sc_n69, sc_n70, reduceIte, Nat.reduceEqDiff, eq_self, up_up, up_self, up_ne, ne_eq, not_false_eq_true, Int.reduceEq, Int.reduceNeg] at h9; first | (exfalso; omega) | skip) | skip) | exact C | (simp only [rI_rI, rJ_rJ, hI_rI, hJ_rI, hI_rJ, hJ_rJ, hI_rR, hR_rI, hR_rJ, hN_rI, hN_rJ, svH_63, svH_66, rfH_63, wvH_63, wvH_62, wvH_67, wvH_68, wvH_69, sc_63, sc_n62, sc_n67, sc_n68, sc_n69, sc_n70, reduceIte, Nat.reduceEqDiff, eq_self, up_up, up_self, up_ne, ne_eq, not_false_eq_true, Int.reduceEq, Int.reduceNeg]; simp only [rI_rI, rJ_rJ, hI_rI, hJ_rI, hI_rJ, hJ_rJ, hI_rR, hR_rI, hR_rJ, hN_rI, hN_rJ, svH_63, svH_66, rfH_63, wvH_63, wvH_62, wvH_67, wvH_68, wvH_69, sc_63, sc_n62, sc_n67, sc_n68, sc_n69, sc_n70, reduceIte, Nat.reduceEqDiff, eq_self, up_up, up_self, up_ne, ne_eq, not_false_eq_true, Int.reduceEq, Int.reduceNeg] at C; exact C) | exact h3 | exact h3 (by omega) | omega | exact True.intro | (simp only [rI_rI, rJ_rJ, hI_rI, hJ_rI, hI_rJ, hJ_rJ, hI_rR, hR_rI, hR_rJ, hN_rI, hN_rJ, svH_63, svH_66, rfH_63, wvH_63, wvH_62, wvH_67, wvH_68, wvH_69, sc_63, sc_n62, sc_n67, sc_n68, sc_n69, sc_n70, reduceIte, Nat.reduceEqDiff, eq_self, up_up, up_self, up_ne, ne_eq, not_false_eq_true, Int.reduceEq, Int.reduceNeg]; omega))
    · have e : vs' = [0, 1] := by
        rcases look6 hl with q | q | q | q | q | q <;> first | exact q.2 | omega
      subst e
      obtain ⟨e63, fr, _⟩ := key _ hS
      have e0 : hI g 63 332 = hI h 63 332 := by rw [e63]
      have hWg : WF (hI g 63) := by rw [e63]; exact hW
      have frg : FR (hI g 63) (hI g 62) (hI g 69) := by rw [e63]; exact fr
      by_cases y : (k : Int) < hI h 63 332
      · have C := (hS.m (x := hI g 63 (333 + k)) rfl).m (x := hI g 63 (341 + k)) rfl
        have C : ∃ k', k' < 30000 + (8 - k) ∧ DgQ h k' 198 [.inr (.inr (some 62)), .inl ((k : Int) + 1)] _ := ⟨_, by omega, Or.inr (Or.inr (Or.inr (Or.inr (Or.inl ⟨rfl, k + 1, rfl, by omega, (by rw [e63] at C; exact C), rfl⟩))))⟩
        rw [← e63] at C
        repeat' (first | apply And.intro | (with_reducible assumption) | (intro h9; first | (exfalso; omega) | (simp only [rI_rI, rJ_rJ, hI_rI, hJ_rI, hI_rJ, hJ_rJ, hI_rR, hR_rI, hR_rJ, hN_rI, hN_rJ, svH_63, svH_66, rfH_63, wvH_63, wvH_62, wvH_67, wvH_68, wvH_69, sc_63, sc_n62, sc_n67, sc_n68, sc_n69, sc_n70, reduceIte, Nat.reduceEqDiff, eq_self, up_up, up_self, up_ne, ne_eq, not_false_eq_true, Int.reduceEq, Int.reduceNeg] at h9; first | (exfalso; omega) | skip) | skip) | exact C | (simp only [rI_rI, rJ_rJ, hI_rI, hJ_rI, hI_rJ, hJ_rJ, hI_rR, hR_rI, hR_rJ, hN_rI, hN_rJ, svH_63, svH_66, rfH_63, wvH_63, wvH_62, wvH_67, wvH_68, wvH_69, sc_63, sc_n62, sc_n67, sc_n68, sc_n69, sc_n70, reduceIte, Nat.reduceEqDiff, eq_self, up_up, up_self, up_ne, ne_eq, not_false_eq_true, Int.reduceEq, Int.reduceNeg]; simp only [rI_rI, rJ_rJ, hI_rI, hJ_rI, hI_rJ, hJ_rJ, hI_rR, hR_rI, hR_rJ, hN_rI, hN_rJ, svH_63, svH_66, rfH_63, wvH_63, wvH_62, wvH_67, wvH_68, wvH_69, sc_63, sc_n62, sc_n67, sc_n68, sc_n69, sc_n70, reduceIte, Nat.reduceEqDiff, eq_self, up_up, up_self, up_ne, ne_eq, not_false_eq_true, Int.reduceEq, Int.reduceNeg] at C; exact C) | exact h3 | exact h3 (by omega) | omega | exact True.intro | (simp only [rI_rI, rJ_rJ, hI_rI, hJ_rI, hI_rJ, hJ_rJ, hI_rR, hR_rI, hR_rJ, hN_rI, hN_rJ, svH_63, svH_66, rfH_63, wvH_63, wvH_62, wvH_67, wvH_68, wvH_69, sc_63, sc_n62, sc_n67, sc_n68, sc_n69, sc_n70, reduceIte, Nat.reduceEqDiff, eq_self, up_up, up_self, up_ne, ne_eq, not_false_eq_true, Int.reduceEq, Int.reduceNeg]; omega))
      · have e : (hI h 63 332).toNat = k := by omega
        have C : ∀ (x : Int) F a b c, x = (if nxt (hI g 63) 0 = -1 then 0 else 1) → Fz (hI g 62) F → FR (hI g 63) F c → ∃ k', k' < 30000 + (8 - k) ∧ DgQ h k' 266 [.inr (.inr (some 62)), .inl (nxt (hI g 63) 0), .inl 0] (rJ (sc g F a b c) 62 (up (hJ (sc g F a b c) 62) 26 (mx (hJ (sc g F a b c) 62 26) x))) := fun x F a b c hx hz hf => by
          subst hx
          rw [e63]
          refine ⟨_, by omega, Or.inr (Or.inr (Or.inr (Or.inr (Or.inr ⟨rfl, 0, rfl, vn.1, ?_, rfl⟩))))⟩
          show DgS h _ (mx (dW _ _ _) _)
          rw [e]
          exact DgS.m (Box.i ⟨hS.o.1.sc hz hf, hS.o.2⟩) rfl
        by_cases z : nxt (hI g 63) 0 = -1
        · repeat' (first | apply And.intro | (with_reducible assumption) | (intro h9; first | (exfalso; omega) | (simp only [rI_rI, rJ_rJ, hI_rI, hJ_rI, hI_rJ, hJ_rJ, hI_rR, hR_rI, hR_rJ, hN_rI, hN_rJ, svH_63, svH_66, rfH_63, wvH_63, wvH_62, wvH_67, wvH_68, wvH_69, sc_63, sc_n62, sc_n67, sc_n68, sc_n69, sc_n70, reduceIte, Nat.reduceEqDiff, eq_self, up_up, up_self, up_ne, ne_eq, not_false_eq_true, Int.reduceEq, Int.reduceNeg] at h9; first | (exfalso; omega) | skip) | skip) | exact hWg | exact frg | exact C _ _ _ _ _ (if_pos z).symm (by assumption) (by assumption) | (simp only [rI_rI, rJ_rJ, hI_rI, hJ_rI, hI_rJ, hJ_rJ, hI_rR, hR_rI, hR_rJ, hN_rI, hN_rJ, svH_63, svH_66, rfH_63, wvH_63, wvH_62, wvH_67, wvH_68, wvH_69, sc_63, sc_n62, sc_n67, sc_n68, sc_n69, sc_n70, reduceIte, Nat.reduceEqDiff, eq_self, up_up, up_self, up_ne, ne_eq, not_false_eq_true, Int.reduceEq, Int.reduceNeg]; exact C _ _ _ _ _ (if_pos z).symm (by assumption) (by assumption)) | exact h3 | exact h3 (by omega) | omega | exact True.intro | (simp only [rI_rI, rJ_rJ, hI_rI, hJ_rI, hI_rJ, hJ_rJ, hI_rR, hR_rI, hR_rJ, hN_rI, hN_rJ, svH_63, svH_66, rfH_63, wvH_63, wvH_62, wvH_67, wvH_68, wvH_69, sc_63, sc_n62, sc_n67, sc_n68, sc_n69, sc_n70, reduceIte, Nat.reduceEqDiff, eq_self, up_up, up_self, up_ne, ne_eq, not_false_eq_true, Int.reduceEq, Int.reduceNeg]; omega))
        · repeat' (first | apply And.intro | (with_reducible assumption) | (intro h9; first | (exfalso; omega) | (simp only [rI_rI, rJ_rJ, hI_rI, hJ_rI, hI_rJ, hJ_rJ, hI_rR, hR_rI, hR_rJ, hN_rI, hN_rJ, svH_63, svH_66, rfH_63, wvH_63, wvH_62, wvH_67, wvH_68, wvH_69, sc_63, sc_n62, sc_n67, sc_n68, sc_n69, sc_n70, reduceIte, Nat.reduceEqDiff, eq_self, up_up, up_self, up_ne, ne_eq, not_false_eq_true, Int.reduceEq, Int.reduceNeg] at h9; first | (exfalso; omega) | skip) | skip) | exact hWg | exact frg | exact C _ _ _ _ _ (if_neg z).symm (by assumption) (by assumption) | (simp only [rI_rI, rJ_rJ, hI_rI, hJ_rI, hI_rJ, hJ_rJ, hI_rR, hR_rI, hR_rJ, hN_rI, hN_rJ, svH_63, svH_66, rfH_63, wvH_63, wvH_62, wvH_67, wvH_68, wvH_69, sc_63, sc_n62, sc_n67, sc_n68, sc_n69, sc_n70, reduceIte, Nat.reduceEqDiff, eq_self, up_up, up_self, up_ne, ne_eq, not_false_eq_true, Int.reduceEq, Int.reduceNeg]; exact C _ _ _ _ _ (if_neg z).symm (by assumption) (by assumption)) | exact h3 | exact h3 (by omega) | omega | exact True.intro | (simp only [rI_rI, rJ_rJ, hI_rI, hJ_rI, hI_rJ, hJ_rJ, hI_rR, hR_rI, hR_rJ, hN_rI, hN_rJ, svH_63, svH_66, rfH_63, wvH_63, wvH_62, wvH_67, wvH_68, wvH_69, sc_63, sc_n62, sc_n67, sc_n68, sc_n69, sc_n70, reduceIte, Nat.reduceEqDiff, eq_self, up_up, up_self, up_ne, ne_eq, not_false_eq_true, Int.reduceEq, Int.reduceNeg]; omega))
    · have e : vs' = [0, 1, 2] := by
        rcases look6 hl with q | q | q | q | q | q <;> first | exact q.2 | omega
      subst e
      obtain ⟨e63, fr, e6, e3⟩ := key _ hS
      have e0 : hI g 63 281 = hI h 63 281 := by rw [e63]
      have hWg : WF (hI g 63) := by rw [e63]; exact hW
      have lt := nxt_lt hW 0
      by_cases y : (v : Int) < hI h 63 281
      · by_cases z : nxt (hI h 63) 0 = -1
        · have C : ∃ k', k' < 20000 + (4 - v) ∧ DgQ h k' 266 [.inr (.inr (some 62)), .inl (nxt (hI h 63) 0), .inl ((v : Int) + 1)] (rJ g 62 (up (hJ g 62) 26 (mx (hJ g 62 26) (-1)))) := ⟨_, by omega, Or.inr (Or.inr (Or.inr (Or.inr (Or.inr ⟨rfl, v + 1, rfl, by omega, hS.m (by unfold wrd; rw [if_pos z]), rfl⟩))))⟩
          repeat' (first | apply And.intro | (with_reducible assumption) | (intro h9; first | (exfalso; omega) | (simp only [rI_rI, rJ_rJ, hI_rI, hJ_rI, hI_rJ, hJ_rJ, hI_rR, hR_rI, hR_rJ, hN_rI, hN_rJ, svH_63, svH_66, rfH_63, wvH_63, wvH_62, wvH_67, wvH_68, wvH_69, sc_63, sc_n62, sc_n67, sc_n68, sc_n69, sc_n70, reduceIte, Nat.reduceEqDiff, eq_self, up_up, up_self, up_ne, ne_eq, not_false_eq_true, Int.reduceEq, Int.reduceNeg] at h9; first | (exfalso; omega) | skip) | skip) | exact hWg | exact C | exact h3 | exact h3 (by omega) | omega | exact True.intro | (simp only [rI_rI, rJ_rJ, hI_rI, hJ_rI, hI_rJ, hJ_rJ, hI_rR, hR_rI, hR_rJ, hN_rI, hN_rJ, svH_63, svH_66, rfH_63, wvH_63, wvH_62, wvH_67, wvH_68, wvH_69, sc_63, sc_n62, sc_n67, sc_n68, sc_n69, sc_n70, reduceIte, Nat.reduceEqDiff, eq_self, up_up, up_self, up_ne, ne_eq, not_false_eq_true, Int.reduceEq, Int.reduceNeg]; omega))
        · have C : ∀ a b, ∃ k', k' < 20000 + (4 - v) ∧ DgQ h k' 266 [.inr (.inr (some 62)), .inl (nxt (hI h 63) 0), .inl ((v : Int) + 1)] (rJ (wvH g a b) 62 (up (hJ (wvH g a b) 62) 26 (mx (hJ (wvH g a b) 62 26) (asg (hI g 63) (nxt (hI h 63) 0) v)))) := fun a b => ⟨_, by omega, Or.inr (Or.inr (Or.inr (Or.inr (Or.inr ⟨rfl, v + 1, rfl, by omega, DgS.m (Box.i ⟨hS.o.1.wv a b, hS.o.2⟩) (by unfold wrd; rw [if_neg z, e63]), rfl⟩))))⟩
          repeat' (first | apply And.intro | (with_reducible assumption) | (intro h9; first | (exfalso; omega) | (simp only [rI_rI, rJ_rJ, hI_rI, hJ_rI, hI_rJ, hJ_rJ, hI_rR, hR_rI, hR_rJ, hN_rI, hN_rJ, svH_63, svH_66, rfH_63, wvH_63, wvH_62, wvH_67, wvH_68, wvH_69, sc_63, sc_n62, sc_n67, sc_n68, sc_n69, sc_n70, reduceIte, Nat.reduceEqDiff, eq_self, up_up, up_self, up_ne, ne_eq, not_false_eq_true, Int.reduceEq, Int.reduceNeg] at h9; first | (exfalso; omega) | skip) | skip) | exact hWg | exact C _ _ | exact h3 | exact h3 (by omega) | omega | exact True.intro | (simp only [rI_rI, rJ_rJ, hI_rI, hJ_rI, hI_rJ, hJ_rJ, hI_rR, hR_rI, hR_rJ, hN_rI, hN_rJ, svH_63, svH_66, rfH_63, wvH_63, wvH_62, wvH_67, wvH_68, wvH_69, sc_63, sc_n62, sc_n67, sc_n68, sc_n69, sc_n70, reduceIte, Nat.reduceEqDiff, eq_self, up_up, up_self, up_ne, ne_eq, not_false_eq_true, Int.reduceEq, Int.reduceNeg]; omega))
      · have e : (hI h 63 281).toNat = v := by omega
        have C := (hS.m (x := hI g 62 6) rfl).m (x := hI g 62 3) rfl
        have K := h3 _ C.o.1
        have k2 := C.o.2
        unfold dgT at K
        rw [e, ← e6, ← e3, ← k2] at K
        repeat' (first | apply And.intro | (with_reducible assumption) | (intro h9; first | (exfalso; omega) | (simp only [rI_rI, rJ_rJ, hI_rI, hJ_rI, hI_rJ, hJ_rJ, hI_rR, hR_rI, hR_rJ, hN_rI, hN_rJ, svH_63, svH_66, rfH_63, wvH_63, wvH_62, wvH_67, wvH_68, wvH_69, sc_63, sc_n62, sc_n67, sc_n68, sc_n69, sc_n70, reduceIte, Nat.reduceEqDiff, eq_self, up_up, up_self, up_ne, ne_eq, not_false_eq_true, Int.reduceEq, Int.reduceNeg] at h9; first | (exfalso; omega) | skip) | skip) | exact K | (simp only [rI_rI, rJ_rJ, hI_rI, hJ_rI, hI_rJ, hJ_rJ, hI_rR, hR_rI, hR_rJ, hN_rI, hN_rJ, svH_63, svH_66, rfH_63, wvH_63, wvH_62, wvH_67, wvH_68, wvH_69, sc_63, sc_n62, sc_n67, sc_n68, sc_n69, sc_n70, reduceIte, Nat.reduceEqDiff, eq_self, up_up, up_self, up_ne, ne_eq, not_false_eq_true, Int.reduceEq, Int.reduceNeg]; simp only [rI_rI, rJ_rJ, hI_rI, hJ_rI, hI_rJ, hJ_rJ, hI_rR, hR_rI, hR_rJ, hN_rI, hN_rJ, svH_63, svH_66, rfH_63, wvH_63, wvH_62, wvH_67, wvH_68, wvH_69, sc_63, sc_n62, sc_n67, sc_n68, sc_n69, sc_n70, reduceIte, Nat.reduceEqDiff, eq_self, up_up, up_self, up_ne, ne_eq, not_false_eq_true, Int.reduceEq, Int.reduceNeg] at K; exact K) | exact h3 | exact h3 (by omega) | omega | exact True.intro | (simp only [rI_rI, rJ_rJ, hI_rI, hJ_rI, hI_rJ, hJ_rJ, hI_rR, hR_rI, hR_rJ, hN_rI, hN_rJ, svH_63, svH_66, rfH_63, wvH_63, wvH_62, wvH_67, wvH_68, wvH_69, sc_63, sc_n62, sc_n67, sc_n68, sc_n69, sc_n70, reduceIte, Nat.reduceEqDiff, eq_self, up_up, up_self, up_ne, ne_eq, not_false_eq_true, Int.reduceEq, Int.reduceNeg]; omega))
theorem m_X10_digest : MM 287 s_X10_digest := mm_of (own := 9) (by rfl) k_X10_digest (cl := [(286, s_X10_mix), (221, s_X10_told), (229, s_X10_laysInputs), (238, s_X10_model), (239, s_X10_wordOf)]) ⟨m_X10_mix, m_X10_told, m_X10_laysInputs, m_X10_model, m_X10_wordOf, trivial⟩ o_X10_digest

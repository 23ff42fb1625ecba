/-! ===== the reference: the digest ===== -/
def mx (s : Int64) (x : Int) : Int64 := Int64.ofNat 31 * s + i2L x
def fW (w : Int → Int) (n : Int) (s : Int64) : Nat → Int64
  | 0 => s
  | j + 1 => mx (fW w n s j) (toldW w n j)
/-- the nodes, the inputs, the constraints, the wishes, the least model's words -/
def dN (w : Int → Int) (s : Int64) : Nat → Int64
  | 0 => s
  | n + 1 => mx (fW w n (dN w s n) 9) (vl w (fun v => w (286 + v)) n)
def dI (w : Int → Int) (s : Int64) : Nat → Int64
  | 0 => s
  | v + 1 => mx (dI w s v) (w (286 + (v : Int)))
def dC (w : Int → Int) (s : Int64) : Nat → Int64
  | 0 => s
  | k + 1 => mx (mx (dC w s k) (w (291 + (k : Int)))) (w (311 + (k : Int)))
def dW (w : Int → Int) (s : Int64) : Nat → Int64
  | 0 => s
  | k + 1 => mx (mx (dW w s k) (w (333 + (k : Int)))) (w (341 + (k : Int)))
def dM (w : Int → Int) (r : Int) (s : Int64) : Nat → Int64
  | 0 => s
  | v + 1 => mx (dM w r s v) (wrd w r v)
def dg1 (w : Int → Int) : Int64 := dN w (mx (Int64.ofNat 1862) (w 0)) (w 0).toNat
def dg2 (w : Int → Int) : Int64 := mx (dI w (dg1 w) (w 281).toNat) (w 290)
def dg3 (w : Int → Int) : Int64 := mx (mx (dC w (dg2 w) (w 290).toNat) (w 331)) (w 332)
def dg4 (w : Int → Int) : Int64 := mx (dW w (dg3 w) (w 332).toNat) (if nxt w 0 = -1 then 0 else 1)
def dgT (w : Int → Int) (len sav : Int) : Int64 := mx (mx (dM w (nxt w 0) (dg4 w) (w 281).toNat) len) sav
/-- what the digest changes -/
def DgR (h g : Hp) : Prop := Box (g.1 = h.1 ∧ g.2.2.2 = h.2.2.2 ∧ (∀ a, a ≠ 62 → a ≠ 67 → a ≠ 68 → a ≠ 69 → hI g a = hI h a) ∧ (∀ a, a ≠ 62 → hJ g a = hJ h a) ∧ (∀ j, j ≠ 4 → j ≠ 10 → j ≠ 11 → hI g 62 j = hI h 62 j) ∧ hI g 62 4 = 0 ∧ FR (hI h 63) (hI g 62) (hI g 69))
theorem hI_rJ' (h : Hp) (a b : Nat) (f : Int → Int64) : hI (rJ h a f) b = hI h b := rfl
theorem DgR.rJ {h g : Hp} (d : DgR h g) (X : Int → Int64) : DgR h (CWordSolverLaw_law_r6868_1636c8.rJ g 62 X) := by
  obtain ⟨d1, d2, d3, d4, d5, d6, d7⟩ := d.o
  refine Box.i ⟨d1, d2, d3, fun a ha => ?_, d5, d6, d7⟩
  show (if a = 62 then X else hJ g a) = _
  rw [if_neg ha]
  exact d4 a ha
theorem DgR.wv {h g : Hp} (d : DgR h g) (a b : Int → Int) : DgR h (wvH g a b) := by
  obtain ⟨d1, d2, d3, d4, d5, d6, d7⟩ := d.o
  refine Box.i ⟨d1, d2, fun c h1 h2 h3 h4 => ?_, d4, d5, d6, d7⟩
  show (if c = 68 then b else if c = 67 then a else hI g c) = _
  rw [if_neg h3, if_neg h2]
  exact d3 c h1 h2 h3 h4
theorem DgR.sc {h g : Hp} (d : DgR h g) {F a b c : Int → Int} (hz : Fz (hI g 62) F) (hf : FR (hI g 63) F c) : DgR h (CWordSolverLaw_law_r6868_1636c8.sc g F a b c) := by
  obtain ⟨d1, d2, d3, d4, d5, d6, d7⟩ := d.o
  have e63 : hI g 63 = hI h 63 := d3 63 (by decide) (by decide) (by decide) (by decide)
  rw [e63] at hf
  refine Box.i ⟨d1, d2, fun x h1 h2 h3 h4 => ?_, d4, fun j h1 h2 h3 => ?_, ?_, hf⟩
  · show (if x = 62 then F else if x = 67 then a else if x = 68 then b else if x = 69 then c else hI g x) = _
    rw [if_neg h1, if_neg h2, if_neg h3, if_neg h4]
    exact d3 x h1 h2 h3 h4
  · show F j = _
    rw [hz.o.2 j h2 h3]
    exact d5 j h1 h2 h3
  · show F 4 = 0
    rw [hz.o.2 4 (by decide) (by decide)]
    exact d6
/-- the heap and the number so far -/
def DgS (h g : Hp) (s : Int64) : Prop := Box (DgR h g ∧ hJ g 62 26 = s)
theorem DgS.m {h g : Hp} {s : Int64} (d : DgS h g s) {x y : Int} (e : x = y) : DgS h (CWordSolverLaw_law_r6868_1636c8.rJ g 62 (up (hJ g 62) 26 (mx (hJ g 62 26) x))) (mx s y) := by
  subst e
  refine Box.i ⟨d.o.1.rJ _, ?_⟩
  show up (hJ g 62) 26 (mx (hJ g 62 26) x) 26 = _
  rw [up_self, d.o.2]
def DgQ (h : Hp) (m pc : Nat) (vs : List AV) (g : Hp) : Prop :=
  (pc = 24 ∧ ∃ n : Nat, vs = [.inr (.inr (some 62)), .inl (n : Int)] ∧ (n : Int) ≤ hI h 63 0 ∧ DgS h g (dN (hI h 63) (mx (Int64.ofNat 1862) (hI h 63 0)) n) ∧ m = 100000 + 100 * (40 - n)) ∨
  (pc = 36 ∧ ∃ n j : Nat, vs = [.inr (.inr (some 62)), .inl (n : Int), .inl (j : Int)] ∧ (n : Int) < hI h 63 0 ∧ j ≤ 9 ∧ DgS h g (fW (hI h 63) n (dN (hI h 63) (mx (Int64.ofNat 1862) (hI h 63 0)) n) j) ∧ m = 100000 + 100 * (40 - n) - 1 - j) ∨
  (pc = 80 ∧ ∃ v : Nat, vs = [.inr (.inr (some 62)), .inl (v : Int)] ∧ (v : Int) ≤ hI h 63 281 ∧ DgS h g (dI (hI h 63) (dg1 (hI h 63)) v) ∧ m = 50000 + (4 - v)) ∨
  (pc = 126 ∧ ∃ k : Nat, vs = [.inr (.inr (some 62)), .inl (k : Int)] ∧ (k : Int) ≤ hI h 63 290 ∧ DgS h g (dC (hI h 63) (dg2 (hI h 63)) k) ∧ m = 40000 + (20 - k)) ∨
  (pc = 198 ∧ ∃ k : Nat, vs = [.inr (.inr (some 62)), .inl (k : Int)] ∧ (k : Int) ≤ hI h 63 332 ∧ DgS h g (dW (hI h 63) (dg3 (hI h 63)) k) ∧ m = 30000 + (8 - k)) ∨
  (pc = 266 ∧ ∃ v : Nat, vs = [.inr (.inr (some 62)), .inl (nxt (hI h 63) 0), .inl (v : Int)] ∧ (v : Int) ≤ hI h 63 281 ∧ DgS h g (dM (hI h 63) (nxt (hI h 63) 0) (dg4 (hI h 63)) v) ∧ m = 20000 + (4 - v))
theorem look6 {a b c d e f : Nat} {l1 l2 l3 l4 l5 l6 : List Nat} {pc : Nat} {x : List Nat} (h : look [(a, l1), (b, l2), (c, l3), (d, l4), (e, l5), (f, l6)] pc = some x) : (pc = a ∧ x = l1) ∨ (pc = b ∧ x = l2) ∨ (pc = c ∧ x = l3) ∨ (pc = d ∧ x = l4) ∨ (pc = e ∧ x = l5) ∨ (pc = f ∧ x = l6) := by
  have := look_mem h
  simp only [List.mem_cons, List.not_mem_nil, or_false, Prod.mk.injEq] at this
  exact this
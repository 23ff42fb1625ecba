/-! ===== what steps make: nodes, one by one ===== -/
/-- a new node is as it may be -/
def NOk (w : Int → Int) (k wd a b c x y : Int) : Prop := Box ((0 ≤ k ∧ k ≤ 24 ∧ 1 ≤ wd ∧ wd ≤ 8) ∧ (-1 ≤ a ∧ a < w 0 ∧ -1 ≤ b ∧ b < w 0 ∧ -1 ≤ c ∧ c < w 0) ∧
  (k ≤ 1 → a = -1 ∧ b = -1 ∧ c = -1 ∧ y = -1) ∧ (k = 0 → 0 ≤ x ∧ x < p2 wd) ∧ k ≠ 1 ∧ (2 ≤ k → 0 ≤ a) ∧ ((2 ≤ k ∧ k ≤ 18) ∨ k = 24 → 0 ≤ b) ∧ (k = 24 → 0 ≤ c) ∧ (2 ≤ k → k ≠ 21 → x = -1 ∧ y = -1) ∧ (k ≠ 24 → c = -1) ∧ (19 ≤ k → k ≤ 23 → b = -1) ∧
  (2 ≤ k → k ≤ 12 → nd w a 1 = wd ∧ nd w b 1 = wd) ∧ (13 ≤ k → k ≤ 17 → wd = 1 ∧ nd w a 1 = nd w b 1) ∧ (k = 18 → wd = nd w a 1 + nd w b 1) ∧ (k = 19 ∨ k = 20 → nd w a 1 = wd) ∧ (k = 21 → 0 ≤ y ∧ y ≤ x ∧ x < nd w a 1 ∧ wd = x - y + 1) ∧ (k = 22 ∨ k = 23 → nd w a 1 < wd) ∧ (k = 24 → nd w a 1 = 1 ∧ nd w b 1 = wd ∧ nd w c 1 = wd))
theorem Nx.newN {w : Int → Int} (k wd a b c x y : Int) (h0 : 0 ≤ w 0) (hc : w 0 < 40) : Nx w (CWordSolverLaw_law_r6868_1636c8.newN w k wd a b c x y) := by
  refine Box.i ⟨?_, fun n j n0 n1 j0 j1 => newN_nd w k wd a b c x y n0 n1 j0 j1, ?_, fun v v0 v1 => ?_, fun j hj => ?_⟩
  · rw [newN_0]; omega
  · rw [newN_lo w k wd a b c x y (by decide) (by omega)]; exact Int.le_refl _
  · exact newN_lo w k wd a b c x y (by omega) (by omega)
  · exact newN_lo w k wd a b c x y (by omega) (by omega)
theorem WF.newN {w : Int → Int} {k wd a b c x y : Int} (hW : WF w) (hc : w 0 < 40) (h : NOk w k wd a b c x y) : WF (CWordSolverLaw_law_r6868_1636c8.newN w k wd a b c x y) := by
  have q := hW.nn
  have nx := Nx.newN (w := w) k wd a b c x y q.1 hc
  refine hW.ext nx (by rw [newN_0]; omega) (fun j hj => newN_lo w k wd a b c x y (by omega) (by omega)) fun n n0 n1 => ?_
  rw [newN_0] at n1
  have e : n = w 0 := by omega
  subst e
  obtain ⟨h1, ⟨o1, o2, o3, o4, o5, o6⟩, h2, h3, h4, h5⟩ := h.o
  obtain ⟨d0, d1, d2, d3, d4, d5, d6⟩ := newN_n w k wd a b c x y q.1
  unfold WFn
  rw [d0, d1, d2, d3, d4, d5, d6, nx.n1 o1 o2, nx.n1 o3 o4, nx.n1 o5 o6]
  exact Box.i ⟨h1, ⟨o1, o2, o3, o4, o5, o6⟩, h2, h3, fun z => absurd z h4, h5⟩
theorem found_lt {w : Int → Int} {k wd a b c x y : Int} (h : found w k wd a b c x y ≠ -1) : 0 ≤ found w k wd a b c x y ∧ found w k wd a b c x y < w 0 := by
  have := fst_some h
  unfold found at *
  omega
def mk1 (w : Int → Int) (k wd a b c x y : Int) : Int × (Int → Int) := if found w k wd a b c x y ≠ -1 then (found w k wd a b c x y, w) else if w 0 < 40 then (w 0, newN w k wd a b c x y) else (-1, w)
/-- what making a node leaves -/
def MkO (w : Int → Int) (r : Int × (Int → Int)) : Prop := Box (WF r.2 ∧ Nx w r.2 ∧ (∀ j, 281 ≤ j → r.2 j = w j) ∧ ((r.1 = -1 ∧ r.2 = w) ∨ (0 ≤ r.1 ∧ r.1 < r.2 0)))
theorem MkO.no {w : Int → Int} (hW : WF w) : MkO w (-1, w) := Box.i ⟨hW, Nx.rf w, fun _ _ => rfl, Or.inl ⟨rfl, rfl⟩⟩
theorem mk1_ok {w : Int → Int} {k wd a b c x y : Int} (hW : WF w) (h : NOk w k wd a b c x y) : MkO w (mk1 w k wd a b c x y) := by
  unfold mk1
  by_cases e : found w k wd a b c x y ≠ -1
  · rw [if_pos e]
    exact Box.i ⟨hW, Nx.rf w, fun _ _ => rfl, Or.inr (found_lt e)⟩
  · rw [if_neg e]
    by_cases z : w 0 < 40
    · rw [if_pos z]
      have q := hW.nn
      exact Box.i ⟨hW.newN z h, Nx.newN k wd a b c x y q.1 z, fun j hj => newN_lo w k wd a b c x y (by omega) (by omega), Or.inr ⟨q.1, by show w 0 < newN w k wd a b c x y 0; rw [newN_0]; omega⟩⟩
    · rw [if_neg z]
      exact MkO.no hW
/-- a step: kind, number, width; its operands -/
def mk2 (w : Int → Int) (k n x a b c : Int) : Int × (Int → Int) :=
  if k = 0 then (if 1 ≤ x ∧ x ≤ 8 ∧ 0 ≤ n ∧ n ≤ p2 x - 1 then mk1 w 0 x (-1) (-1) (-1) n (-1) else (-1, w))
  else if k = 1 then (if 0 ≤ n ∧ n < w 281 then (w (282 + n), w) else (-1, w))
  else if k ≤ 18 then (if (k = 18 ∧ nd w a 1 + nd w b 1 ≤ 8) ∨ (k ≠ 18 ∧ nd w a 1 = nd w b 1) then mk1 w k (bW w k a b) a b (-1) (-1) (-1) else (-1, w))
  else if k ≤ 20 then mk1 w k (nd w a 1) a (-1) (-1) (-1) (-1)
  else if k = 21 then (if 0 ≤ n % 10 ∧ n % 10 ≤ n / 10 ∧ n / 10 < nd w a 1 then mk1 w 21 (n / 10 - n % 10 + 1) a (-1) (-1) (n / 10) (n % 10) else (-1, w))
  else if k ≤ 23 then (if nd w a 1 < n ∧ n ≤ 8 then mk1 w k n a (-1) (-1) (-1) (-1) else (-1, w))
  else (if nd w a 1 = 1 ∧ nd w b 1 = nd w c 1 then mk1 w 24 (nd w b 1) a b c (-1) (-1) else (-1, w))
/-- operands that a step has -/
def OpsO (w : Int → Int) (k a b c : Int) : Prop := Box ((0 < opc k → 0 ≤ a ∧ a < w 0) ∧ (1 < opc k → 0 ≤ b ∧ b < w 0) ∧ (2 < opc k → 0 ≤ c ∧ c < w 0))
theorem mk2_ok {w : Int → Int} {k n x a b c : Int} (hW : WF w) (hk : TkO k n x) (ho : OpsO w k a b c) : MkO w (mk2 w k n x a b c) := by
  have oc : opc k = if k < 2 then 0 else if k ≤ 18 then 2 else if k = 24 then 3 else 1 := rfl
  have nn := hW.nn
  obtain ⟨o1, o2, o3⟩ := ho.o
  have kk : 0 ≤ k ∧ k ≤ 24 := by rcases hk.o with q | q | q <;> omega
  unfold mk2
  by_cases c0 : k = 0
  · rw [if_pos c0]
    by_cases z : 1 ≤ x ∧ x ≤ 8 ∧ 0 ≤ n ∧ n ≤ p2 x - 1
    · rw [if_pos z]
      exact mk1_ok hW (Box.i ⟨by omega, by omega, fun _ => by omega, fun _ => by omega, by omega, fun q => by omega, fun q => by omega, fun q => by omega, fun q => by omega, fun q => by omega, fun q => by omega, fun q => by omega, fun q => by omega, fun q => by omega, fun q => by omega, fun q => by omega, fun q => by omega, fun q => by omega⟩)
    · rw [if_neg z]; exact MkO.no hW
  rw [if_neg c0]
  by_cases c1 : k = 1
  · rw [if_pos c1]
    by_cases z : 0 ≤ n ∧ n < w 281
    · rw [if_pos z]
      have := hW.var z.1 z.2
      exact Box.i ⟨hW, Nx.rf w, fun _ _ => rfl, Or.inr ⟨this.1, this.2.1⟩⟩
    · rw [if_neg z]; exact MkO.no hW
  rw [if_neg c1]
  rw [if_neg (by omega)] at oc
  by_cases c2 : k ≤ 18
  · rw [if_pos c2] at oc ⊢
    have p1 := o1 (by omega)
    have p2 := o2 (by omega)
    have wa := hW.wd p1.1 p1.2
    have wb := hW.wd p2.1 p2.2
    by_cases z : (k = 18 ∧ nd w a 1 + nd w b 1 ≤ 8) ∨ (k ≠ 18 ∧ nd w a 1 = nd w b 1)
    · rw [if_pos z]
      have bw : bW w k a b = if k = 18 then nd w a 1 + nd w b 1 else if 13 ≤ k then 1 else nd w a 1 := rfl
      have hb : (k = 18 ∧ bW w k a b = nd w a 1 + nd w b 1) ∨ (13 ≤ k ∧ k ≠ 18 ∧ bW w k a b = 1) ∨ (k < 13 ∧ bW w k a b = nd w a 1) := by
        rw [bw]
        split
        · omega
        · split <;> omega
      exact mk1_ok hW (Box.i ⟨by omega, by omega, fun q => by omega, fun q => by omega, by omega, fun q => by omega, fun q => by omega, fun q => by omega, fun q => by omega, fun q => by omega, fun q => by omega, fun q => by omega, fun q => by omega, fun q => by omega, fun q => by omega, fun q => by omega, fun q => by omega, fun q => by omega⟩)
    · rw [if_neg z]; exact MkO.no hW
  rw [if_neg c2] at oc ⊢
  have p1 := o1 (by split at oc <;> omega)
  have wa := hW.wd p1.1 p1.2
  by_cases c3 : k ≤ 20
  · rw [if_pos c3]
    exact mk1_ok hW (Box.i ⟨by omega, by omega, fun q => by omega, fun q => by omega, by omega, fun q => by omega, fun q => by omega, fun q => by omega, fun q => by omega, fun q => by omega, fun q => by omega, fun q => by omega, fun q => by omega, fun q => by omega, fun q => by omega, fun q => by omega, fun q => by omega, fun q => by omega⟩)
  rw [if_neg c3]
  by_cases c4 : k = 21
  · rw [if_pos c4]
    by_cases z : 0 ≤ n % 10 ∧ n % 10 ≤ n / 10 ∧ n / 10 < nd w a 1
    · rw [if_pos z]
      exact mk1_ok hW (Box.i ⟨by omega, by omega, fun q => by omega, fun q => by omega, by omega, fun q => by omega, fun q => by omega, fun q => by omega, fun q => by omega, fun q => by omega, fun q => by omega, fun q => by omega, fun q => by omega, fun q => by omega, fun q => by omega, fun q => by omega, fun q => by omega, fun q => by omega⟩)
    · rw [if_neg z]; exact MkO.no hW
  rw [if_neg c4]
  by_cases c5 : k ≤ 23
  · rw [if_pos c5]
    by_cases z : nd w a 1 < n ∧ n ≤ 8
    · rw [if_pos z]
      exact mk1_ok hW (Box.i ⟨by omega, by omega, fun q => by omega, fun q => by omega, by omega, fun q => by omega, fun q => by omega, fun q => by omega, fun q => by omega, fun q => by omega, fun q => by omega, fun q => by omega, fun q => by omega, fun q => by omega, fun q => by omega, fun q => by omega, fun q => by omega, fun q => by omega⟩)
    · rw [if_neg z]; exact MkO.no hW
  rw [if_neg c5]
  have c6 : k = 24 := by omega
  rw [if_pos c6] at oc
  have p2 := o2 (by omega)
  have p3 := o3 (by omega)
  have wb := hW.wd p2.1 p2.2
  by_cases z : nd w a 1 = 1 ∧ nd w b 1 = nd w c 1
  · rw [if_pos z]
    exact mk1_ok hW (Box.i ⟨by omega, by omega, fun q => by omega, fun q => by omega, by omega, fun q => by omega, fun q => by omega, fun q => by omega, fun q => by omega, fun q => by omega, fun q => by omega, fun q => by omega, fun q => by omega, fun q => by omega, fun q => by omega, fun q => by omega, fun q => by omega, fun q => by omega⟩)
  · rw [if_neg z]; exact MkO.no hW
/-! rows that differ behind the last node alone -/
def Eq7 (w u : Int → Int) : Prop := Box (Nx w u ∧ u 0 = w 0 ∧ ∀ j, 281 ≤ j → u j = w j)
theorem Eq7.rf (w : Int → Int) : Eq7 w w := Box.i ⟨Nx.rf w, rfl, fun _ _ => rfl⟩
theorem Eq7.tr {w u x : Int → Int} (a : Eq7 w u) (b : Eq7 u x) : Eq7 w x := Box.i ⟨a.o.1.tr b.o.1, b.o.2.1.trans a.o.2.1, fun j h => (b.o.2.2 j h).trans (a.o.2.2 j h)⟩
theorem found_eq7 {w u : Int → Int} (h : Eq7 w u) (k wd a b c x y : Int) : found u k wd a b c x y = found w k wd a b c x y := by
  obtain ⟨h1, h2, h3⟩ := h.o
  unfold found
  rw [h2]
  refine fst_congr fun j j0 j1 => ?_
  have n := fun i => h1.n (n := j) (j := i) j0 (by omega)
  unfold same
  rw [n 0 (by decide) (by decide), n 1 (by decide) (by decide), n 2 (by decide) (by decide), n 3 (by decide) (by decide), n 4 (by decide) (by decide), n 5 (by decide) (by decide), n 6 (by decide) (by decide)]
theorem newN_eq7 {w u : Int → Int} (h : Eq7 w u) (h0 : 0 ≤ w 0) (hc : w 0 < 40) (k wd a b c x y : Int) : Eq7 (newN w k wd a b c x y) (newN u k wd a b c x y) := by
  obtain ⟨h1, h2, h3⟩ := h.o
  have lw : ∀ j, j ≠ 0 → (j < 1 + 7 * w 0 ∨ 8 + 7 * w 0 ≤ j) → newN w k wd a b c x y j = w j := fun j a0 a1 => newN_lo w k wd a b c x y a0 a1
  have lu : ∀ j, j ≠ 0 → (j < 1 + 7 * w 0 ∨ 8 + 7 * w 0 ≤ j) → newN u k wd a b c x y j = u j := fun j a0 a1 => newN_lo u k wd a b c x y a0 (by rw [h2]; exact a1)
  obtain ⟨d0, d1, d2, d3, d4, d5, d6⟩ := newN_n w k wd a b c x y h0
  obtain ⟨e0, e1, e2, e3, e4, e5, e6⟩ := newN_n u k wd a b c x y (by omega)
  rw [h2] at e0 e1 e2 e3 e4 e5 e6
  refine Box.i ⟨Box.i ⟨by rw [newN_0, newN_0, h2]; exact Int.le_refl _, fun n j n0 n1 j0 j1 => ?_, by rw [lw 281 (by decide) (by omega), lu 281 (by decide) (by omega), h3 281 (by decide)]; exact Int.le_refl _, fun v v0 v1 => by rw [lw _ (by omega) (by omega), lu _ (by omega) (by omega), h3 _ (by omega)], fun j hj => by rw [lw _ (by omega) (by omega), lu _ (by omega) (by omega), h1.o.2.2.2.2 j hj]⟩, by rw [newN_0, newN_0, h2], fun j hj => by rw [lw _ (by omega) (by omega), lu _ (by omega) (by omega), h3 j hj]⟩
  rw [newN_0] at n1
  by_cases z : n < w 0
  · rw [newN_nd w k wd a b c x y n0 z j0 j1, newN_nd u k wd a b c x y n0 (by omega) j0 j1, h1.n n0 z j0 j1]
  · have e : n = w 0 := by omega
    subst e
    have : j = 0 ∨ j = 1 ∨ j = 2 ∨ j = 3 ∨ j = 4 ∨ j = 5 ∨ j = 6 := by omega
    rcases this with rfl | rfl | rfl | rfl | rfl | rfl | rfl
    · rw [d0, e0]
    · rw [d1, e1]
    · rw [d2, e2]
    · rw [d3, e3]
    · rw [d4, e4]
    · rw [d5, e5]
    · rw [d6, e6]
/-- the same node, rows alike -/
def Sm2 (r s : Int × (Int → Int)) : Prop := Box (s.1 = r.1 ∧ Eq7 r.2 s.2)
theorem Sm2.no {w u : Int → Int} (h : Eq7 w u) (x : Int) : Sm2 (x, w) (x, u) := Box.i ⟨rfl, h⟩
theorem mk1_eq7 {w u : Int → Int} (h : Eq7 w u) (h0 : 0 ≤ w 0) (k wd a b c x y : Int) : Sm2 (mk1 w k wd a b c x y) (mk1 u k wd a b c x y) := by
  unfold mk1
  rw [found_eq7 h, h.o.2.1]
  by_cases e : found w k wd a b c x y ≠ -1
  · rw [if_pos e, if_pos e]; exact Sm2.no h _
  · rw [if_neg e, if_neg e]
    by_cases z : w 0 < 40
    · rw [if_pos z, if_pos z]
      exact Box.i ⟨rfl, newN_eq7 h h0 z k wd a b c x y⟩
    · rw [if_neg z, if_neg z]; exact Sm2.no h _
theorem mk2_eq7 {w u : Int → Int} {k n x a b c : Int} (h : Eq7 w u) (hW : WF w) (hk : TkO k n x) (ho : OpsO w k a b c) : Sm2 (mk2 w k n x a b c) (mk2 u k n x a b c) := by
  have oc : opc k = if k < 2 then 0 else if k ≤ 18 then 2 else if k = 24 then 3 else 1 := rfl
  have nn := hW.nn
  obtain ⟨h1, h2, h3⟩ := h.o
  obtain ⟨o1, o2, o3⟩ := ho.o
  have kk : 0 ≤ k ∧ k ≤ 24 := by rcases hk.o with q | q | q <;> omega
  unfold mk2
  by_cases c0 : k = 0
  · rw [if_pos c0, if_pos c0]
    by_cases z : 1 ≤ x ∧ x ≤ 8 ∧ 0 ≤ n ∧ n ≤ p2 x - 1
    · rw [if_pos z, if_pos z]; exact mk1_eq7 h nn.1 _ _ _ _ _ _ _
    · rw [if_neg z, if_neg z]; exact Sm2.no h _
  rw [if_neg c0, if_neg c0]
  by_cases c1 : k = 1
  · rw [if_pos c1, if_pos c1, h3 281 (by decide)]
    by_cases z : 0 ≤ n ∧ n < w 281
    · rw [if_pos z, if_pos z, h3 (282 + n) (by omega)]; exact Sm2.no h _
    · rw [if_neg z, if_neg z]; exact Sm2.no h _
  rw [if_neg c1, if_neg c1]
  rw [if_neg (by omega)] at oc
  by_cases c2 : k ≤ 18
  · rw [if_pos c2] at oc
    rw [if_pos c2, if_pos c2]
    have p1 := o1 (by omega)
    have p2 := o2 (by omega)
    have ea := h1.n p1.1 p1.2 (j := 1) (by decide) (by decide)
    have eb := h1.n p2.1 p2.2 (j := 1) (by decide) (by decide)
    have bw : bW u k a b = bW w k a b := by unfold bW; rw [ea, eb]
    rw [ea, eb, bw]
    by_cases z : (k = 18 ∧ nd w a 1 + nd w b 1 ≤ 8) ∨ (k ≠ 18 ∧ nd w a 1 = nd w b 1)
    · rw [if_pos z, if_pos z]; exact mk1_eq7 h nn.1 _ _ _ _ _ _ _
    · rw [if_neg z, if_neg z]; exact Sm2.no h _
  rw [if_neg c2] at oc
  rw [if_neg c2, if_neg c2]
  have p1 := o1 (by split at oc <;> omega)
  have ea := h1.n p1.1 p1.2 (j := 1) (by decide) (by decide)
  rw [ea]
  by_cases c3 : k ≤ 20
  · rw [if_pos c3, if_pos c3]; exact mk1_eq7 h nn.1 _ _ _ _ _ _ _
  rw [if_neg c3, if_neg c3]
  by_cases c4 : k = 21
  · rw [if_pos c4, if_pos c4]
    by_cases z : 0 ≤ n % 10 ∧ n % 10 ≤ n / 10 ∧ n / 10 < nd w a 1
    · rw [if_pos z, if_pos z]; exact mk1_eq7 h nn.1 _ _ _ _ _ _ _
    · rw [if_neg z, if_neg z]; exact Sm2.no h _
  rw [if_neg c4, if_neg c4]
  by_cases c5 : k ≤ 23
  · rw [if_pos c5, if_pos c5]
    by_cases z : nd w a 1 < n ∧ n ≤ 8
    · rw [if_pos z, if_pos z]; exact mk1_eq7 h nn.1 _ _ _ _ _ _ _
    · rw [if_neg z, if_neg z]; exact Sm2.no h _
  rw [if_neg c5, if_neg c5]
  have c6 : k = 24 := by omega
  rw [if_pos c6] at oc
  have p2 := o2 (by omega)
  have p3 := o3 (by omega)
  rw [h1.n p2.1 p2.2 (j := 1) (by decide) (by decide), h1.n p3.1 p3.2 (j := 1) (by decide) (by decide)]
  by_cases z : nd w a 1 = 1 ∧ nd w b 1 = nd w c 1
  · rw [if_pos z, if_pos z]; exact mk1_eq7 h nn.1 _ _ _ _ _ _ _
  · rw [if_neg z, if_neg z]; exact Sm2.no h _
/-! all steps -/
/-- the row and the stack after the first steps -/
def bsS (K N X w : Int → Int) : Nat → (Int → Int) × (Int → Int)
  | 0 => (w, fun _ => 0)
  | t + 1 => ((mk2 (bsS K N X w t).1 (K t) (N t) (X t) ((bsS K N X w t).2 (szF K t - opc (K t))) ((bsS K N X w t).2 (szF K t - opc (K t) + 1)) ((bsS K N X w t).2 (szF K t - opc (K t) + 2))).2,
      CWordSolverLaw_law_r6868_1636c8.up (bsS K N X w t).2 (szF K t - opc (K t)) (mk2 (bsS K N X w t).1 (K t) (N t) (X t) ((bsS K N X w t).2 (szF K t - opc (K t))) ((bsS K N X w t).2 (szF K t - opc (K t) + 1)) ((bsS K N X w t).2 (szF K t - opc (K t) + 2))).1)
/-- what a step gives -/
def bsR (K N X w : Int → Int) (t : Nat) : Int × (Int → Int) := mk2 (bsS K N X w t).1 (K t) (N t) (X t) ((bsS K N X w t).2 (szF K t - opc (K t))) ((bsS K N X w t).2 (szF K t - opc (K t) + 1)) ((bsS K N X w t).2 (szF K t - opc (K t) + 2))
theorem bsS_s (K N X w : Int → Int) (t : Nat) : bsS K N X w (t + 1) = ((bsR K N X w t).2, up (bsS K N X w t).2 (szF K t - opc (K t)) (bsR K N X w t).1) := rfl
/-- the first t steps are made -/
def bsM (K N X w : Int → Int) (t : Nat) : Prop := Box (∀ s : Nat, s < t → (bsR K N X w s).1 ≠ -1)
/-- steps that can be made, if there is room and widths fit -/
def StP (K N X : Int → Int) (m : Int) : Prop := Box (0 ≤ m ∧ m ≤ 60 ∧ (∀ t, 0 ≤ t → t < m → TkO (K t) (N t) (X t) ∧ opc (K t) ≤ szF K t.toNat) ∧ szF K m.toNat = 1)
theorem szF_n (K : Int → Int) (t : Nat) : szF K (t + 1) = szF K t - opc (K t) + 1 := rfl
theorem szF_le (K : Int → Int) : ∀ t : Nat, szF K t ≤ t := by
  intro t
  induction t with
  | zero => exact Int.le_refl _
  | succ t ih =>
    have := opc_rng (K t)
    rw [szF_n]
    omega
theorem StP.sz {K N X : Int → Int} {m : Int} (h : StP K N X m) : ∀ t : Nat, (t : Int) ≤ m → 0 ≤ szF K t := by
  intro t
  induction t with
  | zero => intro _; exact Int.le_refl _
  | succ t ih =>
    intro ht
    have := (h.o.2.2.1 t (by omega) (by omega)).2
    rw [show ((t : Int)).toNat = t by omega] at this
    rw [szF_n]
    omega
/-- what holds after t steps -/
def bsI (w : Int → Int) (s : (Int → Int) × (Int → Int)) (z : Int) : Prop := Box (WF s.1 ∧ Nx w s.1 ∧ (∀ j, 281 ≤ j → s.1 j = w j) ∧ ∀ i, 0 ≤ i → i < z → 0 ≤ s.2 i ∧ s.2 i < s.1 0)
theorem bsI.ops {K N X w : Int → Int} {m : Int} (h : StP K N X m) {t : Nat} (ht : (t : Int) < m) {s : (Int → Int) × (Int → Int)} (hi : bsI w s (szF K t)) : TkO (K t) (N t) (X t) ∧ OpsO s.1 (K t) (s.2 (szF K t - opc (K t))) (s.2 (szF K t - opc (K t) + 1)) (s.2 (szF K t - opc (K t) + 2)) := by
  have q := h.o.2.2.1 t (by omega) ht
  rw [show ((t : Int)).toNat = t by omega] at q
  have oc := opc_rng (K t)
  have g := hi.o.2.2.2
  exact ⟨q.1, Box.i ⟨fun z => g _ (by omega) (by omega), fun z => g _ (by omega) (by omega), fun z => g _ (by omega) (by omega)⟩⟩
theorem bsI.st {K N X w : Int → Int} {m : Int} (h : StP K N X m) {t : Nat} (ht : (t : Int) < m) (hi : bsI w (bsS K N X w t) (szF K t)) (hr : (bsR K N X w t).1 ≠ -1) : bsI w (bsS K N X w (t + 1)) (szF K (t + 1)) := by
  have o := bsI.ops h ht hi
  obtain ⟨i1, i2, i3, i4⟩ := hi.o
  obtain ⟨m1, m2, m3, m4⟩ := (mk2_ok i1 o.1 o.2).o
  have l := m2.o.1
  rw [bsS_s, szF_n]
  refine Box.i ⟨m1, i2.tr m2, fun j hj => (m3 j hj).trans (i3 j hj), fun i i0 i1' => ?_⟩
  show 0 ≤ up (bsS K N X w t).2 (szF K t - opc (K t)) (bsR K N X w t).1 i ∧ up (bsS K N X w t).2 (szF K t - opc (K t)) (bsR K N X w t).1 i < (bsR K N X w t).2 0
  by_cases e : i = szF K t - opc (K t)
  · subst e
    rw [up_self]
    rcases m4 with q | q
    · exact absurd q.1 hr
    · exact q
  · rw [up_ne e]
    have oc := opc_rng (K t)
    have := i4 i i0 (by omega)
    have l : (bsS K N X w t).1 0 ≤ (bsR K N X w t).2 0 := l
    exact ⟨this.1, by omega⟩
theorem bsI.all {K N X w : Int → Int} {m : Int} (hW : WF w) (h : StP K N X m) : ∀ t : Nat, (t : Int) ≤ m → bsM K N X w t → bsI w (bsS K N X w t) (szF K t) := by
  intro t
  induction t with
  | zero => intro _ _; exact Box.i ⟨hW, Nx.rf w, fun _ _ => rfl, fun i i0 i1 => by have : szF K 0 = 0 := rfl; omega⟩
  | succ t ih =>
    intro ht hm
    exact (ih (by omega) (Box.i fun s q => hm.o s (by omega))).st h (by omega) (hm.o t (by omega))
/-- rows alike give rows alike -/
def bsE (s u : (Int → Int) × (Int → Int)) (z : Int) : Prop := Box (Eq7 s.1 u.1 ∧ ∀ i, 0 ≤ i → i < z → u.2 i = s.2 i)
theorem OpsO.e {w u : Int → Int} {k a b c : Int} (h : OpsO w k a b c) (e : u 0 = w 0) : OpsO u k a b c := by
  obtain ⟨h1, h2, h3⟩ := h.o
  unfold OpsO
  rw [e]
  exact Box.i ⟨h1, h2, h3⟩
/-- operands that a step has not are not looked at -/
theorem mk2_op {w : Int → Int} {k n x a b c a' b' c' : Int} (ha : 0 < opc k → a' = a) (hb : 1 < opc k → b' = b) (hc : 2 < opc k → c' = c) (hk : 0 ≤ k ∧ k ≤ 24) : mk2 w k n x a' b' c' = mk2 w k n x a b c := by
  have oc : opc k = if k < 2 then 0 else if k ≤ 18 then 2 else if k = 24 then 3 else 1 := rfl
  unfold mk2
  by_cases c0 : k = 0
  · rw [if_pos c0, if_pos c0]
  rw [if_neg c0, if_neg c0]
  by_cases c1 : k = 1
  · rw [if_pos c1, if_pos c1]
  rw [if_neg c1, if_neg c1]
  rw [if_neg (by omega)] at oc
  by_cases c2 : k ≤ 18
  · rw [if_pos c2] at oc
    rw [ha (by omega), hb (by omega), if_pos c2, if_pos c2]
  rw [if_neg c2] at oc
  rw [ha (by split at oc <;> omega), if_neg c2, if_neg c2]
  by_cases c3 : k ≤ 20
  · rw [if_pos c3, if_pos c3]
  rw [if_neg c3, if_neg c3]
  by_cases c4 : k = 21
  · rw [if_pos c4, if_pos c4]
  rw [if_neg c4, if_neg c4]
  by_cases c5 : k ≤ 23
  · rw [if_pos c5, if_pos c5]
  rw [if_pos (show k = 24 by omega)] at oc
  rw [hb (by omega), hc (by omega)]
theorem bs_eq {K N X w u : Int → Int} {m : Int} (hW : WF w) (h : StP K N X m) (e : Eq7 w u) : ∀ t : Nat, (t : Int) ≤ m → bsM K N X w t → bsE (bsS K N X w t) (bsS K N X u t) (szF K t) ∧ ((t : Int) < m → Sm2 (bsR K N X w t) (bsR K N X u t)) := by
  have st : ∀ t : Nat, (t : Int) < m → bsM K N X w t → bsE (bsS K N X w t) (bsS K N X u t) (szF K t) → Sm2 (bsR K N X w t) (bsR K N X u t) := fun t ht hm he => by
    have i := bsI.all hW h t (by omega) hm
    have o := bsI.ops h ht i
    have kk : 0 ≤ K t ∧ K t ≤ 24 := by rcases o.1.o with q | q | q <;> omega
    have oc := opc_rng (K t)
    have q := h.o.2.2.1 t (by omega) ht
    rw [show ((t : Int)).toNat = t by omega] at q
    unfold bsR
    rw [mk2_op (w := (bsS K N X u t).1) (fun z => he.o.2 _ (by omega) (by omega)) (fun z => he.o.2 _ (by omega) (by omega)) (fun z => he.o.2 _ (by omega) (by omega)) kk]
    exact mk2_eq7 he.o.1 i.o.1 o.1 o.2
  intro t
  induction t with
  | zero =>
    intro ht hm
    have b : bsE (bsS K N X w 0) (bsS K N X u 0) (szF K 0) := Box.i ⟨e, fun _ _ _ => rfl⟩
    exact ⟨b, fun q => st 0 q hm b⟩
  | succ t ih =>
    intro ht hm
    have hm' : bsM K N X w t := Box.i fun s q => hm.o s (by omega)
    obtain ⟨b, r⟩ := ih (by omega) hm'
    have r := r (by omega)
    have b2 : bsE (bsS K N X w (t + 1)) (bsS K N X u (t + 1)) (szF K (t + 1)) := by
      rw [bsS_s, bsS_s, szF_n]
      refine Box.i ⟨r.o.2, fun i i0 i1 => ?_⟩
      show up (bsS K N X u t).2 _ (bsR K N X u t).1 i = up (bsS K N X w t).2 _ (bsR K N X w t).1 i
      rw [r.o.1]
      by_cases q : i = szF K t - opc (K t)
      · rw [q, up_self, up_self]
      · have oc := opc_rng (K t)
        rw [up_ne q, up_ne q]
        exact b.o.2 i i0 (by omega)
    exact ⟨b2, fun q => st (t + 1) q hm b2⟩

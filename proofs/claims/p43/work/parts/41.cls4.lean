/-! ===== the class: nodes made ===== -/
/-- what making a node gives: found, no room, new -/
def gkR (h : Hp) (w : Int → Int) (k wd a b c x y : Int) (Rt : Option AV → Hp → Prop) : Prop :=
  (found w k wd a b c x y ≠ -1 → ∀ f, GR (hI h 1) f (hI h 3) (hI h 4) w → Rt (some (.inl (found w k wd a b c x y))) (rI h 2 f)) ∧
  (found w k wd a b c x y = -1 → w 0 = 40 → ∀ f, GR (hI h 1) f (hI h 3) (hI h 4) w → Rt (some (.inl (-1))) (rI h 2 f)) ∧
  (found w k wd a b c x y = -1 → w 0 < 40 → ∀ f, GR (up (hI h 1) 3 (w 0 + 1)) f (hI h 3) (hI h 4) (newN w k wd a b c x y) → Rt (some (.inl (w 0))) (rI (rI h 2 f) 1 (up (hI h 1) 3 (w 0 + 1))))
/-- the draft of a node in the class's row -/
def Drf (f : Int → Int) (n k wd a b c x y : Int) : Prop := Box (f (n * 8 + 0) = k ∧ f (n * 8 + 1) = wd ∧ f (n * 8 + 2) = a ∧ f (n * 8 + 3) = b ∧ f (n * 8 + 4) = c ∧ (k = 21 → f (n * 8 + 5) = -1 ∧ f (n * 8 + 6) = x ∧ f (n * 8 + 7) = y) ∧ (k ≠ 21 → f (n * 8 + 5) = x ∧ f (n * 8 + 6) = -1 ∧ f (n * 8 + 7) = -1 ∧ y = -1))
theorem GR.off {f1 f2 f3 f4 g w : Int → Int} (G : GR f1 f2 f3 f4 w) (o : Off8 f2 g (w 0)) : GR f1 g f3 f4 w := by
  obtain ⟨h1, h2, h3, h4⟩ := G.o
  refine Box.i ⟨h1, h2, fun n a b => ?_, h4⟩
  have e : ∀ j, 0 ≤ j → j < 8 → g (n * 8 + j) = f2 (n * 8 + j) := fun j c d => o.o _ (by omega)
  rw [e 0 (by omega) (by omega), e 1 (by omega) (by omega), e 2 (by omega) (by omega), e 3 (by omega) (by omega), e 4 (by omega) (by omega), e 5 (by omega) (by omega), e 6 (by omega) (by omega), e 7 (by omega) (by omega)]
  exact h3 n a b
theorem GR.fnd {f1 f2 f3 f4 w : Int → Int} {k wd a b c x y : Int} (G : GR f1 f2 f3 f4 w) (hW : WF w) (d : Drf f2 (w 0) k wd a b c x y) : fst (rowE f2 (w 0)) (w 0).toNat = found w k wd a b c x y := by
  obtain ⟨d0, d1, d2, d3, d4, d5, d6⟩ := d.o
  refine fst_congr fun n n0 n1 => ?_
  obtain ⟨q0, q1, q2, q3, q4, q5, q6⟩ := G.o.2.2.1 n n0 (by omega)
  obtain ⟨-, -, p1, -, -, -, -, -, p7, -⟩ := (hW.node n0 (by omega)).o
  unfold rowE same
  rw [d0, d1, d2, d3, d4, q0, q1, q2, q3, q4]
  by_cases z : k = 21
  · obtain ⟨z1, z2, z3⟩ := d5 z
    rw [z1, z2, z3]
    by_cases y : nd w n 0 = 21
    · obtain ⟨y1, y2, y3⟩ := q5 y
      rw [y1, y2, y3]
      simp
    · have : nd w n 0 ≠ k := by omega
      simp [this]
  · obtain ⟨z1, z2, z3, z4⟩ := d6 z
    rw [z1, z2, z3, z4]
    by_cases y : nd w n 0 = 21
    · have : nd w n 0 ≠ k := by omega
      simp [this]
    · obtain ⟨y1, y2, y3⟩ := q6 y
      rw [y1, y2, y3]
      have e : nd w n 6 = -1 := by
        by_cases l : nd w n 0 ≤ 1
        · exact (p1 l).2.2.2
        · exact (p7 (by omega) y).2
      simp [e]
theorem newN_lo (w : Int → Int) (k wd a b c x y : Int) {j : Int} (h0 : j ≠ 0) (h : j < 1 + 7 * w 0 ∨ 8 + 7 * w 0 ≤ j) : newN w k wd a b c x y j = w j := by
  unfold newN
  rw [if_neg h0, if_neg (by omega), if_neg (by omega), if_neg (by omega), if_neg (by omega), if_neg (by omega), if_neg (by omega), if_neg (by omega)]
theorem newN_0 (w : Int → Int) (k wd a b c x y : Int) : newN w k wd a b c x y 0 = w 0 + 1 := by
  unfold newN
  rw [if_pos rfl]
theorem newN_nd (w : Int → Int) (k wd a b c x y : Int) {n j : Int} (h0 : 0 ≤ n) (h1 : n < w 0) (j0 : 0 ≤ j) (j1 : j < 7) : nd (newN w k wd a b c x y) n j = nd w n j := newN_lo _ _ _ _ _ _ _ _ (by omega) (by omega)
theorem newN_n (w : Int → Int) (k wd a b c x y : Int) (hw : 0 ≤ w 0) : nd (newN w k wd a b c x y) (w 0) 0 = k ∧ nd (newN w k wd a b c x y) (w 0) 1 = wd ∧ nd (newN w k wd a b c x y) (w 0) 2 = a ∧ nd (newN w k wd a b c x y) (w 0) 3 = b ∧ nd (newN w k wd a b c x y) (w 0) 4 = c ∧ nd (newN w k wd a b c x y) (w 0) 5 = x ∧ nd (newN w k wd a b c x y) (w 0) 6 = y := by
  unfold nd newN
  refine ⟨?_, ?_, ?_, ?_, ?_, ?_, ?_⟩
  · rw [if_neg (by omega), if_pos (by omega)]
  · rw [if_neg (by omega), if_neg (by omega), if_pos rfl]
  · rw [if_neg (by omega), if_neg (by omega), if_neg (by omega), if_pos rfl]
  · rw [if_neg (by omega), if_neg (by omega), if_neg (by omega), if_neg (by omega), if_pos rfl]
  · rw [if_neg (by omega), if_neg (by omega), if_neg (by omega), if_neg (by omega), if_neg (by omega), if_pos rfl]
  · rw [if_neg (by omega), if_neg (by omega), if_neg (by omega), if_neg (by omega), if_neg (by omega), if_neg (by omega), if_pos rfl]
  · rw [if_neg (by omega), if_neg (by omega), if_neg (by omega), if_neg (by omega), if_neg (by omega), if_neg (by omega), if_neg (by omega), if_pos rfl]
theorem sumW_cg {w u : Int → Int} : ∀ k : Nat, (∀ v, 0 ≤ v → v < (k : Int) → u (282 + v) = w (282 + v) ∧ nd u (w (282 + v)) 1 = nd w (w (282 + v)) 1) → sumW u k = sumW w k := by
  intro k
  induction k with
  | zero => intro _; rfl
  | succ k ih =>
    intro h
    rw [sumW_succ, sumW_succ, ih fun v a b => h v a (by omega), (h k (by omega) (by omega)).1, (h k (by omega) (by omega)).2]
theorem GR.new {f1 f2 f3 f4 w : Int → Int} {k wd a b c x y : Int} (G : GR f1 f2 f3 f4 w) (hW : WF w) (hc : w 0 < 40) (d : Drf f2 (w 0) k wd a b c x y) : GR (up f1 3 (w 0 + 1)) f2 f3 f4 (newN w k wd a b c x y) := by
  have n0 := hW.nn
  have v0 := hW.vn
  obtain ⟨h1, h2, h3, h4⟩ := G.o
  obtain ⟨m0, m1, m2, m3, m4, m5, m6⟩ := newN_n w k wd a b c x y n0.1
  have e281 : newN w k wd a b c x y 281 = w 281 := newN_lo _ _ _ _ _ _ _ _ (by omega) (by omega)
  refine Box.i ⟨by rw [up_self, newN_0], by rw [up_ne (by decide), e281, h2], fun n z0 z1 => ?_, fun v z0 z1 => ?_⟩
  · rw [newN_0] at z1
    by_cases e : n = w 0
    · subst e
      rw [m0, m1, m2, m3, m4, m5, m6]
      obtain ⟨d0, d1, d2, d3, d4, d5, d6⟩ := d.o
      exact ⟨d0, d1, d2, d3, d4, d5, fun z => ⟨(d6 z).1, (d6 z).2.1, (d6 z).2.2.1⟩⟩
    · have q : ∀ j, 0 ≤ j → j < 7 → nd (newN w k wd a b c x y) n j = nd w n j := fun j c d => newN_nd _ _ _ _ _ _ _ _ z0 (by omega) c d
      rw [q 0 (by omega) (by omega), q 1 (by omega) (by omega), q 2 (by omega) (by omega), q 3 (by omega) (by omega), q 4 (by omega) (by omega), q 5 (by omega) (by omega), q 6 (by omega) (by omega)]
      exact h3 n z0 (by omega)
  · rw [e281] at z1
    have q : ∀ u, 0 ≤ u → u < w 281 → newN w k wd a b c x y (282 + u) = w (282 + u) := fun u _ _ => newN_lo _ _ _ _ _ _ _ _ (by omega) (by omega)
    refine ⟨by rw [q v z0 z1]; exact (h4 v z0 z1).1, ?_⟩
    rw [(h4 v z0 z1).2]
    refine (sumW_cg _ fun u u0 u1 => ⟨q u u0 (by omega), ?_⟩).symm
    have r := hW.var u0 (show u < w 281 by omega)
    exact newN_nd _ _ _ _ _ _ _ _ r.1 r.2.1 (by omega) (by omega)
/-- from a draft to what making a node gives -/
theorem mk_leaf {h : Hp} {w f : Int → Int} {k wd a b c x y : Int} {Rt : Option AV → Hp → Prop} (hG : GH h w) (hW : WF w) (o : Off8 (hI h 2) f (w 0)) (d : Drf f (w 0) k wd a b c x y) (hs : gkR h w k wd a b c x y Rt) :
    (0 ≤ hI h 1 3 ∧ hI h 1 3 ≤ 40) ∧ (dfnd (rI h 2 f) ≠ -1 → Rt (some (.inl (dfnd (rI h 2 f)))) (rI h 2 f)) ∧ (dfnd (rI h 2 f) = -1 → hI h 1 3 = 40 → Rt (some (.inl (-1))) (rI h 2 f)) ∧ (dfnd (rI h 2 f) = -1 → hI h 1 3 < 40 → Rt (some (.inl (hI h 1 3))) (rI (rI h 2 f) 1 (up (hI h 1) 3 (hI h 1 3 + 1)))) := by
  have n0 := hW.nn
  have G2 : GR (hI h 1) f (hI h 3) (hI h 4) w := GR.off hG o
  have e : dfnd (rI h 2 f) = found w k wd a b c x y := by
    have := G2.fnd hW d
    rw [← this]
    unfold dfnd
    show fst (rowE f (hI h 1 3)) (hI h 1 3).toNat = _
    rw [hG.n]
  rw [e, hG.n]
  obtain ⟨h1, h2, h3⟩ := hs
  exact ⟨n0, fun z => h1 z f G2, fun z1 z2 => h2 z1 z2 f G2, fun z1 z2 => h3 z1 z2 f (G2.new hW z2 d)⟩

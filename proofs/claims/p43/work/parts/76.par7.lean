/-! ===== the reader's invariant is kept ===== -/
theorem PI.ad {r : Rw} {k n x : Int} (h : PI r) (hw : wtS r) (hn : ¬ whS r) (hk : TkO k n x) (k2 : k < 2) : PI (adS r k n x) := by
  obtain ⟨s0, o0, h3, h4, h5, h6⟩ := h.o
  have e := (opc_rng k).2.2.2 k2
  rw [if_neg hn] at h6
  refine PI.adq s0 o0 h3 (fun i i0 i1 => ?_) h5 (by omega) hk (fun z => ?_)
  · by_cases y : i < pO r - 1
    · exact h4 i i0 y
    · have e : i = pO r - 1 := by omega
      rcases hw with w | w
      · omega
      · rw [e]; omega
  · have : pS r = 0 := by
      by_cases q : 0 < pS r
      · exact absurd ⟨z, q⟩ hn
      · omega
    rw [this, e]
    rfl
theorem PI.cl {r s : Rw} (h : PI r) (o1 : 0 < pO r) (hb : r 56 (pO r - 1) = 0) (hd : r 57 (pO r - 1) = 0) (e1 : s 51 6 = r 51 6) (e2 : s 51 11 = r 51 11 - 1) (e3 : ∀ a, 52 ≤ a → a ≤ 58 → s a = r a) : PI (adS s (r 55 (pO r - 1)) (r 58 (pO r - 1)) (-1)) := by
  obtain ⟨s0, o0, h3, h4, h5, h6⟩ := h.o
  have t := (h3 (pO r - 1) (by omega) (by omega)).o
  rw [hb, hd] at t
  have g := smG_s (A := r 55) (B := r 56) (s := pO r - 1) (by omega)
  rw [show pO r - 1 + 1 = pO r by omega, hb] at g
  rw [if_neg (show ¬ (pO r = 0 ∧ 0 < pS r) from fun q => by omega)] at h6
  have a6 : pS s = pS r := e1
  have a11 : pO s = pO r - 1 := e2
  refine PI.adq (by rw [a6]; exact s0) (by omega) ?_ ?_ ?_ ?_ ?_ ?_
  · rw [a11, e3 55 (by decide) (by decide), e3 56 (by decide) (by decide), e3 57 (by decide) (by decide), e3 58 (by decide) (by decide)]
    exact fun i i0 i1 => h3 i i0 (by omega)
  · rw [a11, e3 56 (by decide) (by decide)]
    exact h4
  · rw [a6, e3 52 (by decide) (by decide), e3 53 (by decide) (by decide), e3 54 (by decide) (by decide)]
    exact h5
  · rw [a6, a11, e3 52 (by decide) (by decide), e3 55 (by decide) (by decide), e3 56 (by decide) (by decide)]
    omega
  · have dr := dgc_rng (r 55 (pO r - 1))
    exact Box.i (Or.inr (Or.inr ⟨t.1, t.2.1, t.2.2.2.2.2.2.2.1, t.2.2.2.2.2.2.2.2.1, fun q => t.2.2.2.2.2.2.2.2.2.1 (by omega), fun q => t.2.2.2.2.2.2.2.2.2.2 (by omega)⟩))
  · intro z
    rw [a6, e3 52 (by decide) (by decide)]
    have z2 : pO r - 1 = 0 := by omega
    rw [z2] at g ⊢
    have : smG (r 55) (r 56) (0 : Int).toNat = 0 := rfl
    omega
theorem PI.op {r : Rw} {k : Int} (h : PI r) (hw : wtS r) (hn : ¬ whS r) (k0 : 2 ≤ k) (k1 : k ≤ 24) : PI (opD r k) := by
  obtain ⟨s0, o0, h3, h4, h5, h6⟩ := h.o
  rw [if_neg hn] at h6
  have oc := opc_rng k
  have dc := dgc_rng k
  have e6 : opD r k 51 6 = pS r := rfl
  have e11 : opD r k 51 11 = pO r + 1 := up_self (r 51) 11 _
  have q5 : opD r k 55 = up (r 55) (pO r) k := rfl
  have q6 : opD r k 56 = up (r 56) (pO r) (opc k) := rfl
  have q7 : opD r k 57 = up (r 57) (pO r) (dgc k) := rfl
  have q8 : opD r k 58 = up (r 58) (pO r) 0 := rfl
  have q2 : opD r k 52 = r 52 := rfl
  have q3 : opD r k 53 = r 53 := rfl
  have q4 : opD r k 54 = r 54 := rfl
  have a6 : pS (opD r k) = pS r := e6
  have a11 : pO (opD r k) = pO r + 1 := e11
  unfold PI
  rw [a6, a11, q2, q3, q4, q5, q6, q7, q8]
  refine Box.i ⟨s0, by omega, fun i i0 i1 => ?_, fun i i0 i1 => ?_, h5, ?_⟩
  · by_cases y : i = pO r
    · subst y
      rw [up_self, up_self, up_self, up_self]
      exact Box.i ⟨k0, k1, oc.1, Int.le_refl _, dc.1, Int.le_refl _, fun _ => rfl, Int.le_refl _, by decide, fun _ => rfl, fun q => by omega⟩
    · rw [up_ne y, up_ne y, up_ne y, up_ne y]
      exact h3 i i0 (by omega)
  · rw [up_ne (by omega)]
    by_cases y : i < pO r - 1
    · exact h4 i i0 y
    · have e : i = pO r - 1 := by omega
      rcases hw with w | w
      · omega
      · rw [e]; omega
  · rw [smG_s o0, up_self, up_self, if_neg (fun q => by omega), smG_cg (C := r 55) (D := r 56) _ fun i i0 i1 => ⟨up_ne (by omega), up_ne (by omega)⟩]
    omega
theorem PI.wd {r s : Rw} {d : Int} (h : PI r) (o1 : 0 < pO r) (hb : r 56 (pO r - 1) = 0) (hd : 0 < r 57 (pO r - 1)) (d0 : 0 ≤ d) (d1 : d ≤ 9) (e1 : s 51 6 = r 51 6) (e2 : s 51 11 = r 51 11) (e3 : ∀ a, 52 ≤ a → a ≤ 56 → s a = r a)
    (e7 : s 57 = up (r 57) (pO r - 1) (r 57 (pO r - 1) - 1)) (e8 : s 58 = up (r 58) (pO r - 1) (10 * r 58 (pO r - 1) + d)) : PI s := by
  obtain ⟨s0, o0, h3, h4, h5, h6⟩ := h.o
  have t := (h3 (pO r - 1) (by omega) (by omega)).o
  have dr := dgc_rng (r 55 (pO r - 1))
  have a6 : pS s = pS r := e1
  have a11 : pO s = pO r := e2
  unfold PI
  rw [a6, a11, e3 52 (by decide) (by decide), e3 53 (by decide) (by decide), e3 54 (by decide) (by decide), e3 55 (by decide) (by decide), e3 56 (by decide) (by decide), e7, e8]
  refine Box.i ⟨s0, o0, fun i i0 i1 => ?_, h4, h5, h6⟩
  by_cases y : i = pO r - 1
  · subst y
    rw [up_self, up_self]
    obtain ⟨t1, t2, t3, t4, t5, t6, t7, t8, t9, t10, t11⟩ := t
    have n9 : 10 * r 58 (pO r - 1) + d ≤ 99 ∧ (r 57 (pO r - 1) - 1 = dgc (r 55 (pO r - 1)) - 1 → 10 * r 58 (pO r - 1) + d ≤ 9) := by
      by_cases q : r 57 (pO r - 1) = dgc (r 55 (pO r - 1))
      · have := t10 q; omega
      · have := t11 (by omega); omega
    exact Box.i ⟨t1, t2, t3, t4, by omega, by omega, fun q => by omega, by omega, n9.1, fun q => by omega, n9.2⟩
  · rw [up_ne y, up_ne y]
    exact h3 i i0 i1
/-- all goes well so far -/
def Gd (r : Rw) : Prop := Box (pE r = -1 ∧ 0 ≤ r 49 1 ∧ r 49 1 ≤ 120 ∧ 0 ≤ pP r ∧ pP r ≤ r 49 1 ∧ 2 * (pS r + pO r) ≤ pP r ∧ PI r)
theorem Gd.pl {r : Rw} (h : Gd r) : PL r := Box.i ⟨h.o.2.1, h.o.2.2.1, h.o.2.2.2.1, h.o.2.2.2.2.1⟩
theorem Gd.tn {r : Rw} (h : Gd r) : TnP r := by
  obtain ⟨g1, g2, g3, g4, g5, g6, g7⟩ := h.o
  obtain ⟨s0, o0, h3, h4, h5, h6⟩ := g7.o
  have q1 : r 51 1 = pP r := rfl
  have q2 : r 51 6 = pS r := rfl
  have q3 : r 51 11 = pO r := rfl
  refine Box.i ⟨o0, by omega, s0, by omega, fun q => ?_, fun q => ?_⟩
  · have t := (h3 (pO r - 1) (by omega) (by omega)).o
    have dr := dgc_rng (r 55 (pO r - 1))
    exact ⟨t.2.2.1, t.2.2.2.2.2.2.2.1, Int.le_trans t.2.2.2.2.2.2.2.2.1 (by decide), t.2.2.2.2.1, Int.le_trans t.2.2.2.2.2.1 dr.2⟩
  · have := h4 (pO r - 1 - 1) (by omega) (by omega)
    have q9 : r 51 11 - 1 - 1 = pO r - 1 - 1 := rfl
    rw [q9]
    omega
theorem wl_0 : ∀ j : Nat, j < 23 → wl ((j : Int) + 2) 0 ≠ 32 := by decide +kernel
theorem dg_cs {r : Rw} (h : 0 ≤ pP r) : pE (dgS r) ≠ -1 ∨ (dgS r = avS r ∧ isD (tA r (pP r)) ∧ ¬ isD (tA r (pP r + 1))) := by
  unfold dgS
  by_cases z : isD (tA r (pP r))
  · rw [if_pos z]
    by_cases y : isD (tA r (pP r + 1))
    · rw [if_pos y]
      refine Or.inl ?_
      show up (up (r 51) 1 (pP r + 1)) 2 (up (r 51) 1 (pP r + 1) 1) 2 ≠ -1
      rw [up_self, up_self]
      omega
    · rw [if_neg y]
      exact Or.inr ⟨rfl, z, y⟩
  · rw [if_neg z]
    refine Or.inl ?_
    show up (r 51) 2 (pP r) 2 ≠ -1
    rw [up_self]
    omega
theorem bd_E {r : Rw} (h : 0 ≤ pP r) : pE (bdS r) ≠ -1 := by
  show up (r 51) 2 (pP r) 2 ≠ -1
  rw [up_self]
  omega
theorem cnS_rng {r : Rw} {p : Int} (h : isD (tA r p)) : p + 1 ≤ (cnS r 3 p 0).1 ∧ (cnS r 3 p 0).1 ≤ r 49 1 ∧ 0 ≤ (cnS r 3 p 0).2 ∧ (cnS r 3 p 0).2 ≤ 999 := by
  rw [cnS_s h]
  have a1 := tA_rng h
  by_cases y : isD (tA r (p + 1))
  · rw [cnS_s y]
    have a2 := tA_rng y
    by_cases x : isD (tA r (p + 1 + 1))
    · rw [cnS_s x]
      have a3 := tA_rng x
      have : ∀ q n, cnS r 0 q n = (q, n) := fun _ _ => rfl
      rw [this]
      dsimp only
      omega
    · rw [cnS_z x]
      dsimp only
      omega
  · rw [cnS_z y]
    dsimp only
    omega

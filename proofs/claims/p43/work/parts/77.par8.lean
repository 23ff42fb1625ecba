/-! ===== the reader's steps: text, invariant, progress; the whole text ===== -/
/-- the text is the same -/
abbrev Tx (r s : Rw) : Prop := s 49 = r 49 ∧ s 50 = r 50
theorem adS_T (r : Rw) (k n x : Int) : Tx r (adS r k n x) := ⟨adS_49 r k n x, adS_50 r k n x⟩
theorem dgS_T (r : Rw) : Tx r (dgS r) := ⟨dgS_ne r (by decide), dgS_ne r (by decide)⟩
theorem Tx.tr {r s t : Rw} (h : Tx r s) (g : Tx s t) : Tx r t := ⟨g.1.trans h.1, g.2.trans h.2⟩
theorem ctC_T (r : Rw) (n : Int) : Tx r (ctC r n) := by
  unfold ctC ctD
  split
  · exact Tx.tr (s := skS (avS r)) ⟨rfl, rfl⟩ ((dgS_T _).tr (adS_T _ _ _ _))
  · exact ⟨rfl, rfl⟩
theorem ctS_T (r : Rw) : Tx r (ctS r) := by
  unfold ctS ctB
  split
  · exact ⟨rfl, rfl⟩
  · exact Tx.tr (s := skS (sF r 1 (cnS r 3 (pP r) 0).1)) ⟨rfl, rfl⟩ (ctC_T _ _)
theorem opS_T (r : Rw) : Tx r (opS r) := by
  unfold opS opB opC
  split
  · exact ⟨rfl, rfl⟩
  · exact ⟨rfl, rfl⟩
theorem tnS_T (r : Rw) : Tx r (tnS r) := by
  unfold tnS
  split
  · exact ⟨rfl, rfl⟩
  · split
    · exact ⟨rfl, rfl⟩
    · split
      · exact opS_T r
      · split
        · unfold lfS
          split
          · exact Tx.tr (s := avS r) ⟨rfl, rfl⟩ ((dgS_T _).tr (adS_T _ _ _ _))
          · split
            · exact ctS_T r
            · exact ⟨rfl, rfl⟩
        · split
          · exact (dgS_T r).tr ⟨rfl, rfl⟩
          · unfold clS
            split
            · exact Tx.tr (s := sF (avS r) 11 (pO r - 1)) ⟨rfl, rfl⟩ (adS_T _ _ _ _)
            · exact ⟨rfl, rfl⟩
theorem Gd.i {r : Rw} (h1 : pE r = -1) (h2 : 0 ≤ r 49 1) (h3 : r 49 1 ≤ 120) (h4 : 0 ≤ pP r) (h5 : pP r ≤ r 49 1) (h6 : 2 * (pS r + pO r) ≤ pP r) (h7 : PI r) : Gd r := Box.i ⟨h1, h2, h3, h4, h5, h6, h7⟩
theorem Gd.av {r : Rw} (h : Gd r) (e : pP r < r 49 1) : Gd (avS r) := by
  obtain ⟨g1, g2, g3, g4, g5, g6, g7⟩ := h.o
  have a : pP (avS r) = pP r + 1 := up_self (r 51) 1 _
  have b : pS (avS r) = pS r := rfl
  have c : pO (avS r) = pO r := rfl
  exact Gd.i g1 g2 g3 (by omega) (by rw [a]; show pP r + 1 ≤ r 49 1; omega) (by rw [a, b, c]; omega) (g7.cg rfl rfl fun a h1 h2 => ur_ne (by omega))
abbrev GdN (r s : Rw) : Prop := pE s ≠ -1 ∨ (Gd s ∧ pP r < pP s)
theorem ctS_G {r : Rw} (h : Gd r) (hw : wtS r) (hn : ¬ whS r) (hd : isD (tA r (pP r))) : GdN r (ctS r) := by
  obtain ⟨g1, g2, g3, g4, g5, g6, g7⟩ := h.o
  have c := cnS_rng hd
  unfold ctS ctB
  generalize hq : cnS r 3 (pP r) 0 = q at c ⊢
  obtain ⟨p, n⟩ := q
  dsimp only at c ⊢
  have p1 : pP (sF r 1 p) = p := up_self (r 51) 1 p
  by_cases z : isD (tA r p)
  · rw [if_pos z]
    exact Or.inl (bd_E (by omega))
  · rw [if_neg z]
    have s1 := skS_rng (r := sF r 1 p) (by omega) (by rw [p1]; exact c.2.1)
    unfold ctC
    have a0 : pP (skS (sF r 1 p)) = skS (sF r 1 p) 51 1 := rfl
    by_cases y : tA (skS (sF r 1 p)) (pP (skS (sF r 1 p))) = 58
    · rw [if_pos y]
      have y1 := tA_in (tAn y (by decide))
      have y2 : pP (skS (sF r 1 p)) < r 49 1 := y1.2
      have p2 : pP (avS (skS (sF r 1 p))) = pP (skS (sF r 1 p)) + 1 := up_self (skS (sF r 1 p) 51) 1 _
      have s2 := skS_rng (r := avS (skS (sF r 1 p))) (by omega) (by rw [p2]; show _ ≤ r 49 1; omega)
      have a1 : pP (skS (avS (skS (sF r 1 p)))) = skS (avS (skS (sF r 1 p))) 51 1 := rfl
      unfold ctD
      rcases dg_cs (r := skS (avS (skS (sF r 1 p)))) (by omega) with e | ⟨e, e2, e3⟩
      · left
        show adS _ _ _ _ 51 2 ≠ -1
        rw [adS_F _ _ _ _ (by decide)]
        exact e
      · right
        rw [e]
        have b1 := tA_rng e2
        have b2 : pP (skS (avS (skS (sF r 1 p)))) < r 49 1 := b1.2
        have dv := dgV_rng (skS (avS (skS (sF r 1 p))))
        have p3 : pP (avS (skS (avS (skS (sF r 1 p))))) = pP (skS (avS (skS (sF r 1 p)))) + 1 := up_self (skS (avS (skS (sF r 1 p))) 51) 1 _
        have f1 : ∀ k n x, pP (adS (avS (skS (avS (skS (sF r 1 p))))) k n x) = pP (avS (skS (avS (skS (sF r 1 p))))) := fun k n x => adS_F _ _ _ _ (by decide)
        have f2 : ∀ k n x, pO (adS (avS (skS (avS (skS (sF r 1 p))))) k n x) = pO r := fun k n x => adS_F _ _ _ _ (by decide)
        have f3 : ∀ k n x, pS (adS (avS (skS (avS (skS (sF r 1 p))))) k n x) = pS r + 1 := fun k n x => adS_6 _ _ _ _
        have f4 : ∀ k n x, adS (avS (skS (avS (skS (sF r 1 p))))) k n x 49 = r 49 := fun k n x => adS_49 _ _ _ _
        have f5 : ∀ k n x, pE (adS (avS (skS (avS (skS (sF r 1 p))))) k n x) = pE r := fun k n x => adS_F _ _ _ _ (by decide)
        have G7 : PI (avS (skS (avS (skS (sF r 1 p))))) := g7.cg rfl rfl fun a h1 h2 => by
          show ur _ 51 _ a = r a
          rw [ur_ne (by omega)]
          show ur _ 51 _ a = r a
          rw [ur_ne (by omega)]
          show ur _ 51 _ a = r a
          rw [ur_ne (by omega)]
          show ur _ 51 _ a = r a
          rw [ur_ne (by omega)]
          exact ur_ne (by omega)
        have m : adS (dgS (skS (avS (skS (sF r 1 p))))) 0 n (dgV (skS (avS (skS (sF r 1 p))))) = adS (avS (skS (avS (skS (sF r 1 p))))) 0 n (dgV (skS (avS (skS (sF r 1 p))))) := by rw [e]
        refine ⟨Gd.i ((f5 _ _ _).trans g1) (by rw [f4]; exact g2) (by rw [f4]; exact g3) (by rw [f1]; omega) (by rw [f1, f4]; omega) (by rw [f1, f2, f3]; omega) (G7.ad hw hn (Box.i (Or.inl ⟨rfl, c.2.2.1, c.2.2.2, dv.1, dv.2⟩)) (by decide)), by rw [f1]; omega⟩
    · rw [if_neg y]
      exact Or.inl (bd_E (by omega))

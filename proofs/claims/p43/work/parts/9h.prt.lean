/-! ===== how many nodes a node reaches ===== -/
theorem shr1 {s : Int64} {k : Nat} (hk : k < 64) : (lShr s (k : Int) &&& 1 = 1) ↔ lb s k = true := by
  have a := (and1 (x := lShr s (k : Int))).1
  rw [lb_shr (by omega) (by omega) (by omega), Nat.zero_add, Int.toNat_natCast] at a
  exact a
theorem cF_hi {w : Int → Int} (hW : WF w) {j : Nat} (hj : j < 64) : ∀ k : Nat, (k : Int) ≤ w 0 → k ≤ j → ∀ s, lb (cF w k s) j = lb s j := by
  have n0 := hW.nn
  intro k
  induction k with
  | zero => intro _ _ s; rfl
  | succ k ih =>
    intro hk hkj s
    unfold cF
    have wn := hW.node (n := (k : Int)) (by omega) (by omega)
    obtain ⟨-, ⟨o1, o2, o3, o4, o5, o6⟩, -⟩ := wn.o
    split
    · rw [ih (by omega) (by omega), orN_lb wn (by omega) hj, decide_eq_false (by omega), decide_eq_false (by omega), decide_eq_false (by omega), Bool.or_false, Bool.or_false, Bool.or_false]
    · exact ih (by omega) (by omega) s
theorem pF_cnt {w : Int → Int} (hW : WF w) : ∀ k : Nat, (k : Int) ≤ w 0 → ∀ s, pF w k s = cntB (fun j => lb (cF w k s) j.toNat) k := by
  have n0 := hW.nn
  intro k
  induction k with
  | zero => intro _ s; rfl
  | succ k ih =>
    intro hk s
    have hk6 : k < 64 := by omega
    rw [cntB_s]
    unfold pF cF
    by_cases e : lb s k = true
    · rw [if_pos ((shr1 hk6).mpr e), if_pos e, ih (by omega), Int.toNat_natCast, if_pos (cF_mono w k _ (orN_up e))]
      omega
    · rw [if_neg (fun q => e ((shr1 hk6).mp q)), if_neg e, ih (by omega), Int.toNat_natCast, cF_hi hW hk6 k (by omega) (Nat.le_refl _), if_neg e]
      omega
theorem parts_eq {w : Int → Int} (hW : WF w) {n : Int} (h0 : 0 ≤ n) (h1 : n < w 0) : partsW w n = pcL (coneW w n) := by
  have n0 := hW.nn
  rw [pcL_def]
  unfold partsW coneW
  rw [pF_cnt hW _ (by omega)]
  refine (cntB_gap _ (j := (n + 1).toNat) 64 (by omega) fun N a b => ?_).symm
  show lb _ N.toNat = false
  rw [cF_hi hW (by omega) _ (by omega) (by omega), lb_one h0 (by omega) (by omega)]
  exact decide_eq_false (by omega)
/-- a row of the graph told -/
theorem told_gh {h : Hp} {w : Int → Int} (hG : GH h w) {n x : Int} (h0 : 0 ≤ n) (h1 : n < w 0) (hW : WF w) (x0 : 0 ≤ x) (x1 : x < 8) : hI h 2 (n * 8 + x) = toldW w n x := by
  obtain ⟨-, -, hr, -⟩ := hG.o
  obtain ⟨r0, r1, r2, r3, r4, r5, r6⟩ := hr n h0 h1
  have wn := hW.node h0 h1
  unfold toldW
  rw [if_neg (by omega)]
  by_cases e5 : x = 5
  · subst e5
    rw [if_pos rfl]
    by_cases k : nd w n 0 = 21
    · rw [(r5 k).1, if_neg (by omega)]
    · rw [(r6 k).1]
      split
      · rfl
      · obtain ⟨-, -, -, -, -, -, -, -, q, -⟩ := wn.o
        exact (q (by omega) k).1
  · rw [if_neg e5]
    by_cases g : 5 < x
    · rw [if_pos g]
      by_cases k : nd w n 0 = 21
      · rw [if_pos k]
        rcases (by omega : x = 6 ∨ x = 7) with rfl | rfl
        · exact (r5 k).2.1
        · exact (r5 k).2.2
      · rw [if_neg k]
        rcases (by omega : x = 6 ∨ x = 7) with rfl | rfl
        · exact (r6 k).2.1
        · exact (r6 k).2.2
    · rw [if_neg g]
      rcases (by omega : x = 0 ∨ x = 1 ∨ x = 2 ∨ x = 3 ∨ x = 4) with rfl | rfl | rfl | rfl | rfl
      · exact r0
      · exact r1
      · exact r2
      · exact r3
      · exact r4

/-! ===== a variable made ===== -/
theorem varN_f {w : Int → Int} (wd : Int) (h0 : 0 ≤ w 0) (hc : w 0 < 40) (v0 : 0 ≤ w 281) (v4 : w 281 < 4) : varN w wd 0 = w 0 + 1 ∧ varN w wd 281 = w 281 + 1 ∧ varN w wd (282 + w 281) = w 0 ∧ varN w wd (286 + w 281) = 0 ∧ (∀ j, (281 < j ∨ j < 0) → j ≠ 282 + w 281 → j ≠ 286 + w 281 → varN w wd j = w j) ∧ (∀ n j, 0 ≤ n → n < w 0 → 0 ≤ j → j < 7 → nd (varN w wd) n j = nd w n j) ∧
    nd (varN w wd) (w 0) 0 = 1 ∧ nd (varN w wd) (w 0) 1 = wd ∧ nd (varN w wd) (w 0) 2 = -1 ∧ nd (varN w wd) (w 0) 3 = -1 ∧ nd (varN w wd) (w 0) 4 = -1 ∧ nd (varN w wd) (w 0) 5 = w 281 ∧ nd (varN w wd) (w 0) 6 = -1 := by
  obtain ⟨u, hu⟩ : ∃ u, u = up w 281 (w 281 + 1) := ⟨_, rfl⟩
  have u0 : u 0 = w 0 := by rw [hu, up_ne (by decide)]
  have e : ∀ j, j ≠ 282 + w 281 → j ≠ 286 + w 281 → varN w wd j = newN u 1 wd (-1) (-1) (-1) (w 281) (-1) j := fun j a b => by
    unfold varN
    rw [up_ne b, up_ne a, hu]
  have en : ∀ n j, 0 ≤ n → n ≤ w 0 → 0 ≤ j → j < 7 → nd (varN w wd) n j = nd (newN u 1 wd (-1) (-1) (-1) (w 281) (-1)) n j := fun n j n0 n1 j0 j1 => by
    unfold nd
    exact e _ (by omega) (by omega)
  have d := newN_n u 1 wd (-1) (-1) (-1) (w 281) (-1) (by omega)
  rw [u0] at d
  refine ⟨?_, ?_, ?_, ?_, fun j a b c => ?_, fun n j n0 n1 j0 j1 => ?_, ?_⟩
  · rw [e 0 (by omega) (by omega), newN_0, u0]
  · rw [e 281 (by omega) (by omega), newN_lo u 1 wd (-1) (-1) (-1) (w 281) (-1) (by decide) (by omega), hu, up_self]
  · unfold varN
    rw [up_ne (by omega), up_self]
  · unfold varN
    rw [up_self]
  · rw [e j b c, newN_lo u 1 wd (-1) (-1) (-1) (w 281) (-1) (by omega) (by omega), hu, up_ne (by omega)]
  · rw [en n j n0 (by omega) j0 j1, newN_nd u 1 wd (-1) (-1) (-1) (w 281) (-1) n0 (by omega) j0 j1, hu]
    unfold nd
    exact up_ne (by omega)
  · rw [en _ _ h0 (by omega) (by decide) (by decide), en _ _ h0 (by omega) (by decide) (by decide), en _ _ h0 (by omega) (by decide) (by decide), en _ _ h0 (by omega) (by decide) (by decide), en _ _ h0 (by omega) (by decide) (by decide), en _ _ h0 (by omega) (by decide) (by decide), en _ _ h0 (by omega) (by decide) (by decide)]
    exact d
theorem Nx.varN {w : Int → Int} (wd : Int) (h0 : 0 ≤ w 0) (hc : w 0 < 40) (v0 : 0 ≤ w 281) (v4 : w 281 < 4) : Nx w (CWordSolverLaw_law_r6868_1636c8.varN w wd) := by
  obtain ⟨f1, f2, f3, f4, f5, f6, -⟩ := varN_f wd h0 hc v0 v4
  exact Box.i ⟨by omega, f6, by omega, fun v a b => f5 _ (by omega) (by omega) (by omega), fun j a => f5 j (Or.inr a) (by omega) (by omega)⟩
theorem WF.varN {w : Int → Int} {wd : Int} (hW : WF w) (hc : w 0 < 40) (v4 : w 281 < 4) (w1 : 1 ≤ wd) (w8 : wd ≤ 8) (hs : sumW w (w 281).toNat + wd ≤ 16) : WF (CWordSolverLaw_law_r6868_1636c8.varN w wd) := by
  have q := hW.nn
  have vn := hW.vn
  have cn := hW.cn
  have wn := hW.wn
  have nx := Nx.varN (w := w) wd q.1 hc vn.1 v4
  obtain ⟨f1, f2, f3, f4, f5, f6, d0, d1, d2, d3, d4, d5, d6⟩ := varN_f (w := w) wd q.1 hc vn.1 v4
  have hc' := ConP.nx hW nx (f5 290 (Or.inl (by decide)) (by omega) (by omega)) fun k k0 k1 => ⟨f5 _ (by omega) (by omega) (by omega), f5 _ (by omega) (by omega) (by omega)⟩
  have hw' := WisP.nx hW nx (f5 332 (Or.inl (by decide)) (by omega) (by omega)) fun k k0 k1 => ⟨f5 _ (by omega) (by omega) (by omega), f5 _ (by omega) (by omega) (by omega)⟩
  refine Box.i ⟨by omega, by omega, fun n n0 n1 => ?_, fun v v0 v1 => ?_, ?_, fun a b a0 ab b1 => ?_, hc'.o.1, hc'.o.2, by rw [f5 331 (Or.inl (by decide)) (by omega) (by omega)]; exact hW.lev, hw'.o.1, hw'.o.2, Box.i fun v v0 v1 => ?_⟩
  · by_cases z : n < w 0
    · exact (hW.node n0 z).nx nx n0 z
    · obtain rfl : n = w 0 := by omega
      unfold WFn
      rw [d0, d1, d2, d3, d4, d5, d6]
      exact Box.i ⟨by omega, by omega, fun _ => by omega, fun _ => by omega, fun _ => ⟨by omega, by omega, f3⟩, fun _ => by omega, fun _ => by omega, fun _ => by omega, fun _ _ => by omega, fun _ => by omega, fun _ _ => by omega, fun _ _ => by omega, fun _ _ => by omega, fun _ => by omega, fun _ => by omega, fun _ => by omega, fun _ => by omega, fun _ => by omega⟩
  · by_cases z : v < w 281
    · have := hW.var v0 z
      rw [nx.v v0 z, f6 _ _ this.1 this.2.1 (by decide) (by decide), f6 _ _ this.1 this.2.1 (by decide) (by decide)]
      exact ⟨this.1, by omega, this.2.2⟩
    · obtain rfl : v = w 281 := by omega
      rw [f3, d0, d5]
      exact ⟨q.1, by omega, rfl, rfl⟩
  · rw [f2, show (w 281 + 1).toNat = (w 281).toNat + 1 by omega, sumW_succ, show (((w 281).toNat : Nat) : Int) = w 281 by omega, f3, d1, sumW_nx hW nx (by omega)]
    exact hs
  · by_cases z : b < w 281
    · rw [nx.v a0 (by omega), nx.v (by omega) z]
      exact hW.asc a0 ab z
    · obtain rfl : b = w 281 := by omega
      rw [nx.v a0 (by omega), f3]
      exact (hW.var a0 (by omega)).2.1
  · show 0 ≤ CWordSolverLaw_law_r6868_1636c8.varN w wd (286 + v) ∧ CWordSolverLaw_law_r6868_1636c8.varN w wd (286 + v) < _
    by_cases z : v < w 281
    · have := hW.var v0 z
      have i := hW.inp.o v v0 z
      rw [f5 (286 + v) (by omega) (by omega) (by omega), nx.v v0 z, f6 _ _ this.1 this.2.1 (by decide) (by decide)]
      exact i
    · obtain rfl : v = w 281 := by omega
      rw [f4]
      exact ⟨Int.le_refl _, p2_pos _⟩
theorem Pfx.varN {w : Int → Int} {wd : Int} (hW : WF w) (hc : w 0 < 40) (v4 : w 281 < 4) : Pfx w (CWordSolverLaw_law_r6868_1636c8.varN w wd) := by
  have q := hW.nn
  have vn := hW.vn
  obtain ⟨f1, f2, f3, f4, f5, f6, -⟩ := varN_f (w := w) wd q.1 hc vn.1 v4
  refine Box.i ⟨q.1, by omega, vn.1, by omega, fun n j n0 n1 j0 j1 => (f6 n j n0 n1 j0 j1).symm, fun x x0 x1 => ⟨(f5 (282 + x) (by omega) (by omega) (by omega)).symm, (hW.var x0 x1).2.1⟩, fun x x0 x1 => ?_⟩
  obtain rfl : x = w 281 := by omega
  rw [f3]
  exact Int.le_refl _
/-- the heap of a variable made -/
def vmH (h : Hp) (f1 f2 f3 f4 : Int → Int) (f : Nat → Int → Int) (r : Int → Option Nat) (p : Int) : Hp := rI (rI (hsH (g4 h f1 f2 f3 f4) f r) 10 (up (hI h 10) p 0)) 46 (up (hI h 46) 4 0)
theorem vmH_I (h : Hp) (f1 f2 f3 f4 : Int → Int) (f : Nat → Int → Int) (r : Int → Option Nat) (p : Int) (q : Nat) : hI (vmH h f1 f2 f3 f4 f r p) q = if q = 46 then up (hI h 46) 4 0 else if q = 10 then up (hI h 10) p 0 else if 11 ≤ q ∧ q < 43 then f q else if q = 1 then f1 else if q = 2 then f2 else if q = 3 then f3 else if q = 4 then f4 else hI h q := rfl
theorem vm_ci {h : Hp} {w ps qs : Int → Int} {s t : Int} (hC : CI h w ps s) {wd : Int} (hc : w 0 < 40) (v4 : w 281 < 4) (w1 : 1 ≤ wd) (w8 : wd ≤ 8) (hs : sumW w (w 281).toNat + wd ≤ 16) {f1 f2 f3 f4 : Int → Int} (G : GR f1 f2 f3 f4 (varN w wd)) {f : Nat → Int → Int} {r : Int → Option Nat} (k : HR f r qs t) : CI (vmH h f1 f2 f3 f4 f r (w 281)) (varN w wd) qs t ∧ Kp h (vmH h f1 f2 f3 f4 f r (w 281)) := by
  have hW := hC.wf
  have q := hW.nn
  have vn := hW.vn
  have cn := hW.cn
  have wn := hW.wn
  obtain ⟨e1, e2, e3, e4, e5, e6, -⟩ := varN_f (w := w) wd q.1 hc vn.1 v4
  have g290 := e5 290 (Or.inl (by decide)) (by omega) (by omega)
  have g331 := e5 331 (Or.inl (by decide)) (by omega) (by omega)
  have g332 := e5 332 (Or.inl (by decide)) (by omega) (by omega)
  obtain ⟨s1, s2, s3, s4, s5, s6⟩ := hC.st.o
  refine ⟨Box.i ⟨G, hW.varN hc v4 w1 w8 hs, ?_, ?_, ?_, hC.rn, hC.tl, hC.tx⟩, Box.i ⟨Box.i fun a h1 h2 => ⟨?_, rfl, ?_⟩, rfl, rfl⟩⟩
  · refine Box.i ⟨?_, ?_, ?_, fun k k0 k1 => ?_, fun k k0 k1 => ?_, fun v v0 v1 => ?_⟩
    · rw [g331]; exact s1
    · rw [g290]; exact s2
    · rw [g332]; exact s3
    · rw [g290] at k1
      rw [e5 (291 + k) (by omega) (by omega) (by omega), e5 (311 + k) (by omega) (by omega) (by omega)]
      exact s4 k k0 k1
    · rw [g332] at k1
      rw [e5 (333 + k) (by omega) (by omega) (by omega), e5 (341 + k) (by omega) (by omega) (by omega)]
      exact s5 k k0 k1
    · show up (hI h 10) (w 281) 0 v = _
      by_cases z : v = w 281
      · subst z
        rw [up_self, e4]
      · rw [up_ne z, e5 (286 + v) (by omega) (by omega) (by omega)]
        exact s6 v v0 (by omega)
  · exact HR.fc (fun a h1 h2 => by rw [vmH_I, if_neg (by omega), if_neg (by omega), if_pos ⟨h1, h2⟩]) k
  · exact Box.i fun z => absurd (up_self (hI h 46) 4 0) z
  · rw [vmH_I, if_neg (by omega), if_neg (by omega), if_neg (by omega), if_neg (by omega), if_neg (by omega), if_neg (by omega), if_neg (by omega)]
  · show (if a = 12 then r else hR h a) = _
    rw [if_neg (by omega)]

/-! ===== inputs set to a model ===== -/
/-- only the inputs may differ -/
def Ipt (w u : Int → Int) : Prop := Box (∀ j, j < 286 ∨ 290 ≤ j → u j = w j)
theorem Ipt.rf (w : Int → Int) : Ipt w w := Box.i fun _ _ => rfl
theorem Ipt.tr {w u x : Int → Int} (a : Ipt w u) (b : Ipt u x) : Ipt w x := Box.i fun j h => (b.o j h).trans (a.o j h)
theorem Ipt.in {w u : Int → Int} (a : Ipt w u) {v : Int} (v0 : 0 ≤ v) (v4 : v < 4) (x : Int) : Ipt w (inW u v x) := Box.i fun j h => by
  show up u (286 + v) x j = _
  rw [up_ne (by omega)]
  exact a.o j h
theorem Ipt.nx {w u : Int → Int} (hW : WF w) (a : Ipt w u) : Nx w u ∧ u 0 = w 0 ∧ u 281 = w 281 := Hi.nx hW (Box.i fun j h => a.o j (Or.inl h))
theorem Ipt.cx {w u : Int → Int} (hW : WF w) (a : Ipt w u) : Cx w u := by
  have cn := hW.cn
  exact Box.i ⟨a.o _ (by omega), a.o _ (by omega), fun k k0 k1 => a.o _ (by omega)⟩
section Ip
variable {w u : Int → Int}
theorem Ipt.tot (hW : WF w) (a : Ipt w u) : tot u = tot w := tot_nx hW (a.nx hW).1 (a.nx hW).2.2
theorem Ipt.mdl (hW : WF w) (a : Ipt w u) : CWordSolverLaw_law_r6868_1636c8.mdl u = CWordSolverLaw_law_r6868_1636c8.mdl w := funext fun N => mdl_nx hW (a.nx hW).1 (a.cx hW) N
theorem Ipt.nxt (hW : WF w) (a : Ipt w u) : CWordSolverLaw_law_r6868_1636c8.nxt u 0 = CWordSolverLaw_law_r6868_1636c8.nxt w 0 := nxt_nx hW (a.nx hW).1 (a.cx hW) 0
theorem Ipt.va (hW : WF w) (a : Ipt w u) {n : Int} (n1 : n < w 0) (N : Int) : vl u (asg u N) n = vl w (asg w N) n := va_nx hW (a.nx hW).1 (a.nx hW).2.2 N n1
theorem Ipt.asg (hW : WF w) (a : Ipt w u) (N : Int) {v : Int} (v0 : 0 ≤ v) (v1 : v < w 281) : CWordSolverLaw_law_r6868_1636c8.asg u N v = CWordSolverLaw_law_r6868_1636c8.asg w N v := asg_nx hW (a.nx hW).1 (a.nx hW).2.2 N v0 v1
theorem Ipt.wd (hW : WF w) (a : Ipt w u) {n : Int} (n0 : 0 ≤ n) (n1 : n < w 0) : nd u n 1 = nd w n 1 := (a.nx hW).1.n n0 n1 (by decide) (by decide)
theorem Ipt.gS (hW : WF w) (a : Ipt w u) {n : Int} (n0 : 0 ≤ n) (n1 : n < w 0) (gr sg : Int) : CWordSolverLaw_law_r6868_1636c8.gS u n gr sg = CWordSolverLaw_law_r6868_1636c8.gS w n gr sg := funext fun N => by
  unfold CWordSolverLaw_law_r6868_1636c8.gS gV rd
  rw [a.va hW n1, a.wd hW n0 n1]
theorem Ipt.gV (hW : WF w) (a : Ipt w u) {n : Int} (n0 : 0 ≤ n) (n1 : n < w 0) (sg N : Int) : CWordSolverLaw_law_r6868_1636c8.gV u n sg N = CWordSolverLaw_law_r6868_1636c8.gV w n sg N := by
  unfold CWordSolverLaw_law_r6868_1636c8.gV rd
  rw [a.va hW n1, a.wd hW n0 n1]
theorem Ipt.gA (hW : WF w) (a : Ipt w u) : gnA u = gnA w := funext fun N => by
  have wn := hW.wn
  have q : ∀ k : Nat, (k : Int) ≤ w 332 → gnW u N k = gnW w N k := by
    intro k
    induction k with
    | zero => intro _; rfl
    | succ k ih =>
      intro hk
      have e1 := gnW_s u N (k := (k : Int)) (by omega)
      have e2 := gnW_s w N (k := (k : Int)) (by omega)
      rw [show ((k : Int) + 1).toNat = k + 1 by omega, show ((k : Int)).toNat = k by omega] at e1 e2
      have ws := hW.wish (k := (k : Int)) (by omega) (by omega)
      rw [e1, e2, ih (by omega), a.o (333 + (k : Int)) (by omega), a.o (341 + (k : Int)) (by omega), a.va hW ws.2.1]
  unfold gnA
  rw [a.o 332 (by omega)]
  exact q _ (by omega)
theorem Ipt.Mt (hW : WF w) (a : Ipt w u) {n : Int} (n1 : n < w 0) {f : Int → Int} {m : Int} (h : Mets w n f m) : Mets u n f m := Box.i fun k k0 k1 => by
  rcases h.o k k0 k1 with ⟨b, c⟩ | ⟨b, N, c0, c1, c2, c3⟩
  · exact Or.inl ⟨b, fun N n0 n2 p q => c N n0 n2 (by rw [a.mdl hW] at p; exact p) (by rw [← a.va hW n1]; exact q)⟩
  · exact Or.inr ⟨b, N, c0, c1, by rw [a.mdl hW]; exact c2, by rw [a.va hW n1]; exact c3⟩
theorem Ipt.fx (hW : WF w) (a : Ipt w u) {n : Int} (n0 : 0 ≤ n) (n1 : n < w 0) : ∀ k : Nat, fxA u n k = fxA w n k ∧ fxO u n k = fxO w n k := by
  intro k
  induction k with
  | zero => exact ⟨by show p2 (nd u n 1) - 1 = p2 (nd w n 1) - 1; rw [a.wd hW n0 n1], rfl⟩
  | succ k ih =>
    rw [fxA_s, fxA_s, fxO_s, fxO_s, a.mdl hW, a.va hW n1, ih.1, ih.2]
    exact ⟨rfl, rfl⟩
theorem Ipt.fA (hW : WF w) (a : Ipt w u) {n : Int} (n0 : 0 ≤ n) (n1 : n < w 0) : fxA u n (CWordSolverLaw_law_r6868_1636c8.tot u).toNat = fxA w n (CWordSolverLaw_law_r6868_1636c8.tot w).toNat := by
  rw [a.tot hW]
  exact (a.fx hW n0 n1 _).1
theorem Ipt.fB (hW : WF w) (a : Ipt w u) {n : Int} (n0 : 0 ≤ n) (n1 : n < w 0) : fxB u n = fxB w n := by
  unfold fxB
  rw [a.tot hW, (a.fx hW n0 n1 _).1, (a.fx hW n0 n1 _).2, a.wd hW n0 n1]
end Ip
/-- which model the inputs shall be -/
def WyB (w : Int → Int) (way n N : Int) : Prop := Box ((way = 0 → N = nxt w 0) ∧ (way = 1 → isB (mdl w) (gnA w) (tot w) N) ∧ (way = 2 → isB (mdl w) (gS w n 0 0) (tot w) N) ∧ (way = 3 → isB (mdl w) (gS w n 1 0) (tot w) N))
theorem WyB.ip {w u : Int → Int} {way n N : Int} (h : WyB w way n N) (hW : WF w) (a : Ipt w u) (n0 : 0 ≤ n) (n1 : n < w 0) : WyB u way n N := by
  unfold WyB
  rw [a.nxt hW, a.mdl hW, a.tot hW, a.gA hW, a.gS hW n0 n1, a.gS hW n0 n1]
  exact h
theorem wrd_in {w : Int → Int} {N : Int} (h : N ≠ -1) (v : Int) : wrd w N v = asg w N v := if_neg h
theorem asg_rng (w : Int → Int) (N v : Int) : 0 ≤ asg w N v ∧ asg w N v < p2 (nd w (w (282 + v)) 1) := emod_rng
/-- the inputs are those of an assignment -/
def Ina (w u : Int → Int) (N k : Int) : Prop := Box (∀ v, 0 ≤ v → v < k → u (286 + v) = asg w N v)
theorem Ina.z (w u : Int → Int) (N : Int) : Ina w u N 0 := Box.i fun v a b => by omega
theorem Ina.st {w u : Int → Int} {N k x : Int} (h : Ina w u N k) (e : x = asg w N k) : Ina w (inW u k x) N (k + 1) := Box.i fun v a b => by
  show up u (286 + k) x (286 + v) = _
  by_cases z : v = k
  · rw [z, up_self, e]
  · rw [up_ne (by omega)]
    exact h.o v a (by omega)
/-- values by such inputs -/
theorem Ina.vl {w u : Int → Int} {N : Int} (hW : WF w) (a : Ipt w u) (h : Ina w u N (w 281)) {n : Int} (n1 : n < w 0) : CWordSolverLaw_law_r6868_1636c8.vl u (fun v => u (286 + v)) n = CWordSolverLaw_law_r6868_1636c8.vl w (asg w N) n := by
  rw [vl_nx' hW (a.nx hW).1 n1]
  exact vl_env' hW (fun v v0 v1 => h.o v v0 v1) n1

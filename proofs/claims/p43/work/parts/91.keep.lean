/-! ===== rows kept: what holds of a row holds of the next one ===== -/
/-- the nodes and variables of w stand in u -/
def Nx (w u : Int → Int) : Prop := Box (w 0 ≤ u 0 ∧ (∀ n j, 0 ≤ n → n < w 0 → 0 ≤ j → j < 7 → nd u n j = nd w n j) ∧ w 281 ≤ u 281 ∧ (∀ v, 0 ≤ v → v < w 281 → u (282 + v) = w (282 + v)) ∧ ∀ j, j < 0 → u j = w j)
theorem Nx.n {w u : Int → Int} (h : Nx w u) {n j : Int} (h0 : 0 ≤ n) (h1 : n < w 0) (j0 : 0 ≤ j) (j1 : j < 7) : nd u n j = nd w n j := h.o.2.1 n j h0 h1 j0 j1
theorem Nx.v {w u : Int → Int} (h : Nx w u) {v : Int} (h0 : 0 ≤ v) (h1 : v < w 281) : u (282 + v) = w (282 + v) := h.o.2.2.2.1 v h0 h1
theorem Nx.n1 {w u : Int → Int} (h : Nx w u) {n : Int} (h0 : -1 ≤ n) (h1 : n < w 0) : nd u n 1 = nd w n 1 := by
  by_cases e : n = -1
  · subst e
    exact h.o.2.2.2.2 _ (by decide)
  · exact h.n (by omega) h1 (by decide) (by decide)
theorem Nx.rf (w : Int → Int) : Nx w w := Box.i ⟨Int.le_refl _, fun _ _ _ _ _ _ => rfl, Int.le_refl _, fun _ _ _ => rfl, fun _ _ => rfl⟩
theorem Nx.tr {w u x : Int → Int} (a : Nx w u) (b : Nx u x) : Nx w x := by
  obtain ⟨a1, a2, a3, a4, a5⟩ := a.o
  obtain ⟨b1, b2, b3, b4, b5⟩ := b.o
  exact Box.i ⟨by omega, fun n j h0 h1 j0 j1 => (b2 n j h0 (by omega) j0 j1).trans (a2 n j h0 h1 j0 j1), by omega, fun v h0 h1 => (b4 v h0 (by omega)).trans (a4 v h0 h1), fun j h => (b5 j h).trans (a5 j h)⟩
/-- a change behind the nodes and variables -/
theorem Nx.up {w : Int → Int} (h0 : w 0 ≤ 40) (h4 : w 281 ≤ 4) {j : Int} (hj : 286 ≤ j) (x : Int) : Nx w (CWordSolverLaw_law_r6868_1636c8.up w j x) := by
  refine Box.i ⟨?_, fun n i n0 n1 i0 i1 => ?_, ?_, fun v v0 v1 => ?_, fun i hi => ?_⟩
  · rw [up_ne (by omega)]; exact Int.le_refl _
  · exact up_ne (by omega)
  · rw [up_ne (by omega)]; exact Int.le_refl _
  · exact up_ne (by omega)
  · exact up_ne (by omega)
theorem WFn.nx {w u : Int → Int} (h : Nx w u) {n : Int} (hn : WFn w n) (h0 : 0 ≤ n) (h1 : n < w 0) : WFn u n := by
  obtain ⟨⟨k1, k2, k3, k4⟩, ⟨o1, o2, o3, o4, o5, o6⟩, p1, p2c, p3, p4⟩ := hn.o
  have e0 := h.n h0 h1 (j := 0) (by decide) (by decide)
  have e1 := h.n h0 h1 (j := 1) (by decide) (by decide)
  have e2 := h.n h0 h1 (j := 2) (by decide) (by decide)
  have e3 := h.n h0 h1 (j := 3) (by decide) (by decide)
  have e4 := h.n h0 h1 (j := 4) (by decide) (by decide)
  have e5 := h.n h0 h1 (j := 5) (by decide) (by decide)
  have e6 := h.n h0 h1 (j := 6) (by decide) (by decide)
  have f2 := h.n1 o1 (by omega)
  have f3 := h.n1 o3 (by omega)
  have f4 := h.n1 o5 (by omega)
  have v := h.o.2.2.1
  unfold WFn
  rw [e0, e1, e2, e3, e4, e5, e6, f2, f3, f4]
  exact Box.i ⟨⟨k1, k2, k3, k4⟩, ⟨o1, o2, o3, o4, o5, o6⟩, p1, p2c, fun q => by
    have := p3 q
    rw [h.v this.1 this.2.1]
    omega, p4⟩
theorem nV_nx {w u env f : Int → Int} (h : Nx w u) {n : Int} (hn : WFn w n) (h0 : 0 ≤ n) (h1 : n < w 0) : nV u env f n = nV w env f n := by
  obtain ⟨_, ⟨o1, o2, o3, o4, o5, o6⟩, _⟩ := hn.o
  unfold nV
  rw [h.n h0 h1 (j := 0) (by decide) (by decide), h.n h0 h1 (j := 1) (by decide) (by decide), h.n h0 h1 (j := 2) (by decide) (by decide), h.n h0 h1 (j := 3) (by decide) (by decide), h.n h0 h1 (j := 4) (by decide) (by decide), h.n h0 h1 (j := 5) (by decide) (by decide), h.n h0 h1 (j := 6) (by decide) (by decide), h.n1 o1 (by omega), h.n1 o3 (by omega)]
theorem vl_nx {w u env : Int → Int} (hW : WF w) (h : Nx w u) : ∀ k : Nat, (k : Int) ≤ w 0 → ∀ n : Int, n < (k : Int) → vl u env n = vl w env n := by
  intro k
  induction k with
  | zero =>
    intro _ n hn
    unfold vl
    rw [vT_low _ _ _ (Or.inr (by omega)), vT_low _ _ _ (Or.inr (by omega))]
  | succ k ih =>
    intro hk n hn
    by_cases e : n = k
    · subst e
      have hw := hW.node (n := k) (by omega) (by omega)
      have hu := hw.nx h (by omega) (by omega)
      rw [vl_eq' (by omega) hu, vl_eq' (by omega) hw, nV_nx h hw (by omega) (by omega), nV_use hw (fun m a b => ih (by omega) m b)]
    · exact ih (by omega) n (by omega)
theorem vl_nx' {w u env : Int → Int} (hW : WF w) (h : Nx w u) {n : Int} (hn : n < w 0) : vl u env n = vl w env n := vl_nx hW h (w 0).toNat (by have := hW.nn; omega) n (by have := hW.nn; omega)
theorem sumW_nx {w u : Int → Int} (hW : WF w) (h : Nx w u) {k : Nat} (hk : (k : Int) ≤ w 281) : sumW u k = sumW w k := sumW_cg k fun v v0 v1 => by
  have := hW.var v0 (by omega)
  exact ⟨h.v v0 (by omega), h.n1 (by omega) (by omega)⟩
theorem sumW_t {w u : Int → Int} (hW : WF w) (h : Nx w u) (e : u 281 = w 281) : sumW u (u 281).toNat = sumW w (w 281).toNat := by
  rw [e]
  exact sumW_nx hW h (by have := hW.vn; omega)
theorem tot_nx {w u : Int → Int} (hW : WF w) (h : Nx w u) (e : u 281 = w 281) : tot u = tot w := by
  unfold tot
  rw [sumW_t hW h e]
theorem blk_nx {w u : Int → Int} (hW : WF w) (h : Nx w u) (e : u 281 = w 281) : blk u = blk w := by
  unfold blk
  rw [sumW_t hW h e]
theorem asg_nx {w u : Int → Int} (hW : WF w) (h : Nx w u) (e : u 281 = w 281) (N : Int) {v : Int} (v0 : 0 ≤ v) (v1 : v < w 281) : asg u N v = asg w N v := by
  have := hW.var v0 v1
  unfold asg plc
  rw [sumW_t hW h e, sumW_nx hW h (by omega), h.v v0 v1, h.n1 (by omega) (by omega)]
theorem va_nx {w u : Int → Int} (hW : WF w) (h : Nx w u) (e : u 281 = w 281) (N : Int) {n : Int} (hn : n < w 0) : vl u (asg u N) n = vl w (asg w N) n := by
  rw [vl_nx' hW h hn]
  exact vl_env' hW (fun v v0 v1 => asg_nx hW h e N v0 v1) hn
/-- the constraints are the same -/
def Cx (w u : Int → Int) : Prop := Box (u 281 = w 281 ∧ u 290 = w 290 ∧ ∀ k, 0 ≤ k → k < w 290 → u (291 + k) = w (291 + k))
theorem ful_nx {w u : Int → Int} (hW : WF w) (h : Nx w u) (c : Cx w u) (N : Int) : ∀ k : Nat, (k : Int) ≤ w 290 → fulW u N k = fulW w N k := by
  intro k
  induction k with
  | zero => intro _; rfl
  | succ k ih =>
    intro hk
    have q := hW.con (k := k) (by omega) (by omega)
    show fulW u N k + vl u (asg u N) (u (291 + (k : Int))) * p2 k = fulW w N k + vl w (asg w N) (w (291 + (k : Int))) * p2 k
    rw [ih (by omega), c.o.2.2 k (by omega) (by omega), va_nx hW h c.o.1 N q.2.1]
theorem mdl_nx {w u : Int → Int} (hW : WF w) (h : Nx w u) (c : Cx w u) (N : Int) : mdl u N = mdl w N := by
  unfold mdl
  rw [c.o.2.1, ful_nx hW h c N _ (by have := hW.cn; omega)]
theorem nxt_nx {w u : Int → Int} (hW : WF w) (h : Nx w u) (c : Cx w u) (m : Int) : nxt u m = nxt w m := by
  unfold nxt
  rw [tot_nx hW h c.o.1]
  exact fst_congr fun j _ _ => by rw [mdl_nx hW h c j]
theorem mdT_nx {w u : Int → Int} (hW : WF w) (h : Nx w u) (c : Cx w u) (N : Int) : mdT u N = mdT w N := by
  unfold mdT
  rw [tot_nx hW h c.o.1, mdl_nx hW h c N]
theorem SK.nx {w u F : Int → Int} {L : Int → Int64} (hW : WF w) (h : Nx w u) (c : Cx w u) (k : SK w F L) : SK u F L := Box.i fun q => by
  obtain ⟨k1, k2, k3⟩ := k.o q
  refine ⟨k1, by rw [nxt_nx hW h c]; exact k2, Box.i fun B b0 b1 l l0 => ?_⟩
  rw [blk_nx hW h c.o.1] at b1
  rw [mdT_nx hW h c]
  exact k3.o B b0 b1 l l0
/-! all that holds of a row -/
theorem Ev.nx {w u env : Int → Int} (hW : WF w) (h : Nx w u) (e : u 281 = w 281) (he : Ev w env) {env' : Int → Int} (h2 : ∀ v, 0 ≤ v → v < w 281 → env' v = env v) : Ev u env' := Box.i fun v v0 v1 => by
  rw [e] at v1
  have := hW.var v0 v1
  rw [h2 v v0 v1, h.v v0 v1, h.n1 (by omega) (by omega)]
  exact he.o v v0 v1
def ConP (u : Int → Int) : Prop := Box ((0 ≤ u 290 ∧ u 290 ≤ 20) ∧ ∀ k, 0 ≤ k → k < u 290 → 0 ≤ u (291 + k) ∧ u (291 + k) < u 0 ∧ nd u (u (291 + k)) 1 = 1 ∧ 0 ≤ u (311 + k) ∧ u (311 + k) ≤ 5)
def WisP (u : Int → Int) : Prop := Box ((0 ≤ u 332 ∧ u 332 ≤ 8) ∧ ∀ k, 0 ≤ k → k < u 332 → 0 ≤ u (333 + k) ∧ u (333 + k) < u 0 ∧ nd u (u (333 + k)) 1 = 1 ∧ 1 ≤ u (341 + k) ∧ u (341 + k) ≤ 9)
theorem ConP.nx {w u : Int → Int} (hW : WF w) (h : Nx w u) (e : u 290 = w 290) (e1 : ∀ k, 0 ≤ k → k < w 290 → u (291 + k) = w (291 + k) ∧ u (311 + k) = w (311 + k)) : ConP u := by
  have c := hW.cn
  refine Box.i ⟨by omega, fun k k0 k1 => ?_⟩
  rw [e] at k1
  have q := hW.con k0 k1
  have l := h.o.1
  rw [(e1 k k0 k1).1, (e1 k k0 k1).2, h.n1 (by omega) q.2.1]
  exact ⟨q.1, by omega, q.2.2⟩
theorem WisP.nx {w u : Int → Int} (hW : WF w) (h : Nx w u) (e : u 332 = w 332) (e1 : ∀ k, 0 ≤ k → k < w 332 → u (333 + k) = w (333 + k) ∧ u (341 + k) = w (341 + k)) : WisP u := by
  have c := hW.wn
  refine Box.i ⟨by omega, fun k k0 k1 => ?_⟩
  rw [e] at k1
  have q := hW.wish k0 k1
  have l := h.o.1
  rw [(e1 k k0 k1).1, (e1 k k0 k1).2, h.n1 (by omega) q.2.1]
  exact ⟨q.1, by omega, q.2.2⟩
theorem WF.gen {w u : Int → Int} (hW : WF w) (h : Nx w u) (h40 : u 0 ≤ 40) (e : u 281 = w 281) (hn : ∀ n, w 0 ≤ n → n < u 0 → WFn u n) (hc : ConP u) (hl : 0 ≤ u 331 ∧ u 331 ≤ 5) (hw : WisP u) (hi : Ev u (fun v => u (286 + v))) : WF u := by
  have q := hW.nn
  have l := h.o.1
  refine Box.i ⟨by omega, by rw [e]; exact hW.vn, fun n n0 n1 => ?_, fun v v0 v1 => ?_, by rw [sumW_t hW h e]; exact hW.s16, fun a b a0 ab b1 => ?_, hc.o.1, hc.o.2, hl, hw.o.1, hw.o.2, hi⟩
  · by_cases z : n < w 0
    · exact (hW.node n0 z).nx h n0 z
    · exact hn n (by omega) n1
  · rw [e] at v1
    have := hW.var v0 v1
    rw [h.v v0 v1, h.n this.1 this.2.1 (by decide) (by decide), h.n this.1 this.2.1 (by decide) (by decide)]
    exact ⟨this.1, by omega, this.2.2⟩
  · rw [e] at b1
    rw [h.v a0 (by omega), h.v (by omega) b1]
    exact hW.asc a0 ab b1
/-- nodes more, all else the same -/
theorem WF.ext {w u : Int → Int} (hW : WF w) (h : Nx w u) (h40 : u 0 ≤ 40) (e : ∀ j, 281 ≤ j → u j = w j) (hn : ∀ n, w 0 ≤ n → n < u 0 → WFn u n) : WF u := by
  refine hW.gen h h40 (e 281 (by decide)) hn (ConP.nx hW h (e 290 (by decide)) fun k k0 k1 => ⟨e _ (by omega), e _ (by omega)⟩) (by rw [e 331 (by decide)]; exact hW.lev) (WisP.nx hW h (e 332 (by decide)) fun k k0 k1 => ⟨e _ (by omega), e _ (by omega)⟩) (Ev.nx hW h (e 281 (by decide)) hW.inp fun v v0 v1 => e _ (by omega))
theorem Cx.e {w u : Int → Int} (hW : WF w) (e : ∀ j, 281 ≤ j → j ≠ 331 → j < 311 ∨ 331 < j → u j = w j) : Cx w u := by
  have := hW.cn
  exact Box.i ⟨e _ (by omega) (by omega) (by omega), e _ (by omega) (by omega) (by omega), fun k k0 k1 => e _ (by omega) (by omega) (by omega)⟩
theorem Pfx.i {w u : Int → Int} (hW : WF w) (h : Nx w u) (e : u 281 = w 281) : Pfx w u := by
  have q := hW.nn
  have v := hW.vn
  exact Box.i ⟨q.1, h.o.1, v.1, by omega, fun n j n0 n1 j0 j1 => (h.n n0 n1 j0 j1).symm, fun x x0 x1 => ⟨(h.v x0 x1).symm, (hW.var x0 x1).2.1⟩, fun x x0 x1 => by omega⟩

/-! ===== rows as the methods change them ===== -/
theorem GH.nx {h : Hp} {w u : Int → Int} (G : GH h w) (hW : WF w) (x : Nx w u) (e0 : u 0 = w 0) (e1 : u 281 = w 281) : GH h u := by
  obtain ⟨g1, g2, g3, g4⟩ := G.o
  refine Box.i ⟨by rw [e0]; exact g1, by rw [e1]; exact g2, fun n n0 n1 => ?_, fun v v0 v1 => ?_⟩
  · rw [e0] at n1
    rw [x.n n0 n1 (by decide) (by decide), x.n n0 n1 (by decide) (by decide), x.n n0 n1 (by decide) (by decide), x.n n0 n1 (by decide) (by decide), x.n n0 n1 (by decide) (by decide), x.n n0 n1 (by decide) (by decide), x.n n0 n1 (by decide) (by decide)]
    exact g3 n n0 n1
  · rw [e1] at v1
    rw [x.v v0 v1, sumW_nx hW x (by omega)]
    exact g4 v v0 v1
theorem CI.nw {h g : Hp} {w u ps : Int → Int} {s : Int} (c : CI h w ps s) (hW : WF u) (x : Nx w u) (e0 : u 0 = w 0) (e1 : u 281 = w 281) (e : ∀ a, (1 ≤ a ∧ a < 5) ∨ (11 ≤ a ∧ a < 43) → hI g a = hI h a) (r : hR g 12 = hR h 12) (S : St0 (hI g) 5 u) (k : SK u (hI g 46) (hJ g 47)) (n : RwN g) (t : hI g 49 = hI h 49 ∧ hI g 50 = hI h 50) : CI g u ps s := by
  refine Box.i ⟨?_, hW, S, ?_, k, n, ?_, ?_⟩
  · have := c.gh.nx c.wf x e0 e1
    unfold GH at *
    rw [e 1 (by omega), e 2 (by omega), e 3 (by omega), e 4 (by omega)]
    exact this
  · rw [r]
    exact HR.fc (fun q a b => e q (by omega)) c.hr
  · have := c.tl
    unfold TL at *
    rw [t.1]
    exact this
  · have := c.tx.o
    exact Box.i (by rw [t.1, t.2]; exact this)
/-- a row changed behind 286 alone -/
def Hi (w u : Int → Int) : Prop := Box (∀ j, j < 286 → u j = w j)
theorem Hi.nx {w u : Int → Int} (hW : WF w) (h : Hi w u) : Nx w u ∧ u 0 = w 0 ∧ u 281 = w 281 := by
  have q := hW.nn
  have v := hW.vn
  have e0 := h.o 0 (by decide)
  have e1 := h.o 281 (by decide)
  exact ⟨Box.i ⟨by omega, fun n j n0 n1 j0 j1 => h.o _ (by omega), by omega, fun v v0 v1 => h.o _ (by omega), fun j hj => h.o _ (by omega)⟩, e0, e1⟩
def inW (w : Int → Int) (v x : Int) : Int → Int := up w (286 + v) x
theorem inW_f {w : Int → Int} {v x : Int} {j : Int} (h : j ≠ 286 + v) : inW w v x j = w j := up_ne h
theorem Hi.inp {w : Int → Int} {v x : Int} (v0 : 0 ≤ v) : Hi w (inW w v x) := Box.i fun j h => up_ne (by omega)
theorem Hi.req {w : Int → Int} (hW : WF w) (n : Int) : Hi w (reqW w n) := Box.i fun j h => by
  have := hW.cn
  show up (up (up w _ _) _ _) 290 _ j = _
  rw [up_ne (by omega), up_ne (by omega), up_ne (by omega)]
theorem Hi.lev (w : Int → Int) (x : Int) : Hi w (up w 331 x) := Box.i fun j h => up_ne (by omega)
theorem Hi.clr (w : Int → Int) (x : Int) : Hi w (up w 332 x) := Box.i fun j h => up_ne (by omega)
theorem Hi.pop (w : Int → Int) : Hi w (popW w) := Box.i fun j h => by
  show up (up w _ _) 331 _ j = _
  rw [up_ne (by omega), up_ne (by omega)]
theorem Hi.wish {w : Int → Int} (hW : WF w) (n x : Int) : Hi w (wishW w n x) := Box.i fun j h => by
  have := hW.wn
  show up (up (up w _ _) _ _) 332 _ j = _
  rw [up_ne (by omega), up_ne (by omega), up_ne (by omega)]
theorem Hi.wf {w u : Int → Int} (hW : WF w) (h : Hi w u) (hc : ConP u) (hl : 0 ≤ u 331 ∧ u 331 ≤ 5) (hw : WisP u) (hi : Ev u (fun v => u (286 + v))) : WF u := by
  obtain ⟨x, e0, e1⟩ := h.nx hW
  have q := hW.nn
  exact hW.gen x (by omega) e1 (fun n n0 n1 => by omega) hc hl hw hi
theorem WF.inp' {w : Int → Int} (hW : WF w) {v x : Int} (v0 : 0 ≤ v) (v1 : v < w 281) (x0 : 0 ≤ x) (x1 : x < p2 (nd w (w (282 + v)) 1)) : WF (inW w v x) := by
  have vn := hW.vn
  have cn := hW.cn
  have wn := hW.wn
  obtain ⟨y, e0, e1⟩ := (Hi.inp (w := w) (x := x) v0).nx hW
  refine (Hi.inp v0).wf hW (ConP.nx hW y (inW_f (by omega)) fun k k0 k1 => ⟨inW_f (by omega), inW_f (by omega)⟩) (by rw [inW_f (by omega)]; exact hW.lev) (WisP.nx hW y (inW_f (by omega)) fun k k0 k1 => ⟨inW_f (by omega), inW_f (by omega)⟩) (Box.i fun a a0 a1 => ?_)
  rw [e1] at a1
  have va := hW.var a0 a1
  rw [y.v a0 a1, y.n va.1 va.2.1 (by decide) (by decide)]
  show 0 ≤ inW w v x (286 + a) ∧ inW w v x (286 + a) < _
  by_cases e : a = v
  · subst e
    unfold inW
    rw [up_self]
    exact ⟨x0, x1⟩
  · rw [inW_f (by omega)]
    exact hW.inp.o a a0 a1
theorem WF.req {w : Int → Int} (hW : WF w) {n : Int} (n0 : 0 ≤ n) (n1 : n < w 0) (hd : nd w n 1 = 1) (hc : w 290 < 20) : WF (reqW w n) := by
  have vn := hW.vn
  have cn := hW.cn
  have wn := hW.wn
  have ln := hW.lev
  obtain ⟨y, e0, e1⟩ := (Hi.req hW n).nx hW
  have f : ∀ j, j ≠ 290 → j ≠ 291 + w 290 → j ≠ 311 + w 290 → reqW w n j = w j := fun j a b c => by
    show up (up (up w _ _) _ _) 290 _ j = _
    rw [up_ne a, up_ne c, up_ne b]
  have r290 : reqW w n 290 = w 290 + 1 := up_self _ _ _
  refine (Hi.req hW n).wf hW (Box.i ⟨by omega, fun k k0 k1 => ?_⟩) (by rw [f 331 (by omega) (by omega) (by omega)]; exact ln) (WisP.nx hW y (f _ (by omega) (by omega) (by omega)) fun k k0 k1 => ⟨f _ (by omega) (by omega) (by omega), f _ (by omega) (by omega) (by omega)⟩) (Ev.nx hW y e1 hW.inp fun v v0 v1 => f _ (by omega) (by omega) (by omega))
  rw [r290] at k1
  rw [e0]
  by_cases e : k = w 290
  · subst e
    have a1 : reqW w n (291 + w 290) = n := by
      show up (up (up w _ _) _ _) 290 _ _ = _
      rw [up_ne (by omega), up_ne (by omega), up_self]
    have a2 : reqW w n (311 + w 290) = w 331 := by
      show up (up (up w _ _) _ _) 290 _ _ = _
      rw [up_ne (by omega), up_self]
    rw [a1, a2, y.n n0 n1 (by decide) (by decide)]
    exact ⟨n0, n1, hd, ln⟩
  · have c := hW.con (k := k) k0 (by omega)
    rw [f (291 + k) (by omega) (by omega) (by omega), f (311 + k) (by omega) (by omega) (by omega), y.n c.1 c.2.1 (by decide) (by decide)]
    exact c
theorem WF.levx {w : Int → Int} (hW : WF w) {x : Int} (x0 : 0 ≤ x) (x5 : x ≤ 5) : WF (up w 331 x) := by
  have vn := hW.vn
  have cn := hW.cn
  have wn := hW.wn
  obtain ⟨y, e0, e1⟩ := (Hi.lev w x).nx hW
  have f : ∀ j, j ≠ 331 → up w 331 x j = w j := fun j a => up_ne a
  exact (Hi.lev w x).wf hW (ConP.nx hW y (f _ (by omega)) fun k k0 k1 => ⟨f _ (by omega), f _ (by omega)⟩) (by rw [up_self]; exact ⟨x0, x5⟩) (WisP.nx hW y (f _ (by omega)) fun k k0 k1 => ⟨f _ (by omega), f _ (by omega)⟩) (Ev.nx hW y e1 hW.inp fun v v0 v1 => f _ (by omega))
theorem WF.pop {w : Int → Int} (hW : WF w) (hl : w 331 ≠ 0) : WF (popW w) := by
  have vn := hW.vn
  have cn := hW.cn
  have wn := hW.wn
  have ln := hW.lev
  have l := lft_le w (w 290).toNat
  obtain ⟨y, e0, e1⟩ := (Hi.pop w).nx hW
  have f : ∀ j, j ≠ 331 → j ≠ 290 → popW w j = w j := fun j a b => by
    show up (up w _ _) 331 _ j = _
    rw [up_ne a, up_ne b]
  have r290 : popW w 290 = lft w (w 290).toNat := by
    show up (up w _ _) 331 _ 290 = _
    rw [up_ne (by decide), up_self]
  have r331 : popW w 331 = w 331 - 1 := up_self _ _ _
  refine (Hi.pop w).wf hW (Box.i ⟨by omega, fun k k0 k1 => ?_⟩) (by omega) (WisP.nx hW y (f _ (by omega) (by omega)) fun k k0 k1 => ⟨f _ (by omega) (by omega), f _ (by omega) (by omega)⟩) (Ev.nx hW y e1 hW.inp fun v v0 v1 => f _ (by omega) (by omega))
  rw [r290] at k1
  have c := hW.con (k := k) k0 (by omega)
  rw [e0, f (291 + k) (by omega) (by omega), f (311 + k) (by omega) (by omega), y.n c.1 c.2.1 (by decide) (by decide)]
  exact c
theorem WF.wishx {w : Int → Int} (hW : WF w) {n x : Int} (n0 : 0 ≤ n) (n1 : n < w 0) (hd : nd w n 1 = 1) (x0 : 1 ≤ x) (x9 : x ≤ 9) (hc : w 332 < 8) : WF (wishW w n x) := by
  have vn := hW.vn
  have cn := hW.cn
  have wn := hW.wn
  obtain ⟨y, e0, e1⟩ := (Hi.wish hW n x).nx hW
  have f : ∀ j, j ≠ 332 → j ≠ 333 + w 332 → j ≠ 341 + w 332 → wishW w n x j = w j := fun j a b c => by
    show up (up (up w _ _) _ _) 332 _ j = _
    rw [up_ne a, up_ne c, up_ne b]
  have r332 : wishW w n x 332 = w 332 + 1 := up_self _ _ _
  refine (Hi.wish hW n x).wf hW (ConP.nx hW y (f _ (by omega) (by omega) (by omega)) fun k k0 k1 => ⟨f _ (by omega) (by omega) (by omega), f _ (by omega) (by omega) (by omega)⟩) (by rw [f 331 (by omega) (by omega) (by omega)]; exact hW.lev) (Box.i ⟨by omega, fun k k0 k1 => ?_⟩) (Ev.nx hW y e1 hW.inp fun v v0 v1 => f _ (by omega) (by omega) (by omega))
  rw [r332] at k1
  rw [e0]
  by_cases e : k = w 332
  · subst e
    have a1 : wishW w n x (333 + w 332) = n := by
      show up (up (up w _ _) _ _) 332 _ _ = _
      rw [up_ne (by omega), up_ne (by omega), up_self]
    have a2 : wishW w n x (341 + w 332) = x := by
      show up (up (up w _ _) _ _) 332 _ _ = _
      rw [up_ne (by omega), up_self]
    rw [a1, a2, y.n n0 n1 (by decide) (by decide)]
    exact ⟨n0, n1, hd, x0, x9⟩
  · have c := hW.wish (k := k) k0 (by omega)
    rw [f (333 + k) (by omega) (by omega) (by omega), f (341 + k) (by omega) (by omega) (by omega), y.n c.1 c.2.1 (by decide) (by decide)]
    exact c
theorem WF.clr {w : Int → Int} (hW : WF w) : WF (up w 332 0) := by
  have vn := hW.vn
  have cn := hW.cn
  have wn := hW.wn
  obtain ⟨y, e0, e1⟩ := (Hi.clr w 0).nx hW
  have f : ∀ j, j ≠ 332 → up w 332 0 j = w j := fun j a => up_ne a
  exact (Hi.clr w 0).wf hW (ConP.nx hW y (f _ (by omega)) fun k k0 k1 => ⟨f _ (by omega), f _ (by omega)⟩) (by rw [f 331 (by decide)]; exact hW.lev) (Box.i ⟨by rw [up_self]; omega, fun k k0 k1 => by rw [up_self] at k1; omega⟩) (Ev.nx hW y e1 hW.inp fun v v0 v1 => f _ (by omega))
theorem Hi.pfx {w u : Int → Int} (hW : WF w) (h : Hi w u) : Pfx w u := by
  obtain ⟨x, e0, e1⟩ := h.nx hW
  exact Pfx.i hW x e1
theorem SK.no {w F : Int → Int} {L : Int → Int64} (h : F 4 = 0) : SK w F L := Box.i fun z => absurd h z

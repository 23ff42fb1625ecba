/-! ===== what holds as the law goes on ===== -/
/-- the first nodes are k variables, m wide together; nothing else is there -/
def Vs (w : Int → Int) (k m : Int) : Prop := Box (Uq w ∧ w 0 = k ∧ w 281 = k ∧ sumW w k.toNat ≤ m ∧ (0 < k → 2 ≤ nd w 0 1) ∧ w 331 = 0 ∧ w 290 = 0 ∧ w 332 = 0)
theorem sumW_cg1 {w u : Int → Int} (k : Nat) (h : ∀ v, 0 ≤ v → v < (k : Int) → nd u (u (282 + v)) 1 = nd w (w (282 + v)) 1) : sumW u k = sumW w k := by
  induction k with
  | zero => rfl
  | succ k ih => rw [sumW_succ, sumW_succ, ih fun v v0 v1 => h v v0 (by omega), h k (by omega) (by omega)]
theorem Vs.var {w : Int → Int} {k m wd : Int} (h : Vs w k m) (hW : WF w) (k3 : k ≤ 3) (w1 : 1 ≤ wd) (z : k = 0 → 2 ≤ wd) : Vs (varN w wd) (k + 1) (m + wd) := by
  obtain ⟨hU, e0, e1, e2, e3, e4, e5, e6⟩ := h.o
  have q := hW.nn
  have vn := hW.vn
  obtain ⟨f1, f2, f3, f4, f5, f6, d0, d1, d2, d3, d4, d5, d6⟩ := varN_f (w := w) wd q.1 (by omega) vn.1 (by omega)
  refine Box.i ⟨Box.i fun a b a0 ab b1 => ?_, by omega, by omega, ?_, fun _ => ?_, ?_, ?_, ?_⟩
  · rw [f1] at b1
    by_cases y : b < w 0
    · rw [f6 a 0 a0 (by omega) (by decide) (by decide), f6 a 1 a0 (by omega) (by decide) (by decide), f6 a 2 a0 (by omega) (by decide) (by decide), f6 a 3 a0 (by omega) (by decide) (by decide), f6 a 4 a0 (by omega) (by decide) (by decide), f6 a 5 a0 (by omega) (by decide) (by decide), f6 a 6 a0 (by omega) (by decide) (by decide)]
      rw [f6 b 0 (by omega) y (by decide) (by decide), f6 b 1 (by omega) y (by decide) (by decide), f6 b 2 (by omega) y (by decide) (by decide), f6 b 3 (by omega) y (by decide) (by decide), f6 b 4 (by omega) y (by decide) (by decide), f6 b 5 (by omega) y (by decide) (by decide), f6 b 6 (by omega) y (by decide) (by decide)]
      exact hU.o a b a0 ab y
    · obtain rfl : b = w 0 := by omega
      rintro ⟨p0, -, -, -, -, p5, -⟩
      rw [d0, f6 a 0 a0 ab (by decide) (by decide)] at p0
      rw [d5, f6 a 5 a0 ab (by decide) (by decide)] at p5
      have := (hW.node a0 ab).o.2.2.2.2.1 p0
      omega
  · rw [show (k + 1).toNat = k.toNat + 1 by omega, sumW_succ, show ((k.toNat : Nat) : Int) = w 281 by omega, f3, d1]
    have : sumW (varN w wd) k.toNat = sumW w k.toNat := sumW_cg1 _ fun v v0 v1 => by
      have vv := hW.var (v := v) v0 (by omega)
      rw [f5 _ (by omega) (by omega) (by omega), f6 _ _ vv.1 vv.2.1 (by decide) (by decide)]
    omega
  · by_cases y : k = 0
    · have : w 0 = 0 := by omega
      rw [this] at d1
      rw [d1]
      exact z y
    · rw [f6 0 1 (by decide) (by omega) (by decide) (by decide)]
      exact e3 (by omega)
  · rw [f5 331 (by omega) (by omega) (by omega)]; exact e4
  · rw [f5 290 (by omega) (by omega) (by omega)]; exact e5
  · rw [f5 332 (by omega) (by omega) (by omega)]; exact e6
theorem Vs.z : Vs (fun _ => 0) 0 0 := Box.i ⟨Uq.z rfl, rfl, rfl, Int.le_refl _, fun h => absurd h (by decide), rfl, rfl, rfl⟩
theorem q_var {h : Hp} {w ps : Int → Int} {s k m wd : Int} (hC : CI h w ps s) (v : Vs w k m) (k3 : k ≤ 3) (w1 : 1 ≤ wd) (w8 : wd ≤ 8) (m16 : m + wd ≤ 16) : s_X9_variable.2 [aX 0, .inl wd] h (Rq k h (varN w wd) (svPp ps s w) (svS s)) NoX := by
  obtain ⟨hU, e0, e1, e2, e3', e4, e5, e6⟩ := v.o
  refine e3 w ps s ⟨hC, fun y => absurd ⟨w1, w8⟩ y, fun _ y => ?_, fun _ _ => ?_⟩
  · rw [show w 281 = k by omega] at y
    omega
  · rw [show w 0 = k by omega]
    exact Rq.go
/-- the law's invariant: at most t constraints and wishes -/
def Iv (w : Int → Int) (t : Int) : Prop := Box (Uq w ∧ 2 ≤ w 0 ∧ w 0 ≤ 38 ∧ 2 ≤ nd w 0 1 ∧ w 331 = 0 ∧ 0 < w 281 ∧ w 290 + w 332 ≤ t ∧ ∀ j, 0 ≤ j → j < w 290 → w (311 + j) = 0)
theorem Vs.iv {w : Int → Int} {k m : Int} (h : Vs w k m) (k2 : 2 ≤ k) (k4 : k ≤ 4) : Iv w 0 := by
  obtain ⟨hU, e0, e1, e2, e3, e4, e5, e6⟩ := h.o
  exact Box.i ⟨hU, by omega, by omega, e3 (by omega), e4, by omega, by omega, fun j j0 j1 => by omega⟩
theorem Iv.ref {w : Int → Int} {t : Int} (h : Iv w t) : 0 < w 0 ∧ 2 ≤ nd w 0 1 ∧ w 331 = 0 ∧ 0 < w 281 := by
  obtain ⟨a1, a2, a3, a4, a5, a6, a7, a8⟩ := h.o
  exact ⟨by omega, a4, a5, a6⟩
theorem Iv.hi {w u : Int → Int} {t : Int} (h : Iv w t) (x : Nx w u) (e : ∀ j, 290 ≤ j → u j = w j) (hU : Uq u) (l : u 0 ≤ 38) : Iv u t := by
  obtain ⟨a1, a2, a3, a4, a5, a6, a7, a8⟩ := h.o
  have x1 := x.o
  refine Box.i ⟨hU, by omega, l, ?_, ?_, by omega, ?_, fun j j0 j1 => ?_⟩
  · rw [x.n (by decide) (by omega) (by decide) (by decide)]; exact a4
  · rw [e _ (by decide)]; exact a5
  · rw [e _ (by decide), e _ (by decide)]; exact a7
  · rw [e _ (by decide)] at j1
    rw [e _ (by omega)]
    exact a8 j j0 j1
theorem Iv.gw {w u : Int → Int} {t : Int} (h : Iv w t) (g : Gw w u) : Iv u t := by
  obtain ⟨g1, g2, g3, g4, g5⟩ := g.o
  have := h.o.2.2.1
  exact h.hi g1 (fun j hj => g2 j (by omega)) g3 (by omega)
theorem Iv.gr {w u : Int → Int} {t d : Int} (h : Iv w t) (g : Gr w u d) (l : w 0 + d ≤ 38) : Iv u t := by
  obtain ⟨g1, g2, g3, g4, g5⟩ := g.o
  exact h.hi g1 (fun j hj => g2 j (by omega)) g3 (by omega)
theorem Iv.ipt {w u : Int → Int} {t : Int} (h : Iv w t) (hW : WF w) (g : Ipt w u) : Iv u t := by
  obtain ⟨x, e0, e1⟩ := g.nx hW
  have := h.o.2.2.1
  exact h.hi x (fun j hj => g.o j (Or.inr hj)) (h.o.1.nx x e0) (by omega)
theorem Iv.le {w : Int → Int} {t r : Int} (h : Iv w t) (l : t ≤ r) : Iv w r := by
  obtain ⟨a1, a2, a3, a4, a5, a6, a7, a8⟩ := h.o
  exact Box.i ⟨a1, a2, a3, a4, a5, a6, by omega, a8⟩
theorem req_f {w : Int → Int} (n : Int) (c0 : 0 ≤ w 290) (c1 : w 290 < 20) : reqW w n 290 = w 290 + 1 ∧ reqW w n (291 + w 290) = n ∧ reqW w n (311 + w 290) = w 331 ∧ ∀ j, j ≠ 290 → j ≠ 291 + w 290 → j ≠ 311 + w 290 → reqW w n j = w j := by
  unfold reqW
  refine ⟨up_self .., ?_, ?_, fun j a b c => ?_⟩
  · rw [up_ne (by omega), up_ne (by omega), up_self]
  · rw [up_ne (by omega), up_self]
  · rw [up_ne a, up_ne c, up_ne b]
theorem Iv.req {w : Int → Int} {t : Int} (h : Iv w t) (hW : WF w) (t5 : t ≤ 5) (n : Int) : Iv (reqW w n) (t + 1) := by
  obtain ⟨a1, a2, a3, a4, a5, a6, a7, a8⟩ := h.o
  have cn := hW.cn
  have wn := hW.wn
  obtain ⟨x, e0, e1⟩ := (Hi.req hW n).nx hW
  obtain ⟨f1, f2, f3, f4⟩ := req_f (w := w) n cn.1 (by omega)
  refine Box.i ⟨a1.nx x e0, by omega, by omega, ?_, ?_, by omega, ?_, fun j j0 j1 => ?_⟩
  · rw [x.n (by decide) (by omega) (by decide) (by decide)]; exact a4
  · rw [f4 331 (by decide) (by omega) (by omega)]; exact a5
  · rw [f1, f4 332 (by decide) (by omega) (by omega)]; omega
  · rw [f1] at j1
    by_cases y : j = w 290
    · rw [y, f3]; exact a5
    · rw [f4 _ (by omega) (by omega) (by omega)]
      exact a8 j j0 (by omega)
theorem Iv.wish {w : Int → Int} {t : Int} (h : Iv w t) (hW : WF w) (t5 : t ≤ 5) (n y : Int) : Iv (wishW w n y) (t + 1) := by
  obtain ⟨a1, a2, a3, a4, a5, a6, a7, a8⟩ := h.o
  have cn := hW.cn
  have wn := hW.wn
  obtain ⟨x, e0, e1⟩ := (Hi.wish hW n y).nx hW
  have f1 : wishW w n y 332 = w 332 + 1 := up_self ..
  have f4 : ∀ j, j ≠ 332 → j < 333 → wishW w n y j = w j := fun j a b => by
    unfold wishW
    rw [up_ne a, up_ne (by omega), up_ne (by omega)]
  refine Box.i ⟨a1.nx x e0, by omega, by omega, ?_, ?_, by omega, ?_, fun j j0 j1 => ?_⟩
  · rw [x.n (by decide) (by omega) (by decide) (by decide)]; exact a4
  · rw [f4 331 (by decide) (by decide)]; exact a5
  · rw [f1, f4 290 (by decide) (by decide)]; omega
  · rw [f4 290 (by decide) (by decide)] at j1
    rw [f4 _ (by omega) (by omega)]
    exact a8 j j0 j1
section Q
variable {h : Hp} {w ps : Int → Int} {s : Int}
theorem q_req (hC : CI h w ps s) {n : Int} (z : 0 ≤ n ∧ n < w 0) (y : nd w n 1 = 1) (x : w 290 < 20) : s_X9_require.2 [aX 0, .inl n] h (Rq (w 290) h (reqW w n) (svPp ps s w) (svS s)) NoX := e3 w ps s ⟨hC, fun q => absurd z q, fun _ q => absurd y q, fun _ _ q => absurd q (by omega), fun _ _ _ => Rq.go⟩
theorem q_wish (hC : CI h w ps s) {n a : Int} (z : 0 ≤ n ∧ n < w 0) (y : nd w n 1 = 1 ∧ 1 ≤ a ∧ a ≤ 9) (x : w 332 < 8) : s_X9_wish.2 [aX 0, .inl n, .inl a] h (Rq (w 332 + 1) h (wishW w n a) (svPp ps s w) (svS s)) NoX := e3 w ps s ⟨hC, fun q => absurd z q, fun _ q => absurd y q, fun _ _ q => absurd q (by omega), fun _ _ _ => Rq.go⟩
theorem q_push (hC : CI h w ps s) (z : w 331 = 0) : s_X9_push.2 [aX 0] h (Rq 1 h (up w 331 1) (svPp ps s w) (svS s)) NoX := e3 w ps s ⟨hC, fun q => absurd q (by omega), fun _ => by
  rw [z]
  exact Rq.go⟩
theorem q_pop (hC : CI h w ps s) (z : w 331 ≠ 0) : s_X9_pop.2 [aX 0] h (Rq (w 290 - lft w (w 290).toNat) h (popW w) (svPp ps s w) (svS s)) NoX := e3 w ps s ⟨hC, fun q => absurd q z, fun _ => Rq.go⟩
theorem q_level (hC : CI h w ps s) {k : Int} (z : 0 ≤ k ∧ k < w 290) : s_X9_constraint.2 [aX 0, .inl k, .inl 1] h (fun r g => r = some (.inl (w (311 + k))) ∧ g = h) NoX := e3 w ps s ⟨hC, fun q => absurd z q, fun _ _ => ⟨rfl, rfl⟩, fun _ q => absurd q (by decide)⟩
theorem q_undo (hC : CI h w ps s) {u : Int → Int} (z : s ≠ 0) (hU : WF u) (x : Pfx u w) (e : ∀ j, 0 ≤ j → j < 349 → rowP ps (s - 1) j = u j) : s_X9_undo.2 [aX 0] h (Rq (s - 1) h u ps (s - 1)) NoX := e3 w ps s ⟨hC, fun q => absurd q z, fun _ => ⟨u, hU, x, fun j j0 j1 => (e j j0 j1).symm, Rq.go⟩⟩
theorem q_refused (hC : CI h w ps s) (z : 0 < w 0 ∧ 2 ≤ nd w 0 1 ∧ w 331 = 0 ∧ 0 < w 281) : s_L_refused.2 [aX 0] h (Rq 1 h w ps s) NoX := e3 w ps s ⟨hC, z, Rq.go⟩
theorem q_isText (hC : CI h w ps s) {n : Int} (z : 0 ≤ n ∧ n < w 0) (hU : Uq w) : s_L_isText.2 [aX 0, .inl n] h (fun r g => r = some (.inl 1) ∧ ∃ qs t, CI g w qs t) NoX := e3 w ps s ⟨hC, ⟨z.1, z.2, hU⟩, fun g p t c _ => ⟨rfl, p, t, c⟩⟩
theorem q_areM (hC : CI h w ps s) {n : Int} (z : 0 ≤ n ∧ n < w 0) : s_L_areModels.2 [aX 0, .inl n] h (fun r g => r = some (.inl 1) ∧ ∃ u qs t, CI g u qs t ∧ Ipt w u) NoX := e3 w ps s ⟨hC, z, fun g u p t c _ i => ⟨rfl, u, p, t, c, i⟩⟩
end Q
theorem CI.s5 {h : Hp} {w ps : Int → Int} {s : Int} (c : CI h w ps s) : 0 ≤ s ∧ s ≤ 5 := ⟨c.hr.o.2.1, c.hr.o.2.2.1⟩
theorem svS_r {s : Int} (s0 : 0 ≤ s) (s5 : s ≤ 5) : 1 ≤ svS s ∧ svS s ≤ 5 := by
  unfold svS
  split <;> omega
/-- the newest saved row -/
theorem rowP_1 {ps w : Int → Int} {s : Int} (s0 : 0 ≤ s) (s5 : s ≤ 5) : ∀ j, 0 ≤ j → j < 349 → rowP (svPp ps s w) (svS s - 1) j = w j := fun j j0 j1 => by
  unfold rowP svPp svS pPut
  by_cases z : s = 5
  · rw [if_pos z, if_pos z, if_pos (by omega)]
    congr 1
    omega
  · rw [if_neg z, if_neg z, if_pos (by omega)]
    congr 1
    omega
/-- the one before it -/
theorem rowP_2 {ps w : Int → Int} {s : Int} (s0 : 1 ≤ s) (s5 : s ≤ 5) : ∀ j, 0 ≤ j → j < 349 → rowP (svPp ps s w) (svS s - 1 - 1) j = rowP ps (s - 1) j := fun j j0 j1 => by
  unfold rowP svPp svS pPut pSh
  by_cases z : s = 5
  · rw [if_pos z, if_pos z, if_neg (by omega), if_pos (by omega)]
    congr 1
    omega
  · rw [if_neg z, if_neg z, if_neg (by omega)]
    congr 1
    omega
theorem svS_2 {s : Int} (s0 : 1 ≤ s) (s5 : s ≤ 5) : svS s - 1 ≠ 0 := by
  unfold svS
  split <;> omega
/-- the constant that is never fulfilled -/
theorem c0_q {w : Int → Int} (hW : WF w) (hU : Uq w) (hc : w 0 < 40) : (mk1 w 0 1 (-1) (-1) (-1) 0 (-1)).1 ≠ -1 ∧ Gr w (mk1 w 0 1 (-1) (-1) (-1) 0 (-1)).2 1 ∧ 0 ≤ (mk1 w 0 1 (-1) (-1) (-1) 0 (-1)).1 ∧ (mk1 w 0 1 (-1) (-1) (-1) 0 (-1)).1 < (mk1 w 0 1 (-1) (-1) (-1) 0 (-1)).2 0 ∧ nd (mk1 w 0 1 (-1) (-1) (-1) 0 (-1)).2 (mk1 w 0 1 (-1) (-1) (-1) 0 (-1)).1 0 = 0 ∧ nd (mk1 w 0 1 (-1) (-1) (-1) 0 (-1)).2 (mk1 w 0 1 (-1) (-1) (-1) 0 (-1)).1 1 = 1 ∧ nd (mk1 w 0 1 (-1) (-1) (-1) 0 (-1)).2 (mk1 w 0 1 (-1) (-1) (-1) 0 (-1)).1 5 = 0 := by
  have n0 := hW.nn.1
  have q := mk1_q (k := 0) (wd := 1) (a := -1) (b := -1) (c := -1) (x := 0) (y := -1) n0 hU hc
  refine ⟨q.1, q.2.1, q.2.2.1, q.2.2.2.1, ?_, q.2.2.2.2, ?_⟩
  · unfold mk1
    by_cases e : found w 0 1 (-1) (-1) (-1) 0 (-1) = -1
    · rw [if_neg (fun q => q e), if_pos hc]
      exact (newN_n w 0 1 (-1) (-1) (-1) 0 (-1) n0).1
    · rw [if_pos e]
      have q := (fst_some e).2.2.1
      have q : same w 0 1 (-1) (-1) (-1) 0 (-1) (found w 0 1 (-1) (-1) (-1) 0 (-1)) = true := q
      exact (of_decide_eq_true q).1
  · unfold mk1
    by_cases e : found w 0 1 (-1) (-1) (-1) 0 (-1) = -1
    · rw [if_neg (fun q => q e), if_pos hc]
      exact (newN_n w 0 1 (-1) (-1) (-1) 0 (-1) n0).2.2.2.2.2.1
    · rw [if_pos e]
      have q := (fst_some e).2.2.1
      have q : same w 0 1 (-1) (-1) (-1) 0 (-1) (found w 0 1 (-1) (-1) (-1) 0 (-1)) = true := q
      exact (of_decide_eq_true q).2.2.2.2.2.1
/-- what is known when the constant is there -/
def C0 (w : Int → Int) (x : Int) (u : Int → Int) : Prop := Gr w u 1 ∧ 0 ≤ x ∧ x < u 0 ∧ nd u x 0 = 0 ∧ nd u x 1 = 1 ∧ nd u x 5 = 0
theorem q_const0 {h : Hp} {w ps : Int → Int} {s : Int} (hC : CI h w ps s) (hU : Uq w) (hc : w 0 < 40) : s_X9_constant.2 [aX 0, .inl 1, .inl 0] h (Re h (C0 w)) NoX := e3 w ps s ⟨hC, fun y => absurd (by decide) y, fun _ => by
  have q := c0_q hC.wf hU hc
  exact ⟨fun e => absurd e q.1, fun _ g c k => ⟨_, _, _, _, rfl, c, k, q.2⟩⟩⟩
theorem no_model {w : Int → Int} (hW : WF w) {k : Int} (k0 : 0 ≤ k) (k1 : k < w 290) (z : nd w (w (291 + k)) 0 = 0) (y : nd w (w (291 + k)) 5 = 0) : nxt w 0 = -1 := nxt_no fun N _ _ _ => by
  cases e : mdl w N with
  | false => rfl
  | true =>
    have q := (mdl_iff hW).mp e k k0 k1
    have c := hW.con k0 k1
    rw [vl_eq' c.1 (hW.node c.1 c.2.1)] at q
    unfold nV opV at q
    rw [if_pos z, y] at q
    exact absurd q (by decide)
theorem lft_1 {w : Int → Int} (h1 : w 331 = 1) {k : Nat} (e : w (311 + (k : Int)) = 1) (z : ∀ j, 0 ≤ j → j < (k : Int) → w (311 + j) = 0) : lft w (k + 1) = k := by
  rw [lft_s, if_pos (by omega)]
  cases k with
  | zero => rfl
  | succ k =>
    rw [lft_s, if_neg (by rw [z k (by omega) (by omega)]; omega)]
    omega

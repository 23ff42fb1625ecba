/-! ===== no node stands twice; nodes made ===== -/
def Uq (w : Int → Int) : Prop := Box (∀ a b, 0 ≤ a → a < b → b < w 0 → ¬ (nd w a 0 = nd w b 0 ∧ nd w a 1 = nd w b 1 ∧ nd w a 2 = nd w b 2 ∧ nd w a 3 = nd w b 3 ∧ nd w a 4 = nd w b 4 ∧ nd w a 5 = nd w b 5 ∧ nd w a 6 = nd w b 6))
theorem Uq.nx {w u : Int → Int} (h : Uq w) (x : Nx w u) (e : u 0 = w 0) : Uq u := Box.i fun a b a0 ab b1 => by
  rw [e] at b1
  have na := fun j => x.n (n := a) (j := j) a0 (by omega)
  have nb := fun j => x.n (n := b) (j := j) (by omega) b1
  rw [na 0 (by decide) (by decide), na 1 (by decide) (by decide), na 2 (by decide) (by decide), na 3 (by decide) (by decide), na 4 (by decide) (by decide), na 5 (by decide) (by decide), na 6 (by decide) (by decide), nb 0 (by decide) (by decide), nb 1 (by decide) (by decide), nb 2 (by decide) (by decide), nb 3 (by decide) (by decide), nb 4 (by decide) (by decide), nb 5 (by decide) (by decide), nb 6 (by decide) (by decide)]
  exact h.o a b a0 ab b1
theorem Uq.z {w : Int → Int} (h : w 0 = 0) : Uq w := Box.i fun a b a0 ab b1 => by omega
theorem Uq.found {w : Int → Int} (h : Uq w) {n : Int} (n0 : 0 ≤ n) (n1 : n < w 0) : CWordSolverLaw_law_r6868_1636c8.found w (nd w n 0) (nd w n 1) (nd w n 2) (nd w n 3) (nd w n 4) (nd w n 5) (nd w n 6) = n :=
  fst_hit n0 n1 (fst_none.mpr fun j hj => decide_eq_false (h.o j n (by omega) (by omega) n1)) (decide_eq_true ⟨rfl, rfl, rfl, rfl, rfl, rfl, rfl⟩)
theorem Uq.newN {w : Int → Int} {k wd a b c x y : Int} (h : Uq w) (n0 : 0 ≤ w 0) (e : CWordSolverLaw_law_r6868_1636c8.found w k wd a b c x y = -1) : Uq (CWordSolverLaw_law_r6868_1636c8.newN w k wd a b c x y) := Box.i fun p q p0 pq q1 => by
  rw [newN_0] at q1
  have np := fun j => newN_nd w k wd a b c x y (n := p) (j := j) p0 (by omega)
  rw [np 0 (by decide) (by decide), np 1 (by decide) (by decide), np 2 (by decide) (by decide), np 3 (by decide) (by decide), np 4 (by decide) (by decide), np 5 (by decide) (by decide), np 6 (by decide) (by decide)]
  by_cases z : q < w 0
  · have nq := fun j => newN_nd w k wd a b c x y (n := q) (j := j) (by omega) z
    rw [nq 0 (by decide) (by decide), nq 1 (by decide) (by decide), nq 2 (by decide) (by decide), nq 3 (by decide) (by decide), nq 4 (by decide) (by decide), nq 5 (by decide) (by decide), nq 6 (by decide) (by decide)]
    exact h.o p q p0 pq z
  · obtain rfl : q = w 0 := by omega
    obtain ⟨d0, d1, d2, d3, d4, d5, d6⟩ := newN_n w k wd a b c x y n0
    rw [d0, d1, d2, d3, d4, d5, d6]
    have f := fst_none.mp e p.toNat (by omega)
    rw [show ((p.toNat : Nat) : Int) = p by omega] at f
    exact of_decide_eq_false f
/-- rows with some nodes more -/
def Gr (w u : Int → Int) (d : Int) : Prop := Box (Nx w u ∧ (∀ j, 281 ≤ j → u j = w j) ∧ Uq u ∧ w 0 ≤ u 0 ∧ u 0 ≤ w 0 + d)
theorem Gr.rf {w : Int → Int} (h : Uq w) : Gr w w 0 := Box.i ⟨Nx.rf w, fun _ _ => rfl, h, Int.le_refl _, by omega⟩
theorem Gr.tr {w u x : Int → Int} {d e f : Int} (a : Gr w u d) (b : Gr u x e) (h : d + e ≤ f) : Gr w x f := by
  obtain ⟨a1, a2, a3, a4, a5⟩ := a.o
  obtain ⟨b1, b2, b3, b4, b5⟩ := b.o
  exact Box.i ⟨a1.tr b1, fun j hj => (b2 j hj).trans (a2 j hj), b3, by omega, by omega⟩
theorem Gr.uq {w u : Int → Int} {d : Int} (a : Gr w u d) : Uq u := a.o.2.2.1
theorem Gr.n0 {w u : Int → Int} {d : Int} (a : Gr w u d) : w 0 ≤ u 0 ∧ u 0 ≤ w 0 + d := a.o.2.2.2
theorem Gr.wd {w u : Int → Int} {d n : Int} (a : Gr w u d) (n0 : 0 ≤ n) (n1 : n < w 0) : nd u n 1 = nd w n 1 := a.o.1.n n0 n1 (by decide) (by decide)
/-- a node of a width -/
def MkQ (w : Int → Int) (wd x : Int) (u : Int → Int) : Prop := Gr w u 1 ∧ 0 ≤ x ∧ x < u 0 ∧ nd u x 1 = wd
theorem MkQ.self {w : Int → Int} (h : Uq w) {n wd : Int} (n0 : 0 ≤ n) (n1 : n < w 0) (e : nd w n 1 = wd) : MkQ w wd n w := ⟨(Gr.rf h).tr (Gr.rf h) (by decide), n0, n1, e⟩
theorem mk1_q {w : Int → Int} {k wd a b c x y : Int} (n0 : 0 ≤ w 0) (hU : Uq w) (hc : w 0 < 40) : (mk1 w k wd a b c x y).1 ≠ -1 ∧ MkQ w wd (mk1 w k wd a b c x y).1 (mk1 w k wd a b c x y).2 := by
  unfold mk1
  by_cases e : found w k wd a b c x y = -1
  · rw [if_neg (fun q => q e), if_pos hc]
    obtain ⟨d0, d1, d2, d3, d4, d5, d6⟩ := newN_n w k wd a b c x y n0
    have h0 := newN_0 w k wd a b c x y
    refine ⟨?_, Box.i ⟨Nx.newN k wd a b c x y n0 hc, fun j hj => newN_lo w k wd a b c x y (by omega) (by omega), hU.newN n0 e, ?_, ?_⟩, n0, ?_, d1⟩
    · show w 0 ≠ -1
      omega
    · show w 0 ≤ newN w k wd a b c x y 0
      omega
    · show newN w k wd a b c x y 0 ≤ w 0 + 1
      omega
    · show w 0 < newN w k wd a b c x y 0
      omega
  · rw [if_pos e]
    have l := found_lt e
    have q := (fst_some e).2.2.1
    have q : same w k wd a b c x y (found w k wd a b c x y) = true := q
    exact ⟨e, MkQ.self hU l.1 l.2 (of_decide_eq_true q).2.1⟩
theorem mkC_q {h : Hp} {w ps : Int → Int} {s : Int} {k wd a b c x y : Int} (n0 : 0 ≤ w 0) (hU : Uq w) (hc : w 0 < 40) : mkC h w ps s (mk1 w k wd a b c x y) (Re h (MkQ w wd)) NoX := by
  have q := mk1_q (k := k) (wd := wd) (a := a) (b := b) (c := c) (x := x) (y := y) n0 hU hc
  exact ⟨fun e => absurd e q.1, fun _ g c k => ⟨_, _, _, _, rfl, c, k, q.2⟩⟩
section Q
variable {h : Hp} {w ps : Int → Int} {s : Int}
theorem q_constant {wd v : Int} (hC : CI h w ps s) (hU : Uq w) (hc : w 0 < 40) (z : 1 ≤ wd ∧ wd ≤ 8 ∧ 0 ≤ v ∧ v ≤ p2 wd - 1) : s_X9_constant.2 [aX 0, .inl wd, .inl v] h (Re h (MkQ w wd)) NoX := e3 w ps s ⟨hC, fun y => absurd z y, fun _ => mkC_q hC.wf.nn.1 hU hc⟩
theorem q_unary {k a : Int} (hC : CI h w ps s) (hU : Uq w) (hc : w 0 < 40) (z : 19 ≤ k ∧ k ≤ 20) (y : 0 ≤ a ∧ a < w 0) : s_X9_unary.2 [aX 0, .inl k, .inl a] h (Re h (MkQ w (nd w a 1))) NoX := e3 w ps s ⟨hC, fun x => absurd z x, fun _ x => absurd y x, fun _ _ => mkC_q hC.wf.nn.1 hU hc⟩
theorem q_slice {a hi lo : Int} (hC : CI h w ps s) (hU : Uq w) (hc : w 0 < 40) (z : 0 ≤ a ∧ a < w 0) (y : 0 ≤ lo ∧ lo ≤ hi ∧ hi < nd w a 1) : s_X9_slice.2 [aX 0, .inl a, .inl hi, .inl lo] h (Re h (MkQ w (hi - lo + 1))) NoX := e3 w ps s ⟨hC, fun x => absurd z x, fun _ x => absurd y x, fun _ _ => mkC_q hC.wf.nn.1 hU hc⟩
theorem q_extend {a wd g : Int} (hC : CI h w ps s) (hU : Uq w) (hc : w 0 < 40) (z : 0 ≤ a ∧ a < w 0) (y : nd w a 1 < wd ∧ wd ≤ 8) : s_X9_extend.2 [aX 0, .inl a, .inl wd, .inl g] h (Re h (MkQ w wd)) NoX := e3 w ps s ⟨hC, fun x => absurd z x, fun _ x => absurd y x, fun _ _ => mkC_q hC.wf.nn.1 hU hc⟩
theorem q_binary {k a b : Int} (hC : CI h w ps s) (hU : Uq w) (hc : w 0 < 40) (z : 2 ≤ k ∧ k ≤ 18) (y : 0 ≤ a ∧ a < w 0 ∧ 0 ≤ b ∧ b < w 0) (x : bFit w k a b) : s_X9_binary.2 [aX 0, .inl k, .inl a, .inl b] h (Re h (MkQ w (bW w k a b))) NoX := e3 w ps s ⟨hC, fun q => absurd z q, fun _ q => absurd y q, fun _ _ q => absurd x q, fun _ _ _ => mkC_q hC.wf.nn.1 hU hc⟩
theorem q_choice {a b c : Int} (hC : CI h w ps s) (hU : Uq w) (hc : w 0 < 40) (z : 0 ≤ a ∧ a < w 0 ∧ 0 ≤ b ∧ b < w 0 ∧ 0 ≤ c ∧ c < w 0) (y : nd w a 1 = 1 ∧ nd w b 1 = nd w c 1) : s_X9_choice.2 [aX 0, .inl a, .inl b, .inl c] h (Re h (MkQ w (nd w b 1))) NoX := e3 w ps s ⟨hC, fun q => absurd z q, fun _ q => absurd y q, fun _ _ => mkC_q hC.wf.nn.1 hU hc⟩
end Q
/-- any int of a range -/
def Rl (n : Int) (h : Hp) : Option AV → Hp → Prop := fun r g => ∃ x, r = some (.inl x) ∧ g = h ∧ 0 ≤ x ∧ x < n
theorem dcL {MC MS HT : Nat} {S : Nat → CS} {hd : List (Nat × (Nat × (Nat × Nat)))} {X : Nat → Hp → Prop} {k : AK} {pc nx : Nat} {ls : LSt} {h : Hp} {c s n : Nat} {as rest : List AV} {cs : CS} {mc ms ht : Nat} {m : Int} (hS : S n = wk cs) (e : cs.1 as h = (mc, (ms, ht))) (hb : (Nat.ble (catS rest) 8 && (Nat.ble (c + mc) MC && (Nat.ble (s + ms) MS && Nat.blt ht HT))) = true) (h0 : cs.2 as h (Rl m h) NoX)
    (h1 : ∀ x, 0 ≤ x → x < m → k nx ls (.inl x :: rest) h (c + mc) (s + ms)) : doC MC MS HT S hd X k pc nx ls h c s n as rest :=
  dcR hS e hb h0 fun r g q _ => by
    obtain ⟨x, rfl, rfl, a, b⟩ := q
    exact h1 x a b
theorem q_low {v n : Int} {h : Hp} (z : 0 < n) : s_L_low.2 [.inl v, .inl n] h (Rl n h) NoX := And.intro z fun r a b => ⟨r, rfl, rfl, a, b⟩

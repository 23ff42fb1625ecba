/-! ===== the reference: searches among the models ===== -/
theorem tot_nn {w : Int → Int} (h : WF w) : ¬ tot w ≤ 0 := by have := tot_rng h; omega
theorem nxt_lt {w : Int → Int} (h : WF w) (m : Int) : -1 ≤ nxt w m ∧ nxt w m < 65536 := by
  have := tot_rng h
  by_cases e : nxt w m = -1
  · omega
  · have := nxt_some e
    omega
theorem meas_dn {w : Int → Int} {n : Int} (h0 : 0 ≤ n) (h : n < tot w) : meas w (nxt w (n + 1)) < meas w n := by
  unfold meas
  rw [if_neg (show ¬ n = -1 by omega)]
  by_cases e : nxt w (n + 1) = -1
  · rw [if_pos e]; omega
  · rw [if_neg e]
    have := nxt_some e
    omega
/-- a number of the loop over the models: the first model from m on -/
def atM (w : Int → Int) (m n : Int) : Prop := Box (n = nxt w m ∧ 0 ≤ m ∧ m ≤ 65536)
theorem atM.at {w : Int → Int} {m n : Int} (h : atM w m n) (e : n ≠ -1) : 0 ≤ n ∧ m ≤ n ∧ n < tot w ∧ mdl w n = true ∧ ∀ N, 0 ≤ N → m ≤ N → N < n → mdl w N = false := by
  obtain ⟨rfl, -⟩ := h.o
  exact nxt_some e
theorem atM.end {w : Int → Int} {m n : Int} (h : atM w m n) (e : n = -1) : ∀ N, 0 ≤ N → m ≤ N → N < tot w → mdl w N = false := by
  obtain ⟨rfl, -⟩ := h.o
  exact nxt_none e
theorem atM.nx {w : Int → Int} (hw : WF w) {m n : Int} (h : atM w m n) (e : n ≠ -1) : atM w (n + 1) (nxt w (n + 1)) := by
  have := h.at e
  have := tot_rng hw
  exact Box.i ⟨rfl, by omega, by omega⟩
theorem atM.to {w g : Int → Int} {m n r : Int} (h : atM w m n) (e : n ≠ -1) (hb : isB (mdl w) g m r) : isB (mdl w) g n r := by
  have := h.at e
  exact isB_gap hb this.2.1 fun N a b c => this.2.2.2.2 N a b c
theorem atM.fin {w g : Int → Int} (hw : WF w) {m n r : Int} (h : atM w m n) (e : n = -1) (hm : m ≤ tot w) (hb : isB (mdl w) g m r) : isB (mdl w) g (tot w) r :=
  isB_gap hb hm fun N a b c => h.end e N a b c
/-- the value of a node by which the models are searched -/
def gV (w : Int → Int) (n sg N : Int) : Int := rd w n sg (vl w (asg w N) n)
def gS (w : Int → Int) (n gr sg N : Int) : Int := if gr = 0 then -(gV w n sg N) else gV w n sg N
theorem gV_0 {w f : Int → Int} {n sg N : Int} (h0 : 0 ≤ n) (h1 : n < w 0) (hf : Vls w (asg w N) f) (z : sg = 0) : f n = gV w n sg N := by
  unfold gV rd
  rw [if_pos z, hf.o n h0 h1]
theorem gV_1 {w f : Int → Int} {n sg N : Int} (h0 : 0 ≤ n) (h1 : n < w 0) (hf : Vls w (asg w N) f) (z : sg ≠ 0) : sgn (f n) (nd w n 1) = gV w n sg N := by
  unfold gV rd
  rw [if_neg z, hf.o n h0 h1]
theorem vls_rng {w f : Int → Int} {n N : Int} (hw : WF w) (h0 : 0 ≤ n) (h1 : n < w 0) (hf : Vls w (asg w N) f) : 0 ≤ f n ∧ f n < p2 (nd w n 1) := by
  rw [hf.o n h0 h1]
  exact hw.vr (asg_ev w N) h0 h1
theorem ex_new {w : Int → Int} {n gr sg N r its v : Int} (hb : isB (mdl w) (gS w n gr sg) N r) (h0 : 0 ≤ N) (hp : mdl w N = true) (hv : v = gV w n sg N) (hi : r = -1 ∨ its = gV w n sg r) (c : r = -1 ∨ (gr ≠ 0 ∧ its < v) ∨ (gr = 0 ∧ v < its)) : isB (mdl w) (gS w n gr sg) (N + 1) N := by
  refine isB_new hb h0 hp ?_
  by_cases e : r = -1
  · exact Or.inl e
  · refine Or.inr ?_
    unfold gS
    by_cases g : gr = 0
    · rw [if_pos g, if_pos g]; omega
    · rw [if_neg g, if_neg g]; omega
theorem ex_keep {w : Int → Int} {n gr sg N r its v : Int} (hb : isB (mdl w) (gS w n gr sg) N r) (h0 : 0 ≤ N) (hv : v = gV w n sg N) (hi : r = -1 ∨ its = gV w n sg r) (c : r ≠ -1) (c2 : (gr ≠ 0 ∧ v ≤ its) ∨ (gr = 0 ∧ its ≤ v)) : isB (mdl w) (gS w n gr sg) (N + 1) r := by
  refine isB_keep hb h0 c ?_
  unfold gS
  by_cases g : gr = 0
  · rw [if_pos g, if_pos g]; omega
  · rw [if_neg g, if_neg g]; omega
/-! ===== calls, as the law's own methods make them ===== -/
abbrev aX (n : Nat) : AV := .inr (.inr (some n))
def NoX : Nat → Hp → Prop := fun _ _ => False
/-- a contract that may be used with weaker ends -/
def wk (cs : CS) : CS := (cs.1, fun as h Rt X => ∃ (R0 : Option AV → Hp → Prop) (X0 : Nat → Hp → Prop), cs.2 as h R0 X0 ∧ (∀ r g, R0 r g → hN h ≤ hN g → Rt r g) ∧ ∀ E g, X0 E g → X E g)
theorem MetS.wk {l : Launch} {D : va_G} {ca : Nat → ClassId} {lb sa sv : Nat} {mr : MR} {fx : Bool} {cs : CS} (H : MetS l D ca lb sa sv mr fx cs) : MetS l D ca lb sa sv mr fx (CWordSolverLaw_law_r6868_1636c8.wk cs) := by
  intro ad sz as h Rt X hv hh hf e1 h0
  obtain ⟨R0, X0, h0, k1, k2⟩ := h0
  have M := H ad sz as h R0 X0 hv hh hf e1 h0
  intro p e ha hc hk s m args below hfr happ hP _
  obtain ⟨n, o, a1, a2, a3, a4⟩ := M p e ha hc hk s m args below hfr happ hP trivial
  refine ⟨n, o, a1, a2, a3, ?_⟩
  rcases a4 with ⟨⟨⟨r, h1, ad1, b1, b2, b3, b4⟩, b5⟩, b6⟩ | ⟨q, b1, E, ce, L, ⟨⟨k, h1, ad1, c1, c2, c3, c4⟩, c5⟩, c6⟩
  · exact Or.inl ⟨⟨⟨r, h1, ad1, b1, k1 r h1 b2 b4.2.2.2.2.2, b3, b4⟩, b5⟩, b6⟩
  · exact Or.inr ⟨q, b1, E, ce, L, ⟨⟨k, h1, ad1, c1, c2, k2 k h1 c3, c4⟩, c5⟩, c6⟩
theorem mm_wk {n : Nat} {cs : CS} (H : MM n cs) : MM n (wk cs) := fun hl => (H hl).wk
/-- the walk's rest, behind a call -/
def kq (rk MC MS HT : Nat) (S : Nat → CS) (Rt : Option AV → Hp → Prop) (X : Nat → Hp → Prop) (code : List (Nat × Row)) (m : Nat) (tl : List (Nat × Row)) : AK := fun pc1 ls1 st1 h1 c1 s1 => match look ([] : List (Nat × List Nat)) pc1 with
  | some live => atcut (fun _ _ _ _ _ => False) live pc1 ls1 st1 h1 c1 s1
  | none => aw true rk MC MS HT S [] Rt X none (fun _ => 0) code [] (fun _ _ _ _ _ => False) m tl pc1 ls1 st1 h1 c1 s1
/-- the answer x, the graph and what else the class holds, the text kept -/
def Rq (x : Int) (h : Hp) (w ps : Int → Int) (s : Int) : Option AV → Hp → Prop := fun r g => r = some (.inl x) ∧ CI g w ps s ∧ Kp h g
/-- so, with rows that only Q tells -/
def Re (h : Hp) (Q : Int → (Int → Int) → Prop) : Option AV → Hp → Prop := fun r g => ∃ x u ps s, r = some (.inl x) ∧ CI g u ps s ∧ Kp h g ∧ Q x u
def Rn (h : Hp) (Q : (Int → Int) → Prop) : Option AV → Hp → Prop := fun r g => ∃ u ps s, r = none ∧ CI g u ps s ∧ Kp h g ∧ Q u
section Dc
variable {MC MS HT : Nat} {S : Nat → CS} {hd : List (Nat × (Nat × (Nat × Nat)))} {X : Nat → Hp → Prop} {k : AK} {pc nx : Nat} {ls : LSt} {h : Hp} {c s n : Nat} {as rest : List AV} {cs : CS} {mc ms ht : Nat}
theorem dcR {R0 : Option AV → Hp → Prop} (hS : S n = wk cs) (e : cs.1 as h = (mc, (ms, ht))) (hb : (Nat.ble (catS rest) 8 && (Nat.ble (c + mc) MC && (Nat.ble (s + ms) MS && Nat.blt ht HT))) = true) (h0 : cs.2 as h R0 NoX)
    (h1 : ∀ r g, R0 r g → hN h ≤ hN g → k nx ls (putR r rest) g (c + mc) (s + ms)) : doC MC MS HT S hd X k pc nx ls h c s n as rest := by
  unfold doC
  rw [hS]
  have e2 : (wk cs).1 as h = (mc, (ms, ht)) := e
  rw [e2]
  exact ob_i hb ⟨R0, NoX, h0, h1, fun E g q => q.elim⟩
theorem dcQ {x : Int} {w ps : Int → Int} {s1 : Int} (hS : S n = wk cs) (e : cs.1 as h = (mc, (ms, ht))) (hb : (Nat.ble (catS rest) 8 && (Nat.ble (c + mc) MC && (Nat.ble (s + ms) MS && Nat.blt ht HT))) = true) (h0 : cs.2 as h (Rq x h w ps s1) NoX)
    (h1 : ∀ g, CI g w ps s1 → Kp h g → k nx ls (.inl x :: rest) g (c + mc) (s + ms)) : doC MC MS HT S hd X k pc nx ls h c s n as rest :=
  dcR hS e hb h0 fun r g q _ => by
    obtain ⟨rfl, q1, q2⟩ := q
    exact h1 g q1 q2
theorem dcE {Q : Int → (Int → Int) → Prop} (hS : S n = wk cs) (e : cs.1 as h = (mc, (ms, ht))) (hb : (Nat.ble (catS rest) 8 && (Nat.ble (c + mc) MC && (Nat.ble (s + ms) MS && Nat.blt ht HT))) = true) (h0 : cs.2 as h (Re h Q) NoX)
    (h1 : ∀ x u ps s1 g, CI g u ps s1 → Kp h g → Q x u → k nx ls (.inl x :: rest) g (c + mc) (s + ms)) : doC MC MS HT S hd X k pc nx ls h c s n as rest :=
  dcR hS e hb h0 fun r g q _ => by
    obtain ⟨x, u, ps, s1, rfl, q1, q2, q3⟩ := q
    exact h1 x u ps s1 g q1 q2 q3
theorem dcN {Q : (Int → Int) → Prop} (hS : S n = wk cs) (e : cs.1 as h = (mc, (ms, ht))) (hb : (Nat.ble (catS rest) 8 && (Nat.ble (c + mc) MC && (Nat.ble (s + ms) MS && Nat.blt ht HT))) = true) (h0 : cs.2 as h (Rn h Q) NoX)
    (h1 : ∀ u ps s1 g, CI g u ps s1 → Kp h g → Q u → k nx ls rest g (c + mc) (s + ms)) : doC MC MS HT S hd X k pc nx ls h c s n as rest :=
  dcR hS e hb h0 fun r g q _ => by
    obtain ⟨u, ps, s1, rfl, q1, q2, q3⟩ := q
    exact h1 u ps s1 g q1 q2 q3
theorem dcH {x : Int} (hS : S n = wk cs) (e : cs.1 as h = (mc, (ms, ht))) (hb : (Nat.ble (catS rest) 8 && (Nat.ble (c + mc) MC && (Nat.ble (s + ms) MS && Nat.blt ht HT))) = true) (h0 : cs.2 as h (fun r g => r = some (.inl x) ∧ g = h) NoX)
    (h1 : k nx ls (.inl x :: rest) h (c + mc) (s + ms)) : doC MC MS HT S hd X k pc nx ls h c s n as rest :=
  dcR hS e hb h0 fun r g q _ => by
    obtain ⟨rfl, rfl⟩ := q
    exact h1
end Dc
theorem e3 {P : (Int → Int) → (Int → Int) → Int → Prop} (w ps : Int → Int) (s : Int) (h : P w ps s) : ∃ w ps s, P w ps s := ⟨w, ps, s, h⟩
theorem Rq.go {x : Int} {h : Hp} {w ps : Int → Int} {s : Int} : Go h w ps s (Rq x h w ps s (some (.inl x))) := fun _ c k => ⟨rfl, c, k⟩
theorem q_nodes {h : Hp} {w ps : Int → Int} {s : Int} (hC : CI h w ps s) : s_X9_nodes.2 [aX 0] h (fun r g => r = some (.inl (w 0)) ∧ g = h) NoX := e3 w ps s ⟨hC, rfl, rfl⟩
theorem q_variables {h : Hp} {w ps : Int → Int} {s : Int} (hC : CI h w ps s) : s_X9_variables.2 [aX 0] h (fun r g => r = some (.inl (w 281)) ∧ g = h) NoX := e3 w ps s ⟨hC, rfl, rfl⟩
theorem q_constraints {h : Hp} {w ps : Int → Int} {s : Int} (hC : CI h w ps s) : s_X9_constraints.2 [aX 0] h (fun r g => r = some (.inl (w 290)) ∧ g = h) NoX := e3 w ps s ⟨hC, rfl, rfl⟩
theorem q_satT {h : Hp} {w ps : Int → Int} {s : Int} (hC : CI h w ps s) (z : nxt w 0 ≠ -1) : s_X9_satisfiable.2 [aX 0] h (Rq 1 h w ps s) NoX := e3 w ps s ⟨hC, fun y => absurd y z, fun _ => Rq.go⟩
theorem q_satF {h : Hp} {w ps : Int → Int} {s : Int} (hC : CI h w ps s) (z : nxt w 0 = -1) : s_X9_satisfiable.2 [aX 0] h (Rq 0 h w ps s) NoX := e3 w ps s ⟨hC, fun _ => Rq.go, fun y => absurd z y⟩
theorem q_width {h : Hp} {w ps : Int → Int} {s : Int} (hC : CI h w ps s) {n : Int} (n0 : 0 ≤ n) (n1 : n < w 0) : s_X9_info.2 [aX 0, .inl n, .inl 1] h (fun r g => r = some (.inl (nd w n 1)) ∧ g = h) NoX := e3 w ps s ⟨hC, fun y => absurd ⟨n0, n1⟩ y, fun _ y => absurd ⟨by decide, by decide⟩ y, fun _ _ => ⟨rfl, rfl⟩⟩
theorem q_parts {h : Hp} {w ps : Int → Int} {s : Int} (hC : CI h w ps s) {n : Int} (n0 : 0 ≤ n) (n1 : n < w 0) : s_X9_info.2 [aX 0, .inl n, .inl 8] h (fun r g => r = some (.inl (toldW w n 8)) ∧ g = h) NoX := e3 w ps s ⟨hC, fun y => absurd ⟨n0, n1⟩ y, fun _ y => absurd ⟨by decide, by decide⟩ y, fun _ _ => ⟨rfl, rfl⟩⟩
theorem q_witness {h : Hp} {w ps : Int → Int} {s : Int} (hC : CI h w ps s) {v : Int} (v0 : 0 ≤ v) (v1 : v < w 281) : s_X9_witness.2 [aX 0, .inl v] h (Rq (wrd w (nxt w 0) v) h w ps s) NoX := e3 w ps s ⟨hC, fun y => absurd ⟨v0, v1⟩ y, fun _ => Rq.go⟩
theorem q_best {h : Hp} {w ps : Int → Int} {s : Int} (hC : CI h w ps s) {v r : Int} (v0 : 0 ≤ v) (v1 : v < w 281) (hr : isB (mdl w) (gnA w) (tot w) r) : s_X9_bestWitness.2 [aX 0, .inl v] h (Rq (wrd w r v) h w ps s) NoX := e3 w ps s ⟨hC, fun y => absurd ⟨v0, v1⟩ y, fun _ r' hr' => by
  rw [isB_un hr' hr fun _ _ _ _ => Iff.rfl]
  exact Rq.go⟩
theorem q_gain {h : Hp} {w ps : Int → Int} {s : Int} (hC : CI h w ps s) {r : Int} (hr : isB (mdl w) (gnA w) (tot w) r) : s_X9_gain.2 [aX 0] h (Rq (gnR w r) h w ps s) NoX := e3 w ps s ⟨hC, fun r' hr' => by
  rw [isB_un hr' hr fun _ _ _ _ => Iff.rfl]
  exact Rq.go⟩
theorem q_models {h : Hp} {w ps : Int → Int} {s : Int} (hC : CI h w ps s) {l : Int} (l0 : 1 ≤ l) (l1 : l ≤ 200) : s_X9_models.2 [aX 0, .inl l] h (Rq (if cntB (mdl w) (tot w).toNat < l then cntB (mdl w) (tot w).toNat else l) h w ps s) NoX := e3 w ps s ⟨hC, fun y => absurd ⟨l0, l1⟩ y, fun _ => Rq.go⟩
theorem q_fixedN {h : Hp} {w ps : Int → Int} {s : Int} (hC : CI h w ps s) {n g : Int} (n0 : 0 ≤ n) (n1 : n < w 0) (z : nxt w 0 = -1) : s_X9_fixed.2 [aX 0, .inl n, .inl g] h (Rq (-1) h w ps s) NoX := e3 w ps s ⟨hC, fun y => absurd ⟨n0, n1⟩ y, fun _ _ => Rq.go, fun _ y => absurd z y, fun _ y => absurd z y⟩
theorem q_fixedV {h : Hp} {w ps : Int → Int} {s : Int} (hC : CI h w ps s) {n : Int} (n0 : 0 ≤ n) (n1 : n < w 0) (z : nxt w 0 ≠ -1) : s_X9_fixed.2 [aX 0, .inl n, .inl 1] h (Rq (fxA w n (tot w).toNat) h w ps s) NoX := e3 w ps s ⟨hC, fun y => absurd ⟨n0, n1⟩ y, fun _ y => absurd y z, fun _ _ _ => Rq.go, fun _ _ y => absurd y (by decide)⟩
theorem q_fixedB {h : Hp} {w ps : Int → Int} {s : Int} (hC : CI h w ps s) {n : Int} (n0 : 0 ≤ n) (n1 : n < w 0) (z : nxt w 0 ≠ -1) : s_X9_fixed.2 [aX 0, .inl n, .inl 0] h (Rq (fxB w n) h w ps s) NoX := e3 w ps s ⟨hC, fun y => absurd ⟨n0, n1⟩ y, fun _ y => absurd y z, fun _ _ y => absurd rfl y, fun _ _ _ => Rq.go⟩
theorem q_value {h : Hp} {w ps : Int → Int} {s : Int} (hC : CI h w ps s) {n : Int} (n0 : 0 ≤ n) (n1 : n < w 0) : s_X9_value.2 [aX 0, .inl n, .inl 0] h (Rq (vl w (fun v => w (286 + v)) n) h w ps s) NoX := e3 w ps s ⟨hC, fun y => absurd ⟨n0, n1⟩ y, fun _ => Rq.go⟩
theorem q_extreme {h : Hp} {w ps : Int → Int} {s : Int} (hC : CI h w ps s) {n gr sg r : Int} (n0 : 0 ≤ n) (n1 : n < w 0) (z : nxt w 0 ≠ -1) (hr : isB (mdl w) (gS w n gr sg) (tot w) r) : s_X9_extreme.2 [aX 0, .inl n, .inl gr, .inl sg] h (Rq (gV w n sg r) h w ps s) NoX := e3 w ps s ⟨hC, fun y => absurd ⟨n0, n1⟩ y, fun _ y => absurd y z, fun _ _ r' hr' => by
  rw [isB_un hr' hr fun _ _ _ _ => Iff.rfl]
  exact Rq.go⟩
theorem q_values {h : Hp} {w ps : Int → Int} {s : Int} (hC : CI h w ps s) {n l : Int} {f : Int → Int} (n0 : 0 ≤ n) (n1 : n < w 0) (l0 : 1 ≤ l) (l1 : l ≤ 200) (hf : Mets w n f (tot w)) : s_X9_values.2 [aX 0, .inl n, .inl l] h (Rq (if smF f 256 < l then smF f 256 else l) h w ps s) NoX := e3 w ps s ⟨hC, fun y => absurd ⟨n0, n1⟩ y, fun _ y => absurd ⟨l0, l1⟩ y, fun _ _ f' hf' => by
  rw [hf'.un hf]
  exact Rq.go⟩
theorem kthW_un {w f g : Int → Int} {n m : Int} (hf : Mets w n f m) (hg : Mets w n g m) (k : Int) : kthW f k = kthW g k := by
  have e : ∀ v, 0 ≤ v → v < 256 → f v = g v := fun v v0 v1 => by
    rcases hf.o v v0 v1 with ⟨a, b⟩ | ⟨a, N, b0, b1, b2, b3⟩ <;> rcases hg.o v v0 v1 with ⟨c, d⟩ | ⟨c, M, d0, d1, d2, d3⟩
    · rw [a, c]
    · exact absurd d3 (b M d0 d1 d2)
    · exact absurd b3 (d N b0 b1 b2)
    · rw [a, c]
  unfold kthW
  refine fst_congr fun v v0 v1 => ?_
  rw [e v v0 (by omega), smF_cg (g := g) v.toNat fun u u0 u1 => e u u0 (by omega)]
theorem q_valueAt {h : Hp} {w ps : Int → Int} {s : Int} (hC : CI h w ps s) {n k : Int} {f : Int → Int} (n0 : 0 ≤ n) (n1 : n < w 0) (k0 : 0 ≤ k) (k1 : k ≤ 199) (hf : Mets w n f (tot w)) : s_X9_valueAt.2 [aX 0, .inl n, .inl k] h (Rq (kthW f k) h w ps s) NoX := e3 w ps s ⟨hC, fun y => absurd ⟨n0, n1⟩ y, fun _ y => absurd ⟨k0, k1⟩ y, fun _ _ f' hf' => by
  rw [kthW_un hf' hf]
  exact Rq.go⟩
theorem q_valueNo {h : Hp} {w ps : Int → Int} {s : Int} (hC : CI h w ps s) {n k : Int} (n0 : 0 ≤ n) (n1 : n < w 0) (k1 : 199 < k) : s_X9_valueAt.2 [aX 0, .inl n, .inl k] h (Rq (-1) h w ps s) NoX := e3 w ps s ⟨hC, fun y => absurd ⟨n0, n1⟩ y, fun _ _ => Rq.go.id hC, fun _ y => absurd y (by omega)⟩
theorem q_eqT {h : Hp} {w ps : Int → Int} {s : Int} (hC : CI h w ps s) {a b : Int} (a0 : 0 ≤ a) (a1 : a < w 0) (b0 : 0 ≤ b) (b1 : b < w 0) (e : nd w a 1 = nd w b 1) (z : dfM w a b = -1) : s_X9_equivalent.2 [aX 0, .inl a, .inl b] h (Rq 1 h w ps s) NoX := e3 w ps s ⟨hC, fun y => absurd ⟨a0, a1, b0, b1⟩ y, fun _ y => absurd e y, fun _ _ _ => Rq.go, fun _ _ y => absurd z y⟩
theorem q_eqF {h : Hp} {w ps : Int → Int} {s : Int} (hC : CI h w ps s) {a b : Int} (a0 : 0 ≤ a) (a1 : a < w 0) (b0 : 0 ≤ b) (b1 : b < w 0) (e : nd w a 1 = nd w b 1) (z : dfM w a b ≠ -1) : s_X9_equivalent.2 [aX 0, .inl a, .inl b] h (Rq 0 h w ps s) NoX := e3 w ps s ⟨hC, fun y => absurd ⟨a0, a1, b0, b1⟩ y, fun _ y => absurd e y, fun _ _ y => absurd y z, fun _ _ _ => Rq.go⟩
theorem q_counter {h : Hp} {w ps : Int → Int} {s : Int} (hC : CI h w ps s) {a b v : Int} (a0 : 0 ≤ a) (a1 : a < w 0) (b0 : 0 ≤ b) (b1 : b < w 0) (v0 : 0 ≤ v) (v1 : v < w 281) (e : nd w a 1 = nd w b 1) : s_X9_counterexample.2 [aX 0, .inl a, .inl b, .inl v] h (Rq (wrd w (dfM w a b) v) h w ps s) NoX := e3 w ps s ⟨hC, fun y => absurd ⟨a0, a1, b0, b1, v0, v1⟩ y, fun _ y => absurd e y, fun _ _ => Rq.go⟩
/-- a long -/
def Rj (x : Int64) (h : Hp) (w ps : Int → Int) (s : Int) : Option AV → Hp → Prop := fun r g => r = some (.inr (.inl x)) ∧ CI g w ps s ∧ Kp h g
theorem dcJ {MC MS HT : Nat} {S : Nat → CS} {hd : List (Nat × (Nat × (Nat × Nat)))} {X : Nat → Hp → Prop} {k : AK} {pc nx : Nat} {ls : LSt} {h : Hp} {c s n : Nat} {as rest : List AV} {cs : CS} {mc ms ht : Nat} {x : Int64} {w ps : Int → Int} {s1 : Int} (hS : S n = wk cs) (e : cs.1 as h = (mc, (ms, ht))) (hb : (Nat.ble (catS rest) 8 && (Nat.ble (c + mc) MC && (Nat.ble (s + ms) MS && Nat.blt ht HT))) = true) (h0 : cs.2 as h (Rj x h w ps s1) NoX)
    (h1 : ∀ g, CI g w ps s1 → Kp h g → k nx ls (.inr (.inl x) :: rest) g (c + mc) (s + ms)) : doC MC MS HT S hd X k pc nx ls h c s n as rest :=
  dcR hS e hb h0 fun r g q _ => by
    obtain ⟨rfl, q1, q2⟩ := q
    exact h1 g q1 q2
theorem q_digest {h : Hp} {w ps : Int → Int} {s : Int} (hC : CI h w ps s) : s_X9_digest.2 [aX 0] h (Rj (dgT w (hI h 49 1) s) h w ps s) NoX := e3 w ps s ⟨hC, fun _ c k => ⟨rfl, c, k⟩⟩
theorem cmpL_z {x y : Int64} (h : x = y) : cmpL x y = 0 := cmpL_0.mpr h
theorem dgT_k {h g : Hp} (k : Kp h g) (w : Int → Int) (s : Int) : cmpL (dgT w (hI g 49 1) s) (dgT w (hI h 49 1) s) = 0 := cmpL_z (by rw [k.o.2.1])

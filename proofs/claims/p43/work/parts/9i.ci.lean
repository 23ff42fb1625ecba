/-! ===== the class as a whole ===== -/
theorem HR.fc {f g : Nat → Int → Int} {r : Int → Option Nat} {ps : Int → Int} {s : Int} (e : ∀ q, 11 ≤ q → q < 43 → g q = f q) (h : HR f r ps s) : HR g r ps s := by
  obtain ⟨h1, h2, h3, P, p1, p2, p3⟩ := h.o
  refine Box.i ⟨by rw [e 11 (by decide) (by decide)]; exact h1, h2, h3, P, p1, p2, fun i i0 i1 => ?_⟩
  obtain ⟨a, b, c⟩ := p3 i i0 i1
  have sl := (p1 i i0 (by omega)).2.lo
  exact ⟨St0_fc (fun q q0 q1 => e q (by omega) (by omega)) a, by rw [e (P i) (by omega) (by omega)]; exact b, c⟩
/-- a state's row only from 281 on -/
theorem St0_c2 {f : Nat → Int → Int} {a : Nat} {u w : Int → Int} (e : ∀ j, 281 ≤ j → j < 349 → u j = w j) (c : Cts w) (h : St0 f a w) : St0 f a u := by
  obtain ⟨⟨c1, c2⟩, ⟨c3, c4⟩, c5, c6⟩ := c.o
  obtain ⟨h1, h2, h3, h4, h5, h6⟩ := h.o
  rw [← e 331 (by decide) (by decide)] at h1
  have e290 := e 290 (by decide) (by decide)
  have e332 := e 332 (by decide) (by decide)
  have e281 := e 281 (by decide) (by decide)
  refine Box.i ⟨h1, by rw [e290]; exact h2, by rw [e332]; exact h3, fun k k0 k1 => ?_, fun k k0 k1 => ?_, fun v v0 v1 => ?_⟩
  · rw [e290] at k1
    rw [e _ (by omega) (by omega), e _ (by omega) (by omega)]
    exact h4 k k0 k1
  · rw [e332] at k1
    rw [e _ (by omega) (by omega), e _ (by omega) (by omega)]
    exact h5 k k0 k1
  · rw [e281] at v1
    rw [e _ (by omega) (by omega)]
    exact h6 v v0 v1
theorem Cts_c2 {u w : Int → Int} (e : ∀ j, 281 ≤ j → j < 349 → u j = w j) (c : Cts w) : Cts u := by
  obtain ⟨h1, h2, h3⟩ := c.o
  have e290 := e 290 (by decide) (by decide)
  have e332 := e 332 (by decide) (by decide)
  have e281 := e 281 (by decide) (by decide)
  exact Box.i (by rw [e290, e332, e281]; exact ⟨h1, h2, h3⟩)
/-- the saved rows matter only at the count of nodes and from 281 on -/
theorem HR.pc {f : Nat → Int → Int} {r : Int → Option Nat} {ps qs : Int → Int} {s : Int} (e : ∀ i, 0 ≤ i → i < s → rowP qs i 0 = rowP ps i 0 ∧ ∀ j, 281 ≤ j → j < 349 → rowP qs i j = rowP ps i j) (h : HR f r ps s) : HR f r qs s := by
  obtain ⟨h1, h2, h3, P, p1, p2, p3⟩ := h.o
  refine Box.i ⟨h1, h2, h3, P, p1, p2, fun i i0 i1 => ?_⟩
  obtain ⟨a, b, c⟩ := p3 i i0 i1
  obtain ⟨e0, e1⟩ := e i i0 i1
  exact ⟨St0_c2 e1 c a, by rw [e0]; exact b, Cts_c2 e1 c⟩
def CI (h : Hp) (w ps : Int → Int) (s : Int) : Prop := Box (GH h w ∧ WF w ∧ St0 (hI h) 5 w ∧ HR (hI h) (hR h 12) ps s ∧ SK w (hI h 46) (hJ h 47) ∧ RwN h ∧ TL h ∧ TxO (hI h))
theorem CI.gh {h : Hp} {w ps : Int → Int} {s : Int} (c : CI h w ps s) : GH h w := c.o.1
theorem CI.wf {h : Hp} {w ps : Int → Int} {s : Int} (c : CI h w ps s) : WF w := c.o.2.1
theorem CI.st {h : Hp} {w ps : Int → Int} {s : Int} (c : CI h w ps s) : St0 (hI h) 5 w := c.o.2.2.1
theorem CI.hr {h : Hp} {w ps : Int → Int} {s : Int} (c : CI h w ps s) : HR (hI h) (hR h 12) ps s := c.o.2.2.2.1
theorem CI.sk {h : Hp} {w ps : Int → Int} {s : Int} (c : CI h w ps s) : SK w (hI h 46) (hJ h 47) := c.o.2.2.2.2.1
theorem CI.rn {h : Hp} {w ps : Int → Int} {s : Int} (c : CI h w ps s) : RwN h := c.o.2.2.2.2.2.1
theorem CI.tl {h : Hp} {w ps : Int → Int} {s : Int} (c : CI h w ps s) : TL h := c.o.2.2.2.2.2.2.1
theorem CI.tx {h : Hp} {w ps : Int → Int} {s : Int} (c : CI h w ps s) : TxO (hI h) := c.o.2.2.2.2.2.2.2
/-- what the class leaves alone -/
def Ou (h g : Hp) : Prop := Box (∀ a, 62 ≤ a → a ≠ 62 → hI g a = hI h a ∧ hJ g a = hJ h a ∧ hR g a = hR h a)
def Kp (h g : Hp) : Prop := Box (Ou h g ∧ hI g 49 = hI h 49 ∧ hI g 50 = hI h 50)
def Go (h : Hp) (w ps : Int → Int) (s : Int) (P : Hp → Prop) : Prop := ∀ g, CI g w ps s → Kp h g → P g
theorem Ou.rf (h : Hp) : Ou h h := Box.i fun _ _ _ => ⟨rfl, rfl, rfl⟩
theorem Ou.tr {h g k : Hp} (a : Ou h g) (b : Ou g k) : Ou h k := Box.i fun x h1 h2 => ⟨(b.o x h1 h2).1.trans (a.o x h1 h2).1, (b.o x h1 h2).2.1.trans (a.o x h1 h2).2.1, (b.o x h1 h2).2.2.trans (a.o x h1 h2).2.2⟩
theorem Kp.rf (h : Hp) : Kp h h := Box.i ⟨Ou.rf h, rfl, rfl⟩
theorem Kp.tr {h g k : Hp} (a : Kp h g) (b : Kp g k) : Kp h k := Box.i ⟨a.o.1.tr b.o.1, b.o.2.1.trans a.o.2.1, b.o.2.2.trans a.o.2.2⟩
theorem Go.id {h : Hp} {w ps : Int → Int} {s : Int} {P : Hp → Prop} (g : Go h w ps s P) (c : CI h w ps s) : P h := g h c (Kp.rf h)
/-- the graph, the state and the saves the same -/
theorem CI.fc {h g : Hp} {w ps : Int → Int} {s : Int} (c : CI h w ps s) (e : ∀ a, 1 ≤ a → a < 43 → hI g a = hI h a) (r : hR g 12 = hR h 12) (k : SK w (hI g 46) (hJ g 47)) (n : RwN g) (t : hI g 49 = hI h 49 ∧ hI g 50 = hI h 50) : CI g w ps s := by
  refine Box.i ⟨?_, c.wf, St0_fc (fun q a b => e q (by omega) (by omega)) c.st, ?_, k, n, ?_, ?_⟩
  · have := c.gh
    unfold GH at *
    rw [e 1 (by decide) (by decide), e 2 (by decide) (by decide), e 3 (by decide) (by decide), e 4 (by decide) (by decide)]
    exact this
  · rw [r]
    exact HR.fc (fun q a b => e q (by omega) b) c.hr
  · have := c.tl
    unfold TL at *
    rw [t.1]
    exact this
  · have := c.tx.o
    exact Box.i (by rw [t.1, t.2]; exact this)
theorem Kp.run (h : Hp) (R Q : Int → Int64) : Kp h (rJ (rJ h 45 R) 44 Q) := Box.i ⟨Box.i fun a h1 h2 => ⟨rfl, by
  show (if a = 44 then Q else if a = 45 then R else hJ h a) = _
  rw [if_neg (by omega), if_neg (by omega)], rfl⟩, rfl, rfl⟩
theorem CI.run {h : Hp} {w ps : Int → Int} {s : Int} (c : CI h w ps s) (R Q : Int → Int64) : CI (rJ (rJ h 45 R) 44 Q) w ps s := c.fc (fun _ _ _ => rfl) rfl c.sk c.rn ⟨rfl, rfl⟩
theorem Kp.se (h : Hp) (F : Int → Int) (R Q L : Int → Int64) : Kp h (CWordSolverLaw_law_r6868_1636c8.se h F R Q L) := Box.i ⟨Box.i fun a h1 h2 => ⟨by rw [se_aI, if_neg (by omega)], by rw [se_aJ, if_neg (by omega), if_neg (by omega), if_neg (by omega)], rfl⟩, rfl, rfl⟩
theorem CI.se {h : Hp} {w ps : Int → Int} {s : Int} (c : CI h w ps s) {F : Int → Int} {L : Int → Int64} (k : SK w F L) (R Q : Int → Int64) : CI (CWordSolverLaw_law_r6868_1636c8.se h F R Q L) w ps s := c.fc (fun a h1 h2 => by rw [se_aI, if_neg (by omega)]) rfl k c.rn ⟨rfl, rfl⟩
theorem FM.sk {w F0 F : Int → Int} {L : Int → Int64} (h : FM w F0 F L) : SK w F L := Box.i fun _ => ⟨h.o.1, h.o.2.1, h.o.2.2.1⟩
theorem CM.sk {w F0 F : Int → Int} {L : Int → Int64} (h : CM w F0 F L) : SK w F L := Box.i fun _ => ⟨h.o.1, h.o.2.1, h.o.2.2.1⟩
theorem Kp.r48 (h : Hp) (f : Int → Int) : Kp h (rI h 48 f) := Box.i ⟨Box.i fun a h1 h2 => ⟨by rw [hI_rI', if_neg (by omega)], rfl, rfl⟩, rfl, rfl⟩
theorem CI.r48 {h : Hp} {w ps : Int → Int} {s : Int} (c : CI h w ps s) (f : Int → Int) : CI (rI h 48 f) w ps s := c.fc (fun a h1 h2 => by rw [hI_rI', if_neg (by omega)]) rfl c.sk c.rn ⟨rfl, rfl⟩
theorem Kp.cr {h g : Hp} (d : CrH h g) : Kp h g := by
  obtain ⟨d1, d2, d3, d4, d5, d6⟩ := d.o
  exact Box.i ⟨Box.i fun a h1 h2 => ⟨d3 a h2, d4 a (by omega) (by omega) h2, d5 a (by omega) h2⟩, d3 49 (by decide), d3 50 (by decide)⟩
theorem CI.cr {h g : Hp} {w ps : Int → Int} {s : Int} (c : CI h w ps s) (d : CrH h g) : CI g w ps s := by
  obtain ⟨d1, d2, d3, d4, d5, d6⟩ := d.o
  refine c.fc (fun a h1 h2 => d3 a (by omega)) (d5 12 (by decide) (by decide)) ?_ d.rw ⟨d3 49 (by decide), d3 50 (by decide)⟩
  rw [d3 46 (by decide), d4 47 (by decide) (by decide) (by decide)]
  exact c.sk
/-- rows anew but for the text -/
theorem Kp.w {h : Hp} {r : Rw} (e : ∀ a, 62 ≤ a ∨ a = 49 ∨ a = 50 → r a = hI h a) : Kp h (wI h r) := Box.i ⟨Box.i fun a h1 h2 => ⟨e a (Or.inl h1), rfl, rfl⟩, e 49 (by decide), e 50 (by decide)⟩
/-- a state saved -/
theorem hs_aI (h : Hp) (f : Nat → Int → Int) (r : Int → Option Nat) (q : Nat) : hI (hsH h f r) q = if 11 ≤ q ∧ q < 43 then f q else hI h q := rfl
theorem Kp.hs (h : Hp) (f : Nat → Int → Int) (r : Int → Option Nat) : Kp h (hsH h f r) := Box.i ⟨Box.i fun a h1 h2 => ⟨by rw [hs_aI, if_neg (by omega)], rfl, by
  show (if a = 12 then r else hR h a) = _
  rw [if_neg (by omega)]⟩, rfl, rfl⟩
theorem CI.hs {h : Hp} {w ps qs : Int → Int} {s t : Int} (c : CI h w ps s) {f : Nat → Int → Int} {r : Int → Option Nat} (k : HR f r qs t) : CI (hsH h f r) w qs t := by
  refine Box.i ⟨c.gh, c.wf, St0_fc (fun q a b => by rw [hs_aI, if_neg (by omega)]) c.st, HR.fc (fun q a b => by rw [hs_aI, if_pos ⟨a, b⟩]) k, c.sk, ?_, c.tl, c.tx⟩
  exact c.rn
/-- the graph anew, with its row -/
theorem CI.gr {h g : Hp} {w u ps : Int → Int} {s : Int} (c : CI h w ps s) (hW : WF u) (e : ∀ a, 5 ≤ a → a < 43 → hI g a = hI h a) (r : hR g 12 = hR h 12) (G : GH g u) (j : ∀ j, 281 ≤ j → j < 349 → u j = w j) (k : SK u (hI g 46) (hJ g 47)) (n : RwN g) (t : hI g 49 = hI h 49 ∧ hI g 50 = hI h 50) : CI g u ps s := by
  refine Box.i ⟨G, hW, St0_fc (fun q a b => e q (by omega) (by omega)) (St0_c2 j c.wf.cts c.st), ?_, k, n, ?_, ?_⟩
  · rw [r]
    exact HR.fc (fun q a b => e q (by omega) b) c.hr
  · have := c.tl
    unfold TL at *
    rw [t.1]
    exact this
  · have := c.tx.o
    exact Box.i (by rw [t.1, t.2]; exact this)
theorem GH.eq7 {h : Hp} {w u : Int → Int} (G : GH h w) (hW : WF w) (e : Eq7 w u) : GH h u := by
  obtain ⟨e1, e2, e3⟩ := e.o
  obtain ⟨g1, g2, g3, g4⟩ := G.o
  have e281 := e3 281 (by decide)
  refine Box.i ⟨by rw [e2]; exact g1, by rw [e281]; exact g2, fun n n0 n1 => ?_, fun v v0 v1 => ?_⟩
  · rw [e2] at n1
    rw [e1.n n0 n1 (by decide) (by decide), e1.n n0 n1 (by decide) (by decide), e1.n n0 n1 (by decide) (by decide), e1.n n0 n1 (by decide) (by decide), e1.n n0 n1 (by decide) (by decide), e1.n n0 n1 (by decide) (by decide), e1.n n0 n1 (by decide) (by decide)]
    exact g3 n n0 n1
  · rw [e281] at v1
    rw [e3 (282 + v) (by omega), sumW_nx hW e1 (by omega)]
    exact g4 v v0 v1
theorem Eq7.cx {w u : Int → Int} (hW : WF w) (e : Eq7 w u) : Cx w u := Cx.e hW fun j h _ _ => e.o.2.2 j h
theorem CI.eq7 {h : Hp} {w u ps : Int → Int} {s : Int} (c : CI h w ps s) (e : Eq7 w u) : CI h u ps s := c.gr (e.wf c.wf) (fun _ _ _ => rfl) rfl (c.gh.eq7 c.wf e) (fun j h _ => e.o.2.2 j h) (c.sk.nx c.wf e.o.1 (e.cx c.wf)) c.rn ⟨rfl, rfl⟩

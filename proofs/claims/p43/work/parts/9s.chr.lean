/-! ===== the characters of a description ===== -/
def Pr (L : List Int) : Prop := ∀ c, c ∈ L → 32 ≤ c ∧ c ≤ 126
theorem Pr.nil : Pr [] := fun c h => by cases h
theorem Pr.cons {c : Int} {L : List Int} (h : 32 ≤ c ∧ c ≤ 126) (k : Pr L) : Pr (c :: L) := fun x q => by
  rcases List.mem_cons.mp q with rfl | q
  · exact h
  · exact k x q
theorem Pr.app {L M : List Int} (h : Pr L) (k : Pr M) : Pr (L ++ M) := fun x q => by
  rcases List.mem_append.mp q with q | q
  · exact h x q
  · exact k x q
theorem Pr.num {x : Int} (h0 : 0 ≤ x) (h1 : x ≤ 999) : Pr (numL x) := by
  unfold numL
  refine Pr.app ?_ (Pr.app ?_ (Pr.cons (by omega) Pr.nil))
  · split
    · exact Pr.cons (by omega) Pr.nil
    · exact Pr.nil
  · split
    · exact Pr.cons (by omega) Pr.nil
    · exact Pr.nil
theorem wl_ch : ∀ j : Nat, j < 23 → ∀ i : Nat, i < 5 → 32 ≤ wl ((j : Int) + 2) (i : Int) ∧ wl ((j : Int) + 2) (i : Int) ≤ 126 := by decide +kernel
theorem Pr.wdU {k : Int} (k0 : 2 ≤ k) (k1 : k ≤ 24) : ∀ m : Nat, m ≤ 5 → Pr (CWordSolverLaw_law_r6868_1636c8.wdU k m) := by
  intro m
  induction m with
  | zero => intro _; exact Pr.nil
  | succ m ih =>
    intro h
    refine (ih (by omega)).app (Pr.cons ?_ Pr.nil)
    have := wl_ch (k - 2).toNat (by omega) m (by omega)
    rw [show (((k - 2).toNat : Nat) : Int) + 2 = k by omega] at this
    exact this
theorem Pr.ops {D : Int → List Int} {w : Int → Int} {n : Int} : ∀ c : Nat, (∀ i : Nat, i < c → Pr (D (nd w n (2 + (i : Int))))) → Pr (opsL D w n c) := by
  intro c
  induction c with
  | zero => intro _; exact Pr.nil
  | succ c ih =>
    intro h
    exact (ih fun i hi => h i (by omega)).app (Pr.cons (by decide) (h c (by omega)))
theorem dsc_ch {w : Int → Int} (hW : WF w) : ∀ k : Nat, ∀ n : Int, 0 ≤ n → n < w 0 → n < (k : Int) → Pr (dsc w n) := by
  intro k
  induction k with
  | zero => intro n h0 _ h1; omega
  | succ k ih =>
    intro n h0 h1 hk
    have wn := hW.node h0 h1
    have wd := hW.wd h0 h1
    have vn := hW.vn
    obtain ⟨⟨k1, k2, k3, k4⟩, ⟨o1, o2, o3, o4, o5, o6⟩, p1, p2c, p3, p4, p5, p6, p7, p8, p9, p10, p11, p12, p13, p14, p15, p16⟩ := wn.o
    rw [dsc_eq hW h0 h1]
    unfold dsB
    split
    · rename_i e
      have := p3 e
      exact Pr.cons (by decide) (Pr.cons (by omega) Pr.nil)
    · rename_i e1
      split
      · rename_i e0
        have := p2c e0
        have q := p2_le8 k4
        exact (Pr.num (by omega) (by omega)).app (Pr.cons (by decide) (Pr.cons (by omega) Pr.nil))
      · rename_i e0
        have wl := wlen_rng (k := nd w n 0) (by omega) k2
        have oc := opc_rng (nd w n 0)
        refine Pr.cons (by decide) ((Pr.wdU (by omega) k2 _ (by omega)).app ((Pr.ops _ fun i hi => ?_).app (Pr.app ?_ (Pr.cons (by decide) Pr.nil))))
        · have q := op_lt wn (i := i) (by omega)
          exact ih _ q.1 (by omega) (by omega)
        · unfold digL
          split
          · rename_i e
            have := p14 e
            have q := hW.wd (n := nd w n 2) (by have := p4 (by omega); omega) (by omega)
            exact Pr.cons (by decide) (Pr.cons (by omega) (Pr.cons (by decide) (Pr.cons (by omega) Pr.nil)))
          · split
            · exact Pr.cons (by decide) (Pr.cons (by omega) Pr.nil)
            · exact Pr.nil
theorem TxL.ok {r : Rw} {L : List Int} (h : TxL r L) (p : Pr L) : TxO r := by
  obtain ⟨h1, h2, h3⟩ := h.o
  refine Box.i fun k k0 k1 => ?_
  have e := h3 k.toNat (by omega)
  rw [show ((k.toNat : Nat) : Int) = k by omega] at e
  rw [e]
  refine p _ ?_
  have hk : k.toNat < L.length := by omega
  rw [List.getD_eq_getElem?_getD, List.getElem?_eq_getElem hk]
  exact List.getElem_mem hk
/-- another text -/
theorem CI.tn {h g : Hp} {w ps : Int → Int} {s : Int} (c : CI h w ps s) (e : ∀ a, 1 ≤ a → a < 47 → hI g a = hI h a) (r : g.2.2 = h.2.2) (n : g.1 = h.1) (t : TL g) (x : TxO (hI g)) : CI g w ps s := by
  have rR : ∀ a, hR g a = hR h a := fun a => by
    show g.2.2.2 a = h.2.2.2 a
    rw [r]
  have rJ : ∀ a, hJ g a = hJ h a := fun a => by
    show g.2.2.1 a = h.2.2.1 a
    rw [r]
  refine Box.i ⟨?_, c.wf, St0_fc (fun q a b => e q (by omega) (by omega)) c.st, ?_, ?_, ?_, t, x⟩
  · have := c.gh
    unfold GH at *
    rw [e 1 (by decide) (by decide), e 2 (by decide) (by decide), e 3 (by decide) (by decide), e 4 (by decide) (by decide)]
    exact this
  · rw [rR]
    exact HR.fc (fun q a b => e q (by omega) (by omega)) c.hr
  · rw [e 46 (by decide) (by decide), rJ]
    exact c.sk
  · have := c.rn
    unfold RwN at *
    rw [rR, show hN g = hN h from n]
    exact this

/-! ===== a long description has many parts ===== -/
theorem cntB_sub {P Q : Int → Bool} (h : ∀ x, 0 ≤ x → P x = true → Q x = true) : ∀ k : Nat, cntB P k ≤ cntB Q k := by
  intro k
  induction k with
  | zero => exact Int.le_refl _
  | succ k ih =>
    rw [cntB_s, cntB_s]
    cases p : P (k : Int) with
    | true => rw [h k (by omega) p]; omega
    | false =>
      show _ + 0 ≤ _ + (if Q (k : Int) = true then (1 : Int) else 0)
      split <;> omega
theorem cntB_sub1 {P Q : Int → Bool} (h : ∀ x, 0 ≤ x → P x = true → Q x = true) {x : Nat} (p : P (x : Int) = false) (q : Q (x : Int) = true) : ∀ k : Nat, x < k → cntB P k + 1 ≤ cntB Q k := by
  intro k
  induction k with
  | zero => intro hx; exact absurd hx (Nat.not_lt_zero _)
  | succ k ih =>
    intro hx
    rw [cntB_s, cntB_s]
    by_cases z : x = k
    · subst z
      have := cntB_sub h x
      rw [p, q]
      show _ + 0 + 1 ≤ _ + (1 : Int)
      omega
    · have := ih (by omega)
      cases p2 : P (k : Int) with
      | true => rw [h k (by omega) p2]; omega
      | false =>
        show _ + 0 + 1 ≤ _ + (if Q (k : Int) = true then (1 : Int) else 0)
        split <;> omega
theorem cF_in {w : Int → Int} (hW : WF w) {S : Int64} (hS : Clo w S) : ∀ k : Nat, (k : Int) ≤ w 0 → ∀ s, (∀ j, j < 64 → lb s j = true → lb S j = true) → ∀ j, j < 64 → lb (cF w k s) j = true → lb S j = true := by
  have n0 := hW.nn
  intro k
  induction k with
  | zero => intro _ s h j hj q; exact h j hj q
  | succ k ih =>
    intro hk s h j hj q
    unfold cF at q
    have wn := hW.node (n := (k : Int)) (by omega) (by omega)
    obtain ⟨-, ⟨o1, o2, o3, o4, o5, o6⟩, -⟩ := wn.o
    split at q
    · rename_i e
      have cl := hS.o k (by omega) (by omega) (by rw [show ((k : Int)).toNat = k by omega]; exact h k (by omega) e)
      refine ih (by omega) _ (fun i hi p => ?_) j hj q
      rw [orN_lb wn (by omega) hi] at p
      simp only [Bool.or_eq_true, decide_eq_true_eq] at p
      rcases p with p | ((p | p) | p)
      · exact h i hi p
      · have := cl.1 (by omega)
        rw [p] at this
        rw [show i = ((i : Int)).toNat by omega]
        exact this
      · have := cl.2.1 (by omega)
        rw [p] at this
        rw [show i = ((i : Int)).toNat by omega]
        exact this
      · have := cl.2.2 (by omega)
        rw [p] at this
        rw [show i = ((i : Int)).toNat by omega]
        exact this
    · exact ih (by omega) s h j hj q
theorem cone_hi {w : Int → Int} (hW : WF w) {n : Int} (h0 : 0 ≤ n) (h1 : n < w 0) {j : Nat} (hj : j < 64) (hn : n < (j : Int)) : lb (coneW w n) j = false := by
  have n0 := hW.nn
  unfold coneW
  rw [cF_hi hW hj _ (by omega) (by omega), lb_one h0 (by omega) hj]
  exact decide_eq_false (by omega)
/-- an operand has fewer parts -/
theorem parts_lt {w : Int → Int} (hW : WF w) {n m : Int} (n0 : 0 ≤ n) (n1 : n < w 0) (m0 : 0 ≤ m) (m1 : m < n) (hm : lb (coneW w n) m.toNat = true) : partsW w m + 1 ≤ partsW w n := by
  have nn := hW.nn
  have c := cone_clo hW n0 n1
  rw [parts_eq hW m0 (by omega), parts_eq hW n0 n1, pcL_def, pcL_def]
  have sub : ∀ j, j < 64 → lb (coneW w m) j = true → lb (coneW w n) j = true := fun j hj q => by
    unfold coneW at q
    refine cF_in hW c.1 _ (by omega) _ (fun i hi p => ?_) j hj q
    rw [lb_one m0 (by omega) hi] at p
    rw [of_decide_eq_true p]
    exact hm
  have e : cntB (fun k => lb (coneW w m) k.toNat) 64 = cntB (fun k => decide (k < 64) && lb (coneW w m) k.toNat) 64 := cntB_congr 64 fun N a b => by
    show _ = (decide (N < 64) && _)
    rw [decide_eq_true (show N < 64 by omega), Bool.true_and]
  rw [e]
  refine cntB_sub1 (x := n.toNat) (fun x x0 p => ?_) ?_ ?_ 64 (by omega)
  · rw [Bool.and_eq_true, decide_eq_true_eq] at p
    exact sub _ (by omega) p.2
  · show (decide _ && lb (coneW w m) _) = false
    rw [show (((n.toNat : Nat) : Int)).toNat = n.toNat by omega, cone_hi hW m0 (by omega) (by omega) (by omega), Bool.and_false]
  · show lb (coneW w n) _ = true
    rw [show (((n.toNat : Nat) : Int)).toNat = n.toNat by omega]
    exact c.2
theorem parts_pos {w : Int → Int} (hW : WF w) {n : Int} (n0 : 0 ≤ n) (n1 : n < w 0) : 1 ≤ partsW w n := by
  have nn := hW.nn
  have c := cone_clo hW n0 n1
  rw [parts_eq hW n0 n1, pcL_def]
  have a := cntB_mono (fun k => lb (coneW w n) k.toNat) (j := n.toNat + 1) 64 (by omega)
  have b := cntB_lo (fun k => lb (coneW w n) k.toNat) n.toNat
  rw [cntB_s, if_pos (by show lb (coneW w n) (((n.toNat : Nat) : Int)).toNat = true; rw [show (((n.toNat : Nat) : Int)).toNat = n.toNat by omega]; exact c.2)] at a
  omega
theorem op_parts {w : Int → Int} (hW : WF w) {n : Int} (n0 : 0 ≤ n) (n1 : n < w 0) {i : Nat} (hi : (i : Int) < opc (nd w n 0)) : partsW w (nd w n (2 + (i : Int))) + 1 ≤ partsW w n := by
  have wn := hW.node n0 n1
  have o := op_lt wn hi
  have oc := opc_rng (nd w n 0)
  have c := cone_clo hW n0 n1
  have cl := c.1.o n n0 n1 c.2
  refine parts_lt hW n0 n1 o.1 o.2 ?_
  have : i = 0 ∨ i = 1 ∨ i = 2 := by omega
  rcases this with rfl | rfl | rfl
  · exact cl.1 o.1
  · exact cl.2.1 o.1
  · exact cl.2.2 o.1
theorem ops_le {D : Int → List Int} {w : Int → Int} {n : Int} {b : Nat} : ∀ c : Nat, (∀ i : Nat, i < c → (D (nd w n (2 + (i : Int)))).length ≤ b) → (opsL D w n c).length ≤ c * (b + 1) := by
  intro c
  induction c with
  | zero => intro _; exact Nat.zero_le _
  | succ c ih =>
    intro h
    have a := ih fun i hi => h i (by omega)
    have e := h c (by omega)
    show (opsL D w n c ++ (32 :: D (nd w n (2 + (c : Int))))).length ≤ _
    rw [List.length_append, List.length_cons, Nat.add_mul]
    omega
theorem dsc_le {w : Int → Int} (hW : WF w) {n : Int} (n0 : 0 ≤ n) (n1 : n < w 0) {b : Nat} (b5 : 5 ≤ b) (hb : ∀ i : Nat, (i : Int) < opc (nd w n 0) → (dsc w (nd w n (2 + (i : Int)))).length ≤ b) : (dsc w n).length ≤ 8 + 3 * b := by
  have wn := hW.node n0 n1
  obtain ⟨⟨k1, k24, w1, w8⟩, _, g1, g2, _⟩ := wn.o
  rw [dsc_eq hW n0 n1]
  unfold dsB
  by_cases z1 : nd w n 0 = 1
  · rw [if_pos z1]
    show 2 ≤ _
    omega
  rw [if_neg z1]
  by_cases z0 : nd w n 0 = 0
  · rw [if_pos z0, List.length_append]
    have v := g2 z0
    have l := numL_len v.1
    show (numL (nd w n 5)).length + 2 ≤ _
    omega
  rw [if_neg z0, List.length_cons, List.length_append, List.length_append, List.length_append, wdU_len]
  have k2 : 2 ≤ nd w n 0 := by omega
  have wr := wlen_rng k2 k24
  have oc := opc_rng (nd w n 0)
  have dl := digL_len w n
  have ol := ops_le (D := dsc w) (w := w) (n := n) (b := b) (opc (nd w n 0)).toNat fun i hi => hb i (by omega)
  show (wlen (nd w n 0)).toNat + ((opsL (dsc w) w n (opc (nd w n 0)).toNat).length + ((digL w n).length + 1)) + 1 ≤ _
  have od : opc (nd w n 0) = if nd w n 0 < 2 then 0 else if nd w n 0 ≤ 18 then 2 else if nd w n 0 = 24 then 3 else 1 := rfl
  have dd : dgc (nd w n 0) = if nd w n 0 = 21 then 2 else if nd w n 0 = 22 ∨ nd w n 0 = 23 then 1 else 0 := rfl
  rw [if_neg (by omega)] at od
  by_cases c1 : nd w n 0 ≤ 18
  · rw [if_pos c1] at od
    rw [if_neg (by omega), if_neg (by omega)] at dd
    rw [show (opc (nd w n 0)).toNat = 2 by omega] at ol ⊢
    omega
  · rw [if_neg c1] at od
    by_cases c2 : nd w n 0 = 24
    · rw [if_pos c2] at od
      rw [if_neg (by omega), if_neg (by omega)] at dd
      rw [show (opc (nd w n 0)).toNat = 3 by omega] at ol ⊢
      have w3 : wlen (nd w n 0) = 3 := by rw [c2]; decide
      omega
    · rw [if_neg c2] at od
      have dr := dgc_rng (nd w n 0)
      rw [show (opc (nd w n 0)).toNat = 1 by omega] at ol ⊢
      omega
theorem leaf_le {w : Int → Int} (hW : WF w) {n : Int} (n0 : 0 ≤ n) (n1 : n < w 0) (k : nd w n 0 < 2) : (dsc w n).length ≤ 5 := by
  obtain ⟨⟨k1, k24, w1, w8⟩, _, g1, g2, _⟩ := (hW.node n0 n1).o
  rw [dsc_eq hW n0 n1]
  unfold dsB
  by_cases z1 : nd w n 0 = 1
  · rw [if_pos z1]
    show 2 ≤ 5
    omega
  · rw [if_neg z1, if_pos (by omega), List.length_append]
    have v := g2 (by omega)
    have l := numL_len v.1
    show (numL (nd w n 5)).length + 2 ≤ _
    omega
theorem len_1 {w : Int → Int} (hW : WF w) {n : Int} (n0 : 0 ≤ n) (n1 : n < w 0) (p : partsW w n ≤ 1) : (dsc w n).length ≤ 5 := by
  by_cases k : nd w n 0 < 2
  · exact leaf_le hW n0 n1 k
  · have oc := (opc_rng (nd w n 0)).2.2.1 (by omega)
    have o := op_parts hW n0 n1 (i := 0) (by omega)
    have l := op_lt (hW.node n0 n1) (i := 0) (by omega)
    have q := parts_pos hW l.1 (by omega)
    omega
theorem len_2 {w : Int → Int} (hW : WF w) {n : Int} (n0 : 0 ≤ n) (n1 : n < w 0) (p : partsW w n ≤ 2) : (dsc w n).length ≤ 23 := by
  have := dsc_le hW n0 n1 (b := 5) (by decide) fun i hi => by
    have o := op_parts hW n0 n1 hi
    have l := op_lt (hW.node n0 n1) hi
    exact len_1 hW l.1 (by omega) (by omega)
  omega
theorem len_3 {w : Int → Int} (hW : WF w) {n : Int} (n0 : 0 ≤ n) (n1 : n < w 0) (p : partsW w n ≤ 3) : (dsc w n).length ≤ 77 := by
  have := dsc_le hW n0 n1 (b := 23) (by decide) fun i hi => by
    have o := op_parts hW n0 n1 hi
    have l := op_lt (hW.node n0 n1) hi
    exact len_2 hW l.1 (by omega) (by omega)
  omega
theorem parts_big {w : Int → Int} (hW : WF w) {n : Int} (n0 : 0 ≤ n) (n1 : n < w 0) (h : 120 < (dsc w n).length) : 3 < toldW w n 8 := by
  have e : toldW w n 8 = partsW w n := if_pos rfl
  rw [e]
  by_cases z : 3 < partsW w n
  · exact z
  · have := len_3 hW n0 n1 (by omega)
    omega

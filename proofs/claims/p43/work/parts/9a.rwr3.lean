/-! ===== the reference: a description written ===== -/
def exS (D : Int → List Int) : List Int → List Int
  | [] => []
  | x :: S => (if x < 0 then [x + 1000] else D x) ++ exS D S
theorem exS_app (D : Int → List Int) : ∀ P Q : List Int, exS D (P ++ Q) = exS D P ++ exS D Q := by
  intro P
  induction P with
  | nil => intro Q; rfl
  | cons x P ih =>
    intro Q
    show (if x < 0 then [x + 1000] else D x) ++ exS D (P ++ Q) = ((if x < 0 then [x + 1000] else D x) ++ exS D P) ++ exS D Q
    rw [ih, List.append_assoc]
theorem exS_n {D : Int → List Int} {x : Int} {S : List Int} (h : x < 0) : exS D (x :: S) = (x + 1000) :: exS D S := by
  show (if x < 0 then [x + 1000] else D x) ++ exS D S = _
  rw [if_pos h]
  rfl
theorem exS_p {D : Int → List Int} {x : Int} {S : List Int} (h : 0 ≤ x) : exS D (x :: S) = D x ++ exS D S := by
  show (if x < 0 then [x + 1000] else D x) ++ exS D S = _
  rw [if_neg (by omega)]
theorem exS_op {D : Int → List Int} {w : Int → Int} {n c : Int} : ∀ r : Nat, (r : Int) ≤ c → (∀ i : Int, 0 ≤ i → i < c → 0 ≤ nd w n (2 + i)) → opsL D w n (c - r).toNat ++ exS D (opQ w n c r) = opsL D w n c.toNat := by
  intro r
  induction r with
  | zero =>
    intro _ _
    show opsL D w n (c - 0).toNat ++ [] = _
    rw [List.append_nil, show c - 0 = c by omega]
  | succ r ih =>
    intro hr h
    show opsL D w n (c - ((r : Int) + 1)).toNat ++ exS D ((-968) :: nd w n (2 + (c - ((r : Int) + 1))) :: opQ w n c r) = _
    rw [exS_n (by decide), exS_p (h _ (by omega) (by omega)), ← ih (by omega) h, show (c - (r : Int)).toNat = (c - ((r : Int) + 1)).toNat + 1 by omega]
    show _ = (opsL D w n (c - ((r : Int) + 1)).toNat ++ (32 :: D (nd w n (2 + (((c - ((r : Int) + 1)).toNat : Nat) : Int))))) ++ _
    rw [show (((c - ((r : Int) + 1)).toNat : Nat) : Int) = c - ((r : Int) + 1) by omega, List.append_assoc]
    rfl
theorem exS_dig {D : Int → List Int} {w : Int → Int} {n : Int} (hW : WF w) (n0 : 0 ≤ n) (n1 : n < w 0) (S : List Int) : exS D (digQ w n ++ S) = digL w n ++ exS D S := by
  rw [exS_app]
  congr 1
  have wd := hW.wd n0 n1
  unfold digQ digL
  by_cases a : nd w n 0 = 21
  · obtain ⟨u6, u5, u7⟩ := d21 hW n0 n1 a
    rw [if_pos a, if_pos a, exS_n (by decide), exS_n (by omega), exS_n (by decide), exS_n (by omega), show 48 + nd w n 5 - 1000 + 1000 = 48 + nd w n 5 by omega, show 48 + nd w n 6 - 1000 + 1000 = 48 + nd w n 6 by omega]
    rfl
  · rw [if_neg a, if_neg a]
    by_cases b : nd w n 0 = 22 ∨ nd w n 0 = 23
    · rw [if_pos b, if_pos b, exS_n (by decide), exS_n (by omega), show 48 + nd w n 1 - 1000 + 1000 = 48 + nd w n 1 by omega]
      rfl
    · rw [if_neg b, if_neg b]
      rfl
/-- what begins, and what it leaves for later, is the description -/
theorem bg_ds {w : Int → Int} {n : Int} (hW : WF w) (n0 : 0 ≤ n) (n1 : n < w 0) (S : List Int) : bgP w n ++ exS (dsc w) (bgQ w n S) = dsc w n ++ exS (dsc w) S := by
  have hn := hW.node n0 n1
  have k := hn.o.1
  rw [dsc_eq hW n0 n1]
  unfold bgP bgQ dsB
  by_cases k1 : nd w n 0 = 1
  · rw [if_pos k1, if_pos k1, if_pos (by omega)]
  rw [if_neg k1, if_neg k1]
  by_cases k0 : nd w n 0 = 0
  · rw [if_pos k0, if_pos k0, if_pos (by omega)]
  rw [if_neg k0, if_neg k0, if_neg (by omega), exS_app, exS_dig hW n0 n1, exS_n (by decide)]
  have oc := opc_rng (nd w n 0)
  have e := exS_op (D := dsc w) (w := w) (n := n) (c := opc (nd w n 0)) (opc (nd w n 0)).toNat (by omega) fun i i0 i1 => by
    have := op_lt hn (i := i.toNat) (by omega)
    rw [show ((i.toNat : Nat) : Int) = i by omega] at this
    exact this.1
  rw [show (opc (nd w n 0) - ((opc (nd w n 0)).toNat : Int)).toNat = 0 by omega] at e
  have e : exS (dsc w) (opQ w n (opc (nd w n 0)) (opc (nd w n 0)).toNat) = opsL (dsc w) w n (opc (nd w n 0)).toNat := e
  rw [e]
  simp [List.append_assoc]
/-- items that can be written -/
def ItO (w : Int → Int) (S : List Int) : Prop := Box (∀ x ∈ S, x < w 0)
theorem bgQ_it {w : Int → Int} {n : Int} (hW : WF w) (n0 : 0 ≤ n) (n1 : n < w 0) {S : List Int} (h : ItO w S) : ItO w (bgQ w n S) ∧ (bgQ w n S).length ≤ S.length + 11 ∧ 1 ≤ (bgP w n).length ∧ (bgP w n).length ≤ 6 ∧ (S.length < (bgQ w n S).length → 3 ≤ (bgP w n).length) := by
  have hn := hW.node n0 n1
  have k := hn.o.1
  have wd := hW.wd n0 n1
  unfold bgP bgQ
  by_cases k1 : nd w n 0 = 1
  · rw [if_pos k1, if_pos (by omega)]
    exact ⟨h, by omega, by show 1 ≤ 2; decide, by show 2 ≤ 6; decide, fun q => by omega⟩
  rw [if_neg k1]
  by_cases k0 : nd w n 0 = 0
  · have l := numL_len (hn.o.2.2.2.1 k0).1
    rw [if_pos k0, if_pos (by omega), List.length_append]
    refine ⟨h, by omega, ?_, ?_, fun q => by omega⟩
    · show 1 ≤ (numL (nd w n 5)).length + 2; omega
    · show (numL (nd w n 5)).length + 2 ≤ 6; omega
  have wl := wlen_rng (k := nd w n 0) (by omega) k.2.1
  have oc := opc_rng (nd w n 0)
  have dl := digQ_len w n
  rw [if_neg k0, if_neg (by omega), List.length_append, List.length_append, List.length_cons, List.length_cons, opQ_len, wdU_len]
  refine ⟨Box.i fun x hx => ?_, by omega, by omega, by omega, fun _ => by omega⟩
  rcases List.mem_append.mp hx with hx | hx
  · have : ∀ r : Nat, (r : Int) ≤ opc (nd w n 0) → x ∈ opQ w n (opc (nd w n 0)) r → x < w 0 := by
      intro r
      induction r with
      | zero => intro _ hx; cases hx
      | succ r ih =>
        intro hr hx
        rcases List.mem_cons.mp hx with rfl | hx
        · omega
        · rcases List.mem_cons.mp hx with rfl | hx
          · have := op_lt hn (i := (opc (nd w n 0) - ((r : Int) + 1)).toNat) (by omega)
            rw [show (((opc (nd w n 0) - ((r : Int) + 1)).toNat : Nat) : Int) = opc (nd w n 0) - ((r : Int) + 1) by omega] at this
            omega
          · exact ih (by omega) hx
    exact this _ (by omega) hx
  · rcases List.mem_append.mp hx with hx | hx
    · unfold digQ at hx
      by_cases a : nd w n 0 = 21
      · obtain ⟨u6, u5, u7⟩ := d21 hW n0 n1 a
        rw [if_pos a] at hx
        simp only [List.mem_cons, List.not_mem_nil, or_false] at hx
        omega
      · rw [if_neg a] at hx
        by_cases b : nd w n 0 = 22 ∨ nd w n 0 = 23
        · rw [if_pos b] at hx
          simp only [List.mem_cons, List.not_mem_nil, or_false] at hx
          omega
        · rw [if_neg b] at hx
          cases hx
    · rcases List.mem_cons.mp hx with rfl | hx
      · omega
      · exact h.o x hx
/-- a call that writes nothing -/
def WrX (h : Hp) (H : Rw) (k : Int) : Prop := Box ((∀ a, a ≠ 62 → a ≠ 75 → a ≠ 76 → H a = hI h a) ∧ H 62 4 = k ∧ ∀ j, j ≠ 4 → j ≠ 23 → j ≠ 25 → H 62 j = hI h 62 j)
/-- a text written -/
def WrY (h : Hp) (H : Rw) (L : List Int) : Prop := Box ((∀ a, a ≠ 62 → a ≠ 66 → a ≠ 75 → a ≠ 76 → H a = hI h a) ∧ H 62 4 = 0 ∧ H 62 6 = (L.length : Int) ∧ (∀ i : Nat, i < L.length → H 66 i = L.getD i 0) ∧ ∀ j, j ≠ 4 → j ≠ 6 → j ≠ 23 → j ≠ 25 → H 62 j = hI h 62 j)
def WrQ (h : Hp) (n : Int) (m pc : Nat) (vs : List AV) (g : Hp) : Prop := ∃ (H : Rw), g = wI h H ∧ ((pc = 25 ∧ Fp (hI h) H ∧ ((vs = [.inr (.inr (some 62)), .inl 0] ∧ ¬ (0 ≤ n ∧ n < hI h 63 0) ∧ H 62 23 = 0 ∧ H 62 25 = 0 ∧ m = 0) ∨ (0 ≤ n ∧ n < hI h 63 0 ∧ ∃ L S, vs = [.inr (.inr (some 62)), .inl 1] ∧ WS H L S ∧ ItO (hI h 63) S ∧ S.length ≤ 1 + 4 * L.length ∧ L ++ exS (dsc (hI h 63)) S = dsc (hI h 63) n ∧ m = 1000 + (131 - L.length)))) ∨
  (pc = 118 ∧ 0 ≤ n ∧ n < hI h 63 0 ∧ (dsc (hI h 63) n).length ≤ 120 ∧ ∃ k : Nat, vs = [.inr (.inr (some 62)), .inl (k : Int)] ∧ k ≤ (dsc (hI h 63) n).length ∧ (∀ a, a ≠ 62 → a ≠ 66 → a ≠ 75 → a ≠ 76 → H a = hI h a) ∧ H 62 4 = 0 ∧ H 62 25 = ((dsc (hI h 63) n).length : Int) ∧ (∀ i : Nat, i < (dsc (hI h 63) n).length → H 76 i = (dsc (hI h 63) n).getD i 0) ∧ (∀ i : Nat, i < k → H 66 i = (dsc (hI h 63) n).getD i 0) ∧ (∀ j, j ≠ 4 → j ≠ 23 → j ≠ 25 → H 62 j = hI h 62 j) ∧ m = (dsc (hI h 63) n).length - k))
theorem wI_rI (h : Hp) (a : Nat) (f : Int → Int) (r : Rw) : wI (rI h a f) r = wI h r := rfl

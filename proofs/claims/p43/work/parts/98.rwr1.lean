/-! ===== the reference: descriptions written ===== -/
/-- what is written so far; what comes later, the next thing first -/
def WrL (H : Rw) (L : List Int) : Prop := Box (H 62 25 = (L.length : Int) ∧ L.length ≤ 130 ∧ ∀ i : Nat, i < L.length → H 76 i = L.getD i 0)
def RsL (H : Rw) (S : List Int) : Prop := Box (H 62 23 = (S.length : Int) ∧ S.length ≤ 650 ∧ ∀ i : Nat, i < S.length → H 75 i = S.getD (S.length - 1 - i) 0)
def pAd (r : Rw) (c : Int) : Rw := if r 62 25 < 130 then ur (ur r 76 (up (r 76) (r 62 25) c)) 62 (up (r 62) 25 (r 62 25 + 1)) else r
def lAd (r : Rw) (x : Int) : Rw := ur (ur r 75 (up (r 75) (r 62 23) x)) 62 (up (r 62) 23 (r 62 23 + 1))
theorem getD_a {L : List Int} {c : Int} {i : Nat} (h : i < L.length) : (L ++ [c]).getD i 0 = L.getD i 0 := by
  rw [List.getD_eq_getElem?_getD, List.getD_eq_getElem?_getD, List.getElem?_append_left h]
theorem getD_e (L : List Int) (c : Int) : (L ++ [c]).getD L.length 0 = c := by
  rw [List.getD_eq_getElem?_getD, List.getElem?_append_right (Nat.le_refl _), Nat.sub_self]
  rfl
theorem WrL.put {r : Rw} {L : List Int} (h : WrL r L) (hl : L.length < 130) (c : Int) : WrL (pAd r c) (L ++ [c]) := by
  obtain ⟨h1, h2, h3⟩ := h.o
  unfold pAd
  rw [if_pos (by omega)]
  refine Box.i ⟨?_, by rw [List.length_append]; show L.length + 1 ≤ 130; omega, fun i hi => ?_⟩
  · rw [ur_self, up_self, h1, List.length_append]
    rfl
  · rw [ur_ne (by decide), ur_self, h1]
    rw [List.length_append] at hi
    have hi : i < L.length + 1 := hi
    by_cases e : i = L.length
    · subst e
      rw [up_self, getD_e]
    · rw [up_ne (by omega), getD_a (by omega)]
      exact h3 i (by omega)
theorem RsL.later {r : Rw} {S : List Int} (h : RsL r S) (hl : S.length < 650) (x : Int) : RsL (lAd r x) (x :: S) := by
  obtain ⟨h1, h2, h3⟩ := h.o
  refine Box.i ⟨?_, by rw [List.length_cons]; omega, fun i hi => ?_⟩
  · show up (r 62) 23 (r 62 23 + 1) 23 = _
    rw [up_self, h1, List.length_cons]
    rfl
  · show up (r 75) (r 62 23) x i = _
    rw [List.length_cons] at hi ⊢
    rw [h1]
    by_cases e : i = S.length
    · subst e
      rw [up_self, show S.length + 1 - 1 - S.length = 0 by omega]
      rfl
    · rw [up_ne (by omega), show S.length + 1 - 1 - i = (S.length - 1 - i) + 1 by omega]
      exact h3 i (by omega)
theorem RsL.pop {r s : Rw} {S : List Int} {x : Int} (h : RsL r (x :: S)) (e1 : s 75 = r 75) (e2 : s 62 23 = r 62 23 - 1) : RsL s S ∧ r 75 (S.length : Int) = x := by
  obtain ⟨h1, h2, h3⟩ := h.o
  rw [List.length_cons] at h1 h2 h3
  refine ⟨Box.i ⟨by rw [e2, h1]; show (S.length : Int) + 1 - 1 = _; omega, by omega, fun i hi => ?_⟩, ?_⟩
  · rw [e1, h3 i (by omega), show S.length + 1 - 1 - i = (S.length - 1 - i) + 1 by omega]
    rfl
  · rw [h3 S.length (by omega), show S.length + 1 - 1 - S.length = 0 by omega]
    rfl
/-- the rows but those that writing changes -/
def Fp (H r : Rw) : Prop := Box ((∀ a, a ≠ 62 → a ≠ 75 → a ≠ 76 → r a = H a) ∧ ∀ j, j ≠ 23 → j ≠ 25 → r 62 j = H 62 j)
theorem Fp.rf (H : Rw) : Fp H H := Box.i ⟨fun _ _ _ _ => rfl, fun _ _ _ => rfl⟩
theorem Fp.tr {H r s : Rw} (a : Fp H r) (b : Fp r s) : Fp H s := Box.i ⟨fun x h1 h2 h3 => (b.o.1 x h1 h2 h3).trans (a.o.1 x h1 h2 h3), fun j h1 h2 => (b.o.2 j h1 h2).trans (a.o.2 j h1 h2)⟩
theorem Fp.put {H r : Rw} (a : Fp H r) (c : Int) : Fp H (pAd r c) := by
  refine a.tr ?_
  unfold pAd
  split
  · exact Box.i ⟨fun x h1 h2 h3 => by rw [ur_ne h1, ur_ne h3], fun j h1 h2 => by rw [ur_self, up_ne h2]⟩
  · exact Fp.rf r
theorem Fp.later {H r : Rw} (a : Fp H r) (x : Int) : Fp H (lAd r x) := a.tr (Box.i ⟨fun y h1 h2 h3 => by unfold lAd; rw [ur_ne h1, ur_ne h2], fun j h1 h2 => by unfold lAd; rw [ur_self, up_ne h1]⟩)
theorem WrL.later {r : Rw} {L : List Int} (h : WrL r L) (x : Int) : WrL (lAd r x) L := by
  obtain ⟨h1, h2, h3⟩ := h.o
  refine Box.i ⟨?_, h2, h3⟩
  show up (r 62) 23 (r 62 23 + 1) 25 = _
  rw [up_ne (by decide)]
  exact h1
theorem RsL.put {r : Rw} {S : List Int} (h : RsL r S) (c : Int) : RsL (pAd r c) S := by
  obtain ⟨h1, h2, h3⟩ := h.o
  unfold pAd
  split
  · refine Box.i ⟨?_, h2, h3⟩
    rw [ur_self, up_ne (by decide)]
    exact h1
  · exact h
/-- both -/
def WS (H : Rw) (L S : List Int) : Prop := Box (WrL H L ∧ RsL H S)
theorem WS.put {H : Rw} {L S : List Int} (h : WS H L S) (hl : L.length < 130) (c : Int) : WS (pAd H c) (L ++ [c]) S := Box.i ⟨h.o.1.put hl c, h.o.2.put c⟩
theorem WS.later {H : Rw} {L S : List Int} (h : WS H L S) (hl : S.length < 650) (x : Int) : WS (lAd H x) L (x :: S) := Box.i ⟨h.o.1.later x, h.o.2.later hl x⟩
theorem WS.n {H : Rw} {L S : List Int} (h : WS H L S) : H 62 25 = (L.length : Int) ∧ H 62 23 = (S.length : Int) := ⟨h.o.1.o.1, h.o.2.o.1⟩
/-- some characters put -/
def pAs (r : Rw) : List Int → Rw
  | [] => r
  | c :: L => pAs (pAd r c) L
theorem Fp.puts {H : Rw} : ∀ (P : List Int) {r : Rw}, Fp H r → Fp H (pAs r P) := by
  intro P
  induction P with
  | nil => intro r h; exact h
  | cons c P ih => intro r h; exact ih (h.put c)
theorem WS.puts : ∀ (P : List Int) {r : Rw} {L S : List Int}, WS r L S → L.length + P.length ≤ 130 → WS (pAs r P) (L ++ P) S := by
  intro P
  induction P with
  | nil => intro r L S h _; rw [List.append_nil]; exact h
  | cons c P ih =>
    intro r L S h hl
    rw [List.length_cons] at hl
    have := ih (h.put (by omega) c) (by rw [List.length_append]; show L.length + 1 + P.length ≤ 130; omega)
    rw [List.append_assoc] at this
    exact this
theorem pAd_n {r : Rw} (h : 0 ≤ r 62 25) (c : Int) : 0 ≤ pAd r c 62 25 := by
  unfold pAd
  split
  · rw [ur_self, up_self]; omega
  · exact h
/-! ===== the reference: a node begins to be written ===== -/
theorem d21 {w : Int → Int} {n : Int} (hW : WF w) (n0 : 0 ≤ n) (n1 : n < w 0) (k : nd w n 0 = 21) : 0 ≤ nd w n 6 ∧ nd w n 6 ≤ nd w n 5 ∧ nd w n 5 ≤ 7 := by
  obtain ⟨_, o, _, _, _, s6, _, _, _, _, _, _, _, _, _, s16, _⟩ := (hW.node n0 n1).o
  have a := s6 (by omega)
  have b := s16 k
  have c := hW.wd a (by omega)
  omega
theorem pAd_63 (r : Rw) (c : Int) : pAd r c 63 = r 63 := by unfold pAd; split <;> rfl
theorem pAd_23 (r : Rw) (c : Int) : pAd r c 62 23 = r 62 23 := by unfold pAd; split <;> rfl
theorem lAd_63 (r : Rw) (x : Int) : lAd r x 63 = r 63 := rfl
theorem lAd_23 (r : Rw) (x : Int) : lAd r x 62 23 = r 62 23 + 1 := rfl
theorem lAd_25 (r : Rw) (x : Int) : lAd r x 62 25 = r 62 25 := rfl
theorem pAs_63 : ∀ (P : List Int) (r : Rw), pAs r P 63 = r 63 := by
  intro P
  induction P with
  | nil => intro r; rfl
  | cons c P ih => intro r; exact (ih _).trans (pAd_63 r c)
theorem pAs_n : ∀ (P : List Int) {r : Rw}, 0 ≤ r 62 25 → 0 ≤ pAs r P 62 25 := by
  intro P
  induction P with
  | nil => intro r h; exact h
  | cons c P ih => intro r h; exact ih (pAd_n h c)
theorem pAs_app : ∀ (P Q : List Int) (r : Rw), pAs r (P ++ Q) = pAs (pAs r P) Q := by
  intro P
  induction P with
  | nil => intro Q r; rfl
  | cons c P ih => intro Q r; exact ih Q _
def opQ (w : Int → Int) (n c : Int) : Nat → List Int
  | 0 => []
  | r + 1 => (-968) :: nd w n (2 + (c - ((r : Int) + 1))) :: opQ w n c r
def digQ (w : Int → Int) (n : Int) : List Int := if nd w n 0 = 21 then [-968, 48 + nd w n 5 - 1000, -968, 48 + nd w n 6 - 1000] else if nd w n 0 = 22 ∨ nd w n 0 = 23 then [-968, 48 + nd w n 1 - 1000] else []
def bgP (w : Int → Int) (n : Int) : List Int := if nd w n 0 = 1 then [118, 48 + nd w n 5] else if nd w n 0 = 0 then numL (nd w n 5) ++ [58, 48 + nd w n 1] else 40 :: wdU (nd w n 0) (wlen (nd w n 0)).toNat
def bgQ (w : Int → Int) (n : Int) (S : List Int) : List Int := if nd w n 0 ≤ 1 then S else opQ w n (opc (nd w n 0)) (opc (nd w n 0)).toNat ++ (digQ w n ++ (-959 :: S))
theorem opQ_len (w : Int → Int) (n c : Int) : ∀ r : Nat, (opQ w n c r).length = 2 * r := by
  intro r
  induction r with
  | zero => rfl
  | succ r ih => show (opQ w n c r).length + 1 + 1 = _; omega
theorem digQ_len (w : Int → Int) (n : Int) : (digQ w n).length ≤ 4 := by
  unfold digQ
  split
  · exact Nat.le_refl 4
  · split
    · exact (by decide : 2 ≤ 4)
    · exact (by decide : 0 ≤ 4)
def BgI (h : Hp) (n : Int) (L S : List Int) (m pc : Nat) (vs : List AV) (g : Hp) : Prop := ∃ (H : Rw), g = wI h H ∧ Fp (hI h) H ∧ 2 ≤ nd (hI h 63) n 0 ∧ ((pc = 75 ∧ ∃ i : Nat, vs = [.inr (.inr (some 62)), .inl n, .inl (nd (hI h 63) n 0), .inr (.inl (ws (nd (hI h 63) n 0) i))] ∧ (i : Int) ≤ wlen (nd (hI h 63) n 0) ∧ WS H (L ++ 40 :: wdU (nd (hI h 63) n 0) i) S ∧ m = 1000 + (6 - i)) ∨
  (pc = 203 ∧ ∃ r : Nat, vs = [.inr (.inr (some 62)), .inl n, .inl (opc (nd (hI h 63) n 0) - 1 - r)] ∧ (r : Int) ≤ opc (nd (hI h 63) n 0) ∧ WS H (L ++ bgP (hI h 63) n) (opQ (hI h 63) n (opc (nd (hI h 63) n 0)) r ++ (digQ (hI h 63) n ++ (-959 :: S))) ∧ m = (opc (nd (hI h 63) n 0) - r).toNat))
theorem BgI.w {h : Hp} {n : Int} {L S : List Int} {H : Rw} {i : Nat} {c : Int} {x : Int64} (hF : Fp (hI h) H) (k2 : 2 ≤ nd (hI h 63) n 0) (hi : (i : Int) < wlen (nd (hI h 63) n 0)) (h5 : wlen (nd (hI h 63) n 0) ≤ 5) (hl : L.length ≤ 120) (hS : WS H (L ++ 40 :: wdU (nd (hI h 63) n 0) i) S) (hc : c = wl (nd (hI h 63) n 0) i) (hx : x = ws (nd (hI h 63) n 0) (i + 1)) :
    ∃ k', k' < 1000 + (6 - i) ∧ BgI h n L S k' 75 [.inr (.inr (some 62)), .inl n, .inl (nd (hI h 63) n 0), .inr (.inl x)] (wI h (pAd H c)) := by
  subst hc hx
  refine ⟨1000 + (6 - (i + 1)), by omega, _, rfl, hF.put _, k2, Or.inl ⟨rfl, i + 1, rfl, by omega, ?_, rfl⟩⟩
  have := hS.put (by rw [List.length_append, List.length_cons, wdU_len]; omega) (wl (nd (hI h 63) n 0) i)
  rw [List.append_assoc] at this
  exact this
theorem BgI.o {h : Hp} {n : Int} {L S : List Int} {H : Rw} {r : Nat} {x y : Int} (hF : Fp (hI h) H) (k2 : 2 ≤ nd (hI h 63) n 0) (hi : (r : Int) < opc (nd (hI h 63) n 0)) (hl : S.length ≤ 600) (hS : WS H (L ++ bgP (hI h 63) n) (opQ (hI h 63) n (opc (nd (hI h 63) n 0)) r ++ (digQ (hI h 63) n ++ (-959 :: S)))) (hx : x = nd (hI h 63) n (2 + (opc (nd (hI h 63) n 0) - ((r : Int) + 1)))) (hy : y = opc (nd (hI h 63) n 0) - 1 - ((r : Int) + 1)) :
    ∃ k', k' < (opc (nd (hI h 63) n 0) - r).toNat ∧ BgI h n L S k' 203 [.inr (.inr (some 62)), .inl n, .inl y] (wI h (lAd (lAd H x) (-968))) := by
  have q := opQ_len (hI h 63) n (opc (nd (hI h 63) n 0)) r
  have d := digQ_len (hI h 63) n
  have oc := opc_rng (nd (hI h 63) n 0)
  have l1 : (opQ (hI h 63) n (opc (nd (hI h 63) n 0)) r ++ (digQ (hI h 63) n ++ (-959 :: S))).length < 640 := by
    rw [List.length_append, List.length_append, List.length_cons]
    omega
  subst hx hy
  exact ⟨(opc (nd (hI h 63) n 0) - (r + 1 : Nat)).toNat, by omega, _, rfl, (hF.later _).later _, k2, Or.inr ⟨rfl, r + 1, rfl, by omega, (hS.later (by omega) _).later (by rw [List.length_cons]; omega) _, rfl⟩⟩
theorem BgI.z {h : Hp} {n : Int} {L S : List Int} {H : Rw} (hF : Fp (hI h) H) (k2 : 2 ≤ nd (hI h 63) n 0) (hS : WS H (L ++ bgP (hI h 63) n) (digQ (hI h 63) n ++ (-959 :: S))) {m : Nat} (hm : 1000 ≤ m) :
    ∃ k', k' < m ∧ BgI h n L S k' 203 [.inr (.inr (some 62)), .inl n, .inl (opc (nd (hI h 63) n 0) - 1)] (wI h H) := by
  have oc := opc_rng (nd (hI h 63) n 0)
  refine ⟨(opc (nd (hI h 63) n 0) - 0).toNat, by omega, H, rfl, hF, k2, Or.inr ⟨rfl, 0, ?_, by show (0 : Int) ≤ _; omega, hS, rfl⟩⟩
  rw [show opc (nd (hI h 63) n 0) - 1 - ((0 : Nat) : Int) = opc (nd (hI h 63) n 0) - 1 by omega]
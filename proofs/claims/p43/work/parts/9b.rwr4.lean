/-! ===== the reference: a description written, all of it ===== -/
theorem WrQ.a {h : Hp} {n : Int} {H : Rw} {L T : List Int} {it : Int} (hF : Fp (hI h) H) (n0 : 0 ≤ n) (n1 : n < hI h 63 0) (hS : WS H L (it :: T)) (hI0 : ItO (hI h 63) (it :: T)) (hl : (it :: T).length ≤ 1 + 4 * L.length) (l1 : L.length ≤ 120) (hd : L ++ exS (dsc (hI h 63)) (it :: T) = dsc (hI h 63) n) (h0 : it < 0) :
    ∃ k', k' < 1000 + (131 - L.length) ∧ WrQ h n k' 25 [.inr (.inr (some 62)), .inl 1] (wI h (pAd (ur H 62 (up (H 62) 23 (H 62 23 - 1))) (it + 1000))) := by
  have p := hS.o.2.pop (s := ur H 62 (up (H 62) 23 (H 62 23 - 1))) (ur_ne (by decide)) (by rw [ur_self, up_self])
  have W1 : WrL (ur H 62 (up (H 62) 23 (H 62 23 - 1))) L := by
    obtain ⟨a1, a2, a3⟩ := hS.o.1.o
    exact Box.i ⟨by rw [ur_self, up_ne (by decide)]; exact a1, a2, a3⟩
  have W := WS.put (Box.i ⟨W1, p.1⟩) (by omega) (it + 1000)
  have F1 : Fp (hI h) (ur H 62 (up (H 62) 23 (H 62 23 - 1))) := hF.tr (Box.i ⟨fun a h1 h2 h3 => ur_ne h1, fun j h1 h2 => by rw [ur_self, up_ne h1]⟩)
  rw [List.length_cons] at hl
  rw [exS_n h0] at hd
  refine ⟨1000 + (131 - (L ++ [it + 1000]).length), by rw [List.length_append]; show _ + (131 - (L.length + 1)) < _; omega, _, rfl, Or.inl ⟨rfl, F1.put _, Or.inr ⟨n0, n1, _, T, rfl, W, Box.i fun x hx => hI0.o x (List.mem_cons_of_mem _ hx), by rw [List.length_append]; show _ ≤ 1 + 4 * (L.length + 1); omega, ?_, rfl⟩⟩⟩
  rw [List.append_assoc]
  exact hd
theorem WrQ.b {h : Hp} {n : Int} {H H' : Rw} {L T : List Int} {it : Int} (hW : WF (hI h 63)) (hF : Fp (hI h) H) (n0 : 0 ≤ n) (n1 : n < hI h 63 0) (hI0 : ItO (hI h 63) (it :: T)) (hl : (it :: T).length ≤ 1 + 4 * L.length) (l1 : L.length ≤ 120) (hd : L ++ exS (dsc (hI h 63)) (it :: T) = dsc (hI h 63) n) (h0 : 0 ≤ it)
    (hF' : Fp (ur H 62 (up (H 62) 23 (H 62 23 - 1))) H') (hS : WS H' (L ++ bgP (hI h 63) it) (bgQ (hI h 63) it T)) : ∃ k', k' < 1000 + (131 - L.length) ∧ WrQ h n k' 25 [.inr (.inr (some 62)), .inl 1] (wI h H') := by
  have F1 : Fp (hI h) (ur H 62 (up (H 62) 23 (H 62 23 - 1))) := hF.tr (Box.i ⟨fun a h1 h2 h3 => ur_ne h1, fun j h1 h2 => by rw [ur_self, up_ne h1]⟩)
  have i1 := hI0.o it List.mem_cons_self
  obtain ⟨b1, b2, b3, b4, b5⟩ := bgQ_it hW h0 i1 (S := T) (Box.i fun x hx => hI0.o x (List.mem_cons_of_mem _ hx))
  rw [List.length_cons] at hl
  rw [exS_p h0, ← bg_ds hW h0 i1] at hd
  refine ⟨1000 + (131 - (L ++ bgP (hI h 63) it).length), by rw [List.length_append]; omega, _, rfl, Or.inl ⟨rfl, F1.tr hF', Or.inr ⟨n0, n1, _, _, rfl, hS, b1, ?_, ?_, rfl⟩⟩⟩
  · rw [List.length_append]
    by_cases z : T.length < (bgQ (hI h 63) it T).length
    · have := b5 z; omega
    · omega
  · rw [List.append_assoc]
    exact hd
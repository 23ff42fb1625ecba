/-! ===== the reference: a description written, all of it ===== -/
theorem WrQ.a {h : Hp} {n : Int} {H : Rw} {L T : List Int} {it : Int} (hF : Fp (hI h) H) (n0 : 0 ≤ n) (n1 : n < hI h 63 0) (hS : WS H L (it :: T)) (hI0 : ItO (hI h 63) (it :: T)) (hl : (it :: T).length ≤ 1 + 4 * L.length) (l1 : L.length ≤ 120) (hd : L ++ exS (dsc (hI h 63)) (it :: T) = dsc (hI h 63) n) (h0 : it < 0) :
    ∃ k', k' < 1000 + (131 - L.length) ∧ WrQ h n k' 25 [.inr (.inr (some 62)), .inl 1] (wI h (pAd (ur H 62 (up (H 62) 23 (H 62 23 - 1))) (it + 1000))) := by
  have p := hS.o.2.pop (s := ur H 62 (up (H 62) 23 (H 62 23 - 1))) (ur_ne (by decide)) (by rw [ur_self, up_self])
  have W1 : WrL (ur H 62 (up (H 62) 23 (H 62 23 - 1))) L := by
    obtain ⟨a1, a2, a3⟩ := hS.o.1.o
    exact Box.i ⟨by rw [ur_self, up_ne (by decide)]; exact a1, a2, a3⟩
  have W := WS.put (Box.i ⟨W1, p.1⟩) (by omega) (it + 1000)
  have F1 : Fp (hI h) (ur H 62 (up (H 62) 23 (H 62 23 - 1))) := hF.tr (Box.i ⟨fun a h1 h2 h3 => ur_ne h1, fun j h1 h2 => by rw [ur_self, up_ne h1]⟩)
  rw [List.length_cons] at hl
  rw [exS_n h0] at hd
  refine ⟨1000 + (131 - (L ++ [it + 1000]).length), by rw [List.length_append]; show _ + (131 - (L.length + 1)) < _; omega, _, rfl, Or.inl ⟨rfl, F1.put _, Or.inr ⟨n0, n1, _, T, rfl, W, Box.i fun x hx => hI0.o x (List.mem_cons_of_mem _ hx), by rw [List.length_append]; show _ ≤ 1 + 4 * (L.length + 1); omega, ?_, rfl⟩⟩⟩
  rw [List.append_assoc]
  exact hd
theorem WrQ.b {h : Hp} {n : Int} {H H' : Rw} {L T : List Int} {it : Int} (hW : WF (hI h 63)) (hF : Fp (hI h) H) (n0 : 0 ≤ n) (n1 : n < hI h 63 0) (hI0 : ItO (hI h 63) (it :: T)) (hl : (it :: T).length ≤ 1 + 4 * L.length) (l1 : L.length ≤ 120) (hd : L ++ exS (dsc (hI h 63)) (it :: T) = dsc (hI h 63) n) (h0 : 0 ≤ it)
    (hF' : Fp (ur H 62 (up (H 62) 23 (H 62 23 - 1))) H') (hS : WS H' (L ++ bgP (hI h 63) it) (bgQ (hI h 63) it T)) : ∃ k', k' < 1000 + (131 - L.length) ∧ WrQ h n k' 25 [.inr (.inr (some 62)), .inl 1] (wI h H') := by
  have F1 : Fp (hI h) (ur H 62 (up (H 62) 23 (H 62 23 - 1))) := hF.tr (Box.i ⟨fun a h1 h2 h3 => ur_ne h1, fun j h1 h2 => by rw [ur_self, up_ne h1]⟩)
  have i1 := hI0.o it List.mem_cons_self
  obtain ⟨b1, b2, b3, b4, b5⟩ := bgQ_it hW h0 i1 (S := T) (Box.i fun x hx => hI0.o x (List.mem_cons_of_mem _ hx))
  rw [List.length_cons] at hl
  rw [exS_p h0, ← bg_ds hW h0 i1] at hd
  refine ⟨1000 + (131 - (L ++ bgP (hI h 63) it).length), by rw [List.length_append]; omega, _, rfl, Or.inl ⟨rfl, F1.tr hF', Or.inr ⟨n0, n1, _, _, rfl, hS, b1, ?_, ?_, rfl⟩⟩⟩
  · rw [List.length_append]
    by_cases z : T.length < (bgQ (hI h 63) it T).length
    · have := b5 z; omega
    · omega
  · rw [List.append_assoc]
    exact hd
def s_X10_write : CS := (zc 4, ap [(3, 62), (0, 0)] (fun n h Rt X =>
WF (hI h 63) ∧ (¬ (0 ≤ n ∧ n < hI h 63 0) → ∀ H, WrX h H 1 → Rt (some (.inl 0)) (wI h H)) ∧ (0 ≤ n ∧ n < hI h 63 0 → 120 < (dsc (hI h 63) n).length → ∀ H, WrX h H 2 → Rt (some (.inl 0)) (wI h H)) ∧
(0 ≤ n ∧ n < hI h 63 0 → (dsc (hI h 63) n).length ≤ 120 → ∀ H, WrY h H (dsc (hI h 63) n) → Rt (some (.inl ((dsc (hI h 63) n).length : Int))) (wI h H))))
set_option maxRecDepth 100000 in
set_option maxHeartbeats 4000000 in
theorem o_X10_write : Obl true 1 4 (sp [(199, s_X10_isNode), (282, s_X10_later), (281, s_X10_puts), (284, s_X10_begins), (191, s_X10_refused)]) [] code_X10_write s_X10_write := by
  refine oblL (by rfl) [(25, [0, 2]), (118, [0, 3])] ?_
  intro n r_n h Rt X hh hf hs
  obtain ⟨hW, h2, h3, h4⟩ := hs
  have nn := hW.nn
  refine ⟨WrQ h n, ?_, ?_⟩
  · have F0 : Fp (hI h) (ur (hI h) 62 (up (up (hI h 62) 25 0) 23 0)) := Box.i ⟨fun a h1 h2 h3 => ur_ne h1, fun j h1 h2 => by rw [ur_self, up_ne h1, up_ne h2]⟩
    by_cases y : 0 ≤ n ∧ n < hI h 63 0
    · have W0 : WS (ur (hI h) 62 (up (up (hI h 62) 25 0) 23 0)) [] [] := Box.i ⟨Box.i ⟨rfl, by decide, fun i hi => by cases hi⟩, Box.i ⟨rfl, by decide, fun i hi => by cases hi⟩⟩
      have B : WrQ h n 1131 25 [.inr (.inr (some 62)), .inl 1] (wI h (lAd (ur (hI h) 62 (up (up (hI h 62) 25 0) 23 0)) n)) :=
        ⟨_, rfl, Or.inl ⟨rfl, F0.later n, Or.inr ⟨y.1, y.2, [], [n], rfl, W0.later (by decide) n, Box.i (fun x hx => by rw [List.mem_singleton.mp hx]; exact y.2), by show 1 ≤ 1 + 4 * 0; decide, by rw [exS_p y.1]; exact List.append_nil _, rfl⟩⟩⟩
      repeat' (first | apply And.intro | (with_reducible assumption) | (intro h9; first | (exfalso; omega) | (simp only [rI_rI, rJ_rJ, hI_rI, hJ_rI, hI_rJ, hJ_rJ, hI_rR, hR_rI, hR_rJ, hN_rI, hN_rJ, svH_63, svH_66, rfH_63, wvH_63, wvH_62, wvH_67, wvH_68, wvH_69, sc_63, sc_n62, sc_n67, sc_n68, sc_n69, sc_n70, reduceIte, Nat.reduceEqDiff, eq_self, up_up, up_self, up_ne, ne_eq, not_false_eq_true, Int.reduceEq, Int.reduceNeg, hI_wI, wI_rI] at h9; first | (exfalso; omega) | skip) | skip) | (simp only [rI_rI, rJ_rJ, hI_rI, hJ_rI, hI_rJ, hJ_rJ, hI_rR, hR_rI, hR_rJ, hN_rI, hN_rJ, svH_63, svH_66, rfH_63, wvH_63, wvH_62, wvH_67, wvH_68, wvH_69, sc_63, sc_n62, sc_n67, sc_n68, sc_n69, sc_n70, reduceIte, Nat.reduceEqDiff, eq_self, up_up, up_self, up_ne, ne_eq, not_false_eq_true, Int.reduceEq, Int.reduceNeg, hI_wI, wI_rI]; exact Exists.intro _ B) | exact h2 | exact h2 (by omega) | exact h3 | exact h3 (by omega) | exact h4 | exact h4 (by omega) | omega | exact True.intro | (simp only [rI_rI, rJ_rJ, hI_rI, hJ_rI, hI_rJ, hJ_rJ, hI_rR, hR_rI, hR_rJ, hN_rI, hN_rJ, svH_63, svH_66, rfH_63, wvH_63, wvH_62, wvH_67, wvH_68, wvH_69, sc_63, sc_n62, sc_n67, sc_n68, sc_n69, sc_n70, reduceIte, Nat.reduceEqDiff, eq_self, up_up, up_self, up_ne, ne_eq, not_false_eq_true, Int.reduceEq, Int.reduceNeg, hI_wI, wI_rI]; omega))
    · have B : WrQ h n 0 25 [.inr (.inr (some 62)), .inl 0] (rI h 62 (up (up (hI h 62) 25 0) 23 0)) := ⟨_, rfl, Or.inl ⟨rfl, F0, Or.inl ⟨rfl, y, rfl, rfl, rfl⟩⟩⟩
      repeat' (first | apply And.intro | (with_reducible assumption) | (intro h9; first | (exfalso; omega) | (simp only [rI_rI, rJ_rJ, hI_rI, hJ_rI, hI_rJ, hJ_rJ, hI_rR, hR_rI, hR_rJ, hN_rI, hN_rJ, svH_63, svH_66, rfH_63, wvH_63, wvH_62, wvH_67, wvH_68, wvH_69, sc_63, sc_n62, sc_n67, sc_n68, sc_n69, sc_n70, reduceIte, Nat.reduceEqDiff, eq_self, up_up, up_self, up_ne, ne_eq, not_false_eq_true, Int.reduceEq, Int.reduceNeg, hI_wI, wI_rI] at h9; first | (exfalso; omega) | skip) | skip) | (simp only [rI_rI, rJ_rJ, hI_rI, hJ_rI, hI_rJ, hJ_rJ, hI_rR, hR_rI, hR_rJ, hN_rI, hN_rJ, svH_63, svH_66, rfH_63, wvH_63, wvH_62, wvH_67, wvH_68, wvH_69, sc_63, sc_n62, sc_n67, sc_n68, sc_n69, sc_n70, reduceIte, Nat.reduceEqDiff, eq_self, up_up, up_self, up_ne, ne_eq, not_false_eq_true, Int.reduceEq, Int.reduceNeg, hI_wI, wI_rI]; exact Exists.intro _ B) | exact h2 | exact h2 (by omega) | exact h3 | exact h3 (by omega) | exact h4 | exact h4 (by omega) | omega | exact True.intro | (simp only [rI_rI, rJ_rJ, hI_rI, hJ_rI, hI_rJ, hJ_rJ, hI_rR, hR_rI, hR_rJ, hN_rI, hN_rJ, svH_63, svH_66, rfH_63, wvH_63, wvH_62, wvH_67, wvH_68, wvH_69, sc_63, sc_n62, sc_n67, sc_n68, sc_n69, sc_n70, reduceIte, Nat.reduceEqDiff, eq_self, up_up, up_self, up_ne, ne_eq, not_false_eq_true, Int.reduceEq, Int.reduceNeg, hI_wI, wI_rI]; omega))
  · rintro m pc vs' vs g hl ⟨H, rfl, (⟨rfl, hF, (⟨rfl, y, e23, e25, rfl⟩ | ⟨n0, n1, L, S, rfl, hS, hIt, hl1, hd, rfl⟩)⟩ | ⟨rfl, n0, n1, d1, k, rfl, k1, a1, a2, a3, a4, a5, a6, rfl⟩)⟩ hv hh1 hf1
    · obtain ⟨_, rfl⟩ | ⟨e, _⟩ := look2 hl
      · have K := h2 y (ur H 62 (up (H 62) 4 1)) (Box.i ⟨fun a h1 h2 h3 => by rw [ur_ne h1]; exact hF.o.1 a h1 h2 h3, by rw [ur_self, up_self], fun j h1 h2 h3 => by rw [ur_self, up_ne h1]; exact hF.o.2 j h2 h3⟩)
        repeat' (first | apply And.intro | (with_reducible assumption) | (intro h9; first | (exfalso; omega) | (simp only [rI_rI, rJ_rJ, hI_rI, hJ_rI, hI_rJ, hJ_rJ, hI_rR, hR_rI, hR_rJ, hN_rI, hN_rJ, svH_63, svH_66, rfH_63, wvH_63, wvH_62, wvH_67, wvH_68, wvH_69, sc_63, sc_n62, sc_n67, sc_n68, sc_n69, sc_n70, reduceIte, Nat.reduceEqDiff, eq_self, up_up, up_self, up_ne, ne_eq, not_false_eq_true, Int.reduceEq, Int.reduceNeg, hI_wI, wI_rI] at h9; first | (exfalso; omega) | skip) | skip) | exact K | exact h2 | exact h2 (by omega) | exact h3 | exact h3 (by omega) | exact h4 | exact h4 (by omega) | omega | exact True.intro | (simp only [rI_rI, rJ_rJ, hI_rI, hJ_rI, hI_rJ, hJ_rJ, hI_rR, hR_rI, hR_rJ, hN_rI, hN_rJ, svH_63, svH_66, rfH_63, wvH_63, wvH_62, wvH_67, wvH_68, wvH_69, sc_63, sc_n62, sc_n67, sc_n68, sc_n69, sc_n70, reduceIte, Nat.reduceEqDiff, eq_self, up_up, up_self, up_ne, ne_eq, not_false_eq_true, Int.reduceEq, Int.reduceNeg, hI_wI, wI_rI]; omega))
      · omega
    · obtain ⟨_, rfl⟩ | ⟨e, _⟩ := look2 hl
      · obtain ⟨e25, e23⟩ := hS.n
        have R2 : 120 < L.length → Rt (some (.inl 0)) (wI h (ur H 62 (up (H 62) 4 2))) := fun q => h3 ⟨n0, n1⟩ (by rw [← hd, List.length_append]; omega) _ (Box.i ⟨fun a h1 h2 h3 => by rw [ur_ne h1]; exact hF.o.1 a h1 h2 h3, by rw [ur_self, up_self], fun j h1 h2 h3 => by rw [ur_self, up_ne h1]; exact hF.o.2 j h2 h3⟩)
        by_cases l1 : 120 < L.length
        · have K := R2 l1
          repeat' (first | apply And.intro | (with_reducible assumption) | (intro h9; first | (exfalso; omega) | (simp only [rI_rI, rJ_rJ, hI_rI, hJ_rI, hI_rJ, hJ_rJ, hI_rR, hR_rI, hR_rJ, hN_rI, hN_rJ, svH_63, svH_66, rfH_63, wvH_63, wvH_62, wvH_67, wvH_68, wvH_69, sc_63, sc_n62, sc_n67, sc_n68, sc_n69, sc_n70, reduceIte, Nat.reduceEqDiff, eq_self, up_up, up_self, up_ne, ne_eq, not_false_eq_true, Int.reduceEq, Int.reduceNeg, hI_wI, wI_rI] at h9; first | (exfalso; omega) | skip) | skip) | exact K | exact h2 | exact h2 (by omega) | exact h3 | exact h3 (by omega) | exact h4 | exact h4 (by omega) | omega | exact True.intro | (simp only [rI_rI, rJ_rJ, hI_rI, hJ_rI, hI_rJ, hJ_rJ, hI_rR, hR_rI, hR_rJ, hN_rI, hN_rJ, svH_63, svH_66, rfH_63, wvH_63, wvH_62, wvH_67, wvH_68, wvH_69, sc_63, sc_n62, sc_n67, sc_n68, sc_n69, sc_n70, reduceIte, Nat.reduceEqDiff, eq_self, up_up, up_self, up_ne, ne_eq, not_false_eq_true, Int.reduceEq, Int.reduceNeg, hI_wI, wI_rI]; omega))
        · cases S with
          | nil =>
            have hd : L = dsc (hI h 63) n := by rw [← hd]; exact (List.append_nil L).symm
            have z23 : H 62 23 = 0 := e23
            have C : ∃ k', k' < 1000 + (131 - L.length) ∧ WrQ h n k' 118 [.inr (.inr (some 62)), .inl 0] (wI h (ur H 62 (up (H 62) 4 0))) := by
              refine ⟨(dsc (hI h 63) n).length - 0, by rw [← hd]; omega, _, rfl, Or.inr ⟨rfl, n0, n1, by rw [← hd]; omega, 0, rfl, by omega, fun a h1 h2 h3 h4 => by rw [ur_ne h1]; exact hF.o.1 a h1 h3 h4, by rw [ur_self, up_self], ?_, ?_, fun i hi => by omega, fun j h1 h2 h3 => by rw [ur_self, up_ne h1]; exact hF.o.2 j h2 h3, rfl⟩⟩
              · rw [ur_self, up_ne (by decide), e25, hd]
              · rw [ur_ne (by decide), ← hd]
                exact hS.o.1.o.2.2
            repeat' (first | apply And.intro | (with_reducible assumption) | (intro h9; first | (exfalso; omega) | (simp only [rI_rI, rJ_rJ, hI_rI, hJ_rI, hI_rJ, hJ_rJ, hI_rR, hR_rI, hR_rJ, hN_rI, hN_rJ, svH_63, svH_66, rfH_63, wvH_63, wvH_62, wvH_67, wvH_68, wvH_69, sc_63, sc_n62, sc_n67, sc_n68, sc_n69, sc_n70, reduceIte, Nat.reduceEqDiff, eq_self, up_up, up_self, up_ne, ne_eq, not_false_eq_true, Int.reduceEq, Int.reduceNeg, hI_wI, wI_rI] at h9; first | (exfalso; omega) | skip) | skip) | exact C | exact h2 | exact h2 (by omega) | exact h3 | exact h3 (by omega) | exact h4 | exact h4 (by omega) | omega | exact True.intro | (simp only [rI_rI, rJ_rJ, hI_rI, hJ_rI, hI_rJ, hJ_rJ, hI_rR, hR_rI, hR_rJ, hN_rI, hN_rJ, svH_63, svH_66, rfH_63, wvH_63, wvH_62, wvH_67, wvH_68, wvH_69, sc_63, sc_n62, sc_n67, sc_n68, sc_n69, sc_n70, reduceIte, Nat.reduceEqDiff, eq_self, up_up, up_self, up_ne, ne_eq, not_false_eq_true, Int.reduceEq, Int.reduceNeg, hI_wI, wI_rI]; omega))
          | cons x T =>
            have p := hS.o.2.pop (s := ur H 62 (up (H 62) 23 (H 62 23 - 1))) (ur_ne (by decide)) (by rw [ur_self, up_self])
            have z23 : H 62 23 = (T.length : Int) + 1 := by rw [e23, List.length_cons]; rfl
            have ex : H 75 (H 62 23 - 1) = x := by rw [show H 62 23 - 1 = (T.length : Int) by omega]; exact p.2
            have ls := hS.o.2.o.2.1
            rw [List.length_cons] at ls
            have i1 := hIt.o x List.mem_cons_self
            subst ex
            have W1 : WrL (ur H 62 (up (H 62) 23 (H 62 23 - 1))) L := by
              obtain ⟨a1, a2, a3⟩ := hS.o.1.o
              exact Box.i ⟨by rw [ur_self, up_ne (by decide)]; exact a1, a2, a3⟩
            have WS1 : WS (ur H 62 (up (H 62) 23 (H 62 23 - 1))) L T := Box.i ⟨W1, p.1⟩
            have hl2 := hl1
            rw [List.length_cons] at hl2
            have e63 : H 63 = hI h 63 := hF.o.1 63 (by decide) (by decide) (by decide)
            by_cases h0 : H 75 (H 62 23 - 1) < 0
            · have z3 : -2147483648 ≤ H 75 (H 62 23 - 1) := (hh1.1 75 (H 62 23 - 1)).1
              have Y := WrQ.a hF n0 n1 hS hIt hl1 (by omega) hd h0
              repeat' (first | apply And.intro | (with_reducible assumption) | (intro h9; first | (exfalso; omega) | (simp only [rI_rI, rJ_rJ, hI_rI, hJ_rI, hI_rJ, hJ_rJ, hI_rR, hR_rI, hR_rJ, hN_rI, hN_rJ, svH_63, svH_66, rfH_63, wvH_63, wvH_62, wvH_67, wvH_68, wvH_69, sc_63, sc_n62, sc_n67, sc_n68, sc_n69, sc_n70, reduceIte, Nat.reduceEqDiff, eq_self, up_up, up_self, up_ne, ne_eq, not_false_eq_true, Int.reduceEq, Int.reduceNeg, hI_wI, wI_rI] at h9; first | (exfalso; omega) | skip) | skip) | exact Y | (simp only [rI_rI, rJ_rJ, hI_rI, hJ_rI, hI_rJ, hJ_rJ, hI_rR, hR_rI, hR_rJ, hN_rI, hN_rJ, svH_63, svH_66, rfH_63, wvH_63, wvH_62, wvH_67, wvH_68, wvH_69, sc_63, sc_n62, sc_n67, sc_n68, sc_n69, sc_n70, reduceIte, Nat.reduceEqDiff, eq_self, up_up, up_self, up_ne, ne_eq, not_false_eq_true, Int.reduceEq, Int.reduceNeg, hI_wI, wI_rI]; exact Y) | exact h2 | exact h2 (by omega) | exact h3 | exact h3 (by omega) | exact h4 | exact h4 (by omega) | omega | exact True.intro | (simp only [rI_rI, rJ_rJ, hI_rI, hJ_rI, hI_rJ, hJ_rJ, hI_rR, hR_rI, hR_rJ, hN_rI, hN_rJ, svH_63, svH_66, rfH_63, wvH_63, wvH_62, wvH_67, wvH_68, wvH_69, sc_63, sc_n62, sc_n67, sc_n68, sc_n69, sc_n70, reduceIte, Nat.reduceEqDiff, eq_self, up_up, up_self, up_ne, ne_eq, not_false_eq_true, Int.reduceEq, Int.reduceNeg, hI_wI, wI_rI]; omega))
            · have Y := fun H' => WrQ.b (H' := H') hW hF n0 n1 hIt hl1 (by omega) hd (by omega)
              rw [← e63] at i1 hW Y
              repeat' (first | apply And.intro | (with_reducible assumption) | (intro h9; first | (exfalso; omega) | (simp only [rI_rI, rJ_rJ, hI_rI, hJ_rI, hI_rJ, hJ_rJ, hI_rR, hR_rI, hR_rJ, hN_rI, hN_rJ, svH_63, svH_66, rfH_63, wvH_63, wvH_62, wvH_67, wvH_68, wvH_69, sc_63, sc_n62, sc_n67, sc_n68, sc_n69, sc_n70, reduceIte, Nat.reduceEqDiff, eq_self, up_up, up_self, up_ne, ne_eq, not_false_eq_true, Int.reduceEq, Int.reduceNeg, hI_wI, wI_rI] at h9; first | (exfalso; omega) | skip) | skip) | (refine Exists.intro L (Exists.intro T ?_)) | exact hW | exact WS1 | exact Y _ (by assumption) (by assumption) | exact h2 | exact h2 (by omega) | exact h3 | exact h3 (by omega) | exact h4 | exact h4 (by omega) | omega | exact True.intro | (simp only [rI_rI, rJ_rJ, hI_rI, hJ_rI, hI_rJ, hJ_rJ, hI_rR, hR_rI, hR_rJ, hN_rI, hN_rJ, svH_63, svH_66, rfH_63, wvH_63, wvH_62, wvH_67, wvH_68, wvH_69, sc_63, sc_n62, sc_n67, sc_n68, sc_n69, sc_n70, reduceIte, Nat.reduceEqDiff, eq_self, up_up, up_self, up_ne, ne_eq, not_false_eq_true, Int.reduceEq, Int.reduceNeg, hI_wI, wI_rI]; omega))
      · omega
    · obtain ⟨e, _⟩ | ⟨_, rfl⟩ := look2 hl
      · omega
      · by_cases y : k < (dsc (hI h 63) n).length
        · have C : ∃ k', k' < (dsc (hI h 63) n).length - k ∧ WrQ h n k' 118 [.inr (.inr (some 62)), .inl ((k : Int) + 1)] (wI h (ur H 66 (up (H 66) k (H 76 k)))) := by
            refine ⟨(dsc (hI h 63) n).length - (k + 1), by omega, _, rfl, Or.inr ⟨rfl, n0, n1, d1, k + 1, rfl, by omega, fun a h1 h2 h3 h4 => by rw [ur_ne h2]; exact a1 a h1 h2 h3 h4, a2, a3, a4, fun i hi => ?_, a6, rfl⟩⟩
            rw [ur_self]
            by_cases e : i = k
            · subst e; rw [up_self]; exact a4 i y
            · rw [up_ne (by omega)]; exact a5 i (by omega)
          repeat' (first | apply And.intro | (with_reducible assumption) | (intro h9; first | (exfalso; omega) | (simp only [rI_rI, rJ_rJ, hI_rI, hJ_rI, hI_rJ, hJ_rJ, hI_rR, hR_rI, hR_rJ, hN_rI, hN_rJ, svH_63, svH_66, rfH_63, wvH_63, wvH_62, wvH_67, wvH_68, wvH_69, sc_63, sc_n62, sc_n67, sc_n68, sc_n69, sc_n70, reduceIte, Nat.reduceEqDiff, eq_self, up_up, up_self, up_ne, ne_eq, not_false_eq_true, Int.reduceEq, Int.reduceNeg, hI_wI, wI_rI] at h9; first | (exfalso; omega) | skip) | skip) | exact C | exact h2 | exact h2 (by omega) | exact h3 | exact h3 (by omega) | exact h4 | exact h4 (by omega) | omega | exact True.intro | (simp only [rI_rI, rJ_rJ, hI_rI, hJ_rI, hI_rJ, hJ_rJ, hI_rR, hR_rI, hR_rJ, hN_rI, hN_rJ, svH_63, svH_66, rfH_63, wvH_63, wvH_62, wvH_67, wvH_68, wvH_69, sc_63, sc_n62, sc_n67, sc_n68, sc_n69, sc_n70, reduceIte, Nat.reduceEqDiff, eq_self, up_up, up_self, up_ne, ne_eq, not_false_eq_true, Int.reduceEq, Int.reduceNeg, hI_wI, wI_rI]; omega))
        · have ke : k = (dsc (hI h 63) n).length := by omega
          have K := h4 ⟨n0, n1⟩ d1 (ur H 62 (up (H 62) 6 (H 62 25))) (Box.i ⟨fun a h1 h2 h3 h4 => by rw [ur_ne h1]; exact a1 a h1 h2 h3 h4, by rw [ur_self, up_ne (by decide)]; exact a2, by rw [ur_self, up_self]; exact a3, by rw [ur_ne (by decide), ← ke]; exact a5, fun j h1 h2 h3 h4 => by rw [ur_self, up_ne h2]; exact a6 j h1 h3 h4⟩)
          rw [← a3] at K
          repeat' (first | apply And.intro | (with_reducible assumption) | (intro h9; first | (exfalso; omega) | (simp only [rI_rI, rJ_rJ, hI_rI, hJ_rI, hI_rJ, hJ_rJ, hI_rR, hR_rI, hR_rJ, hN_rI, hN_rJ, svH_63, svH_66, rfH_63, wvH_63, wvH_62, wvH_67, wvH_68, wvH_69, sc_63, sc_n62, sc_n67, sc_n68, sc_n69, sc_n70, reduceIte, Nat.reduceEqDiff, eq_self, up_up, up_self, up_ne, ne_eq, not_false_eq_true, Int.reduceEq, Int.reduceNeg, hI_wI, wI_rI] at h9; first | (exfalso; omega) | skip) | skip) | exact K | (simp only [rI_rI, rJ_rJ, hI_rI, hJ_rI, hI_rJ, hJ_rJ, hI_rR, hR_rI, hR_rJ, hN_rI, hN_rJ, svH_63, svH_66, rfH_63, wvH_63, wvH_62, wvH_67, wvH_68, wvH_69, sc_63, sc_n62, sc_n67, sc_n68, sc_n69, sc_n70, reduceIte, Nat.reduceEqDiff, eq_self, up_up, up_self, up_ne, ne_eq, not_false_eq_true, Int.reduceEq, Int.reduceNeg, hI_wI, wI_rI]; exact K) | exact h2 | exact h2 (by omega) | exact h3 | exact h3 (by omega) | exact h4 | exact h4 (by omega) | omega | exact True.intro | (simp only [rI_rI, rJ_rJ, hI_rI, hJ_rI, hI_rJ, hJ_rJ, hI_rR, hR_rI, hR_rJ, hN_rI, hN_rJ, svH_63, svH_66, rfH_63, wvH_63, wvH_62, wvH_67, wvH_68, wvH_69, sc_63, sc_n62, sc_n67, sc_n68, sc_n69, sc_n70, reduceIte, Nat.reduceEqDiff, eq_self, up_up, up_self, up_ne, ne_eq, not_false_eq_true, Int.reduceEq, Int.reduceNeg, hI_wI, wI_rI]; omega))
theorem m_X10_write : MM 285 s_X10_write := mm_of (own := 9) (by rfl) k_X10_write (cl := [(199, s_X10_isNode), (282, s_X10_later), (281, s_X10_puts), (284, s_X10_begins), (191, s_X10_refused)]) ⟨m_X10_isNode, m_X10_later, m_X10_puts, m_X10_begins, m_X10_refused, trivial⟩ o_X10_write

/-! ===== the class: comparisons in lanes ===== -/
/-- a word read with or without its sign -/
def sgI (g A k : Int) : Int := if g = 0 then A else sgn A k
/-- the planes, one of them turned over -/
def tnP (P : Int → Int64) (g p : Int) : Int → Int64 := fun x => if g ≠ 0 ∧ x = p then P x ^^^ Int64.ofNat 18446744073709551615 else P x
theorem tn_lw {P : Int → Int64} {g a k : Int} {l : Nat} (hl : l < 64) (h1 : 1 ≤ k) : lw (tnP P g (a + k - 1)) l a k.toNat = if g = 0 then lw P l a k.toNat else sgn (lw P l a k.toNat) k + p2 (k - 1) := by
  by_cases e : g = 0
  · rw [if_pos e]
    refine lw_eq (by omega) fun j _ _ => ?_
    unfold tnP
    rw [if_neg (fun q => q.1 e)]
  · rw [if_neg e]
    have e1 : (k - 1 + 1).toNat = k.toNat := by congr 1; omega
    have q := lw_i P l a (show 0 ≤ k - 1 by omega)
    have q2 := lw_i (tnP P g (a + k - 1)) l a (show 0 ≤ k - 1 by omega)
    rw [e1, show a + (k - 1) = a + k - 1 by omega] at q q2
    have elo : lw (tnP P g (a + k - 1)) l a (k - 1).toNat = lw P l a (k - 1).toNat := lw_eq (by omega) fun j _ _ => by
      unfold tnP
      rw [if_neg (fun q => by omega)]
    have et : tnP P g (a + k - 1) (a + k - 1) = P (a + k - 1) ^^^ Int64.ofNat 18446744073709551615 := by
      unfold tnP
      rw [if_pos ⟨e, rfl⟩]
    have r := lw_rngi P l a (show 0 ≤ k - 1 by omega)
    have e2 : p2 k = 2 * p2 (k - 1) := by rw [← p2_succ (by omega)]; congr 1; omega
    rw [q2, elo, et, lb_not hl]
    unfold sgn
    rw [q]
    cases lb (P (a + k - 1)) l with
    | true => 
      show _ + 0 * _ = _
      have : b2 true = 1 := rfl
      rw [this, Int.one_mul, if_pos (by omega)]
      omega
    | false =>
      show _ + 1 * _ = _
      have : b2 false = 0 := rfl
      rw [this, Int.zero_mul, Int.add_zero, if_neg (by omega)]
      omega
theorem tn_fin {P : Int → Int64} {g a b k : Int} {c : Int64} (h1 : 1 ≤ k) (h : BoI (tnP P g (a + k - 1)) (tnP P g (b + k - 1)) a b k c) : Box (∀ l, l < 64 → b2 (lb c l) = if sgI g (lw P l a k.toNat) k < sgI g (lw P l b k.toNat) k then 1 else 0) := Box.i fun l hl => by
  rw [h.o l hl, tn_lw hl h1, tn_lw hl h1]
  unfold sgI
  by_cases e : g = 0
  · rw [if_pos e, if_pos e, if_pos e, if_pos e]
  · rw [if_neg e, if_neg e, if_neg e, if_neg e]
    by_cases z : sgn (lw P l a k.toNat) k < sgn (lw P l b k.toNat) k
    · rw [if_pos z, if_pos (by omega)]
    · rw [if_neg z, if_neg (by omega)]
theorem xor0 (x : Int64) : x ^^^ 0 = x := lb_ext fun k _ => by rw [lb_xor, lb_0, Bool.xor_false]
def s_X3_less : CS := (zc 1, ap [(3, 43), (0, 0), (0, 0), (0, 0), (0, 0)] (fun a b k g h Rt X =>
(1 ≤ k ∧ k ≤ 8 ∧ 0 ≤ a ∧ a ≤ 320 ∧ 0 ≤ b ∧ b ≤ 320) ∧ ∀ c, Box (∀ l, l < 64 → b2 (lb c l) = if sgI g (lw (hJ h 44) l a k.toNat) k < sgI g (lw (hJ h 44) l b k.toNat) k then 1 else 0) → Rt (some (.inr (.inl c))) h))
set_option maxRecDepth 100000 in
set_option maxHeartbeats 4000000 in
theorem o_X3_less : Obl true 3 14 (sp []) [] code_X3_less s_X3_less := by
  refine oblL (by rfl) [(6, [0, 1, 2, 3, 4, 5, 7])] ?_
  intro a r_a b r_b k r_k g r_g h Rt X hh hf hs
  obtain ⟨⟨a1, a2, a3, a4, a5, a6⟩, h2⟩ := hs
  refine ⟨fun m pc vs g9 => ∃ (i : Int) (c : Int64), g9 = h ∧ vs = [.inr (.inr (some 43)), .inl a, .inl b, .inl k, .inl g, .inr (.inl c), .inl i] ∧ 0 ≤ i ∧ i ≤ k ∧ BoI (tnP (hJ h 44) g (a + k - 1)) (tnP (hJ h 44) g (b + k - 1)) a b i c ∧ m = (k - i).toNat, ?_, ?_⟩
  · repeat' (first | apply And.intro | (with_reducible assumption) | (intro h9; first | (exfalso; omega) | (simp only [rI_rI, rJ_rJ, hI_rI, hJ_rI, hI_rJ, hJ_rJ, hI_rR, hR_rI, hR_rJ, hN_rI, hN_rJ, svH_63, svH_66, rfH_63, wvH_63, wvH_62, wvH_67, wvH_68, wvH_69, sc_63, sc_n62, sc_n67, sc_n68, sc_n69, sc_n70, reduceIte, Nat.reduceEqDiff, eq_self, up_up, up_self, up_ne, ne_eq, not_false_eq_true, Int.reduceEq, Int.reduceNeg] at h9; first | (exfalso; omega) | skip) | skip) | exact Exists.intro _ ⟨0, 0, rfl, rfl, by omega, by omega, BoI.z _ _ _ _, rfl⟩ | exact h2 | exact h2 (by omega) | omega | exact True.intro | (simp only [rI_rI, rJ_rJ, hI_rI, hJ_rI, hI_rJ, hJ_rJ, hI_rR, hR_rI, hR_rJ, hN_rI, hN_rJ, svH_63, svH_66, rfH_63, wvH_63, wvH_62, wvH_67, wvH_68, wvH_69, sc_63, sc_n62, sc_n67, sc_n68, sc_n69, sc_n70, reduceIte, Nat.reduceEqDiff, eq_self, up_up, up_self, up_ne, ne_eq, not_false_eq_true, Int.reduceEq, Int.reduceNeg]; omega))
  · rintro m pc live vs g9 hl ⟨i, c, rfl, rfl, i1, i2, i3, rfl⟩ hv hh1 hf1
    obtain ⟨rfl, rfl⟩ := look1 hl
    by_cases z : i < k
    · have i4 := i3.st i1
      by_cases y : g ≠ 0 ∧ i = k - 1
      · have e1 : tnP (hJ g9 44) g (a + k - 1) (a + i) = hJ g9 44 (a + i) ^^^ Int64.ofNat 18446744073709551615 := if_pos ⟨y.1, by omega⟩
        have e2 : tnP (hJ g9 44) g (b + k - 1) (b + i) = hJ g9 44 (b + i) ^^^ Int64.ofNat 18446744073709551615 := if_pos ⟨y.1, by omega⟩
        rw [e1, e2] at i4
        repeat' (first | apply And.intro | (with_reducible assumption) | (intro h9; first | (exfalso; omega) | (simp only [rI_rI, rJ_rJ, hI_rI, hJ_rI, hI_rJ, hJ_rJ, hI_rR, hR_rI, hR_rJ, hN_rI, hN_rJ, svH_63, svH_66, rfH_63, wvH_63, wvH_62, wvH_67, wvH_68, wvH_69, sc_63, sc_n62, sc_n67, sc_n68, sc_n69, sc_n70, reduceIte, Nat.reduceEqDiff, eq_self, up_up, up_self, up_ne, ne_eq, not_false_eq_true, Int.reduceEq, Int.reduceNeg] at h9; first | (exfalso; omega) | skip) | skip) | exact Exists.intro _ ⟨by omega, i + 1, _, rfl, rfl, by omega, by omega, i4, rfl⟩ | exact h2 | exact h2 (by omega) | omega | exact True.intro | (simp only [rI_rI, rJ_rJ, hI_rI, hJ_rI, hI_rJ, hJ_rJ, hI_rR, hR_rI, hR_rJ, hN_rI, hN_rJ, svH_63, svH_66, rfH_63, wvH_63, wvH_62, wvH_67, wvH_68, wvH_69, sc_63, sc_n62, sc_n67, sc_n68, sc_n69, sc_n70, reduceIte, Nat.reduceEqDiff, eq_self, up_up, up_self, up_ne, ne_eq, not_false_eq_true, Int.reduceEq, Int.reduceNeg]; omega))
      · have e1 : tnP (hJ g9 44) g (a + k - 1) (a + i) = hJ g9 44 (a + i) ^^^ 0 := (if_neg (fun q => y ⟨q.1, by omega⟩)).trans (xor0 _).symm
        have e2 : tnP (hJ g9 44) g (b + k - 1) (b + i) = hJ g9 44 (b + i) ^^^ 0 := (if_neg (fun q => y ⟨q.1, by omega⟩)).trans (xor0 _).symm
        rw [e1, e2] at i4
        repeat' (first | apply And.intro | (with_reducible assumption) | (intro h9; first | (exfalso; omega) | (simp only [rI_rI, rJ_rJ, hI_rI, hJ_rI, hI_rJ, hJ_rJ, hI_rR, hR_rI, hR_rJ, hN_rI, hN_rJ, svH_63, svH_66, rfH_63, wvH_63, wvH_62, wvH_67, wvH_68, wvH_69, sc_63, sc_n62, sc_n67, sc_n68, sc_n69, sc_n70, reduceIte, Nat.reduceEqDiff, eq_self, up_up, up_self, up_ne, ne_eq, not_false_eq_true, Int.reduceEq, Int.reduceNeg] at h9; first | (exfalso; omega) | skip) | skip) | exact Exists.intro _ ⟨by omega, i + 1, _, rfl, rfl, by omega, by omega, i4, rfl⟩ | exact h2 | exact h2 (by omega) | omega | exact True.intro | (simp only [rI_rI, rJ_rJ, hI_rI, hJ_rI, hI_rJ, hJ_rJ, hI_rR, hR_rI, hR_rJ, hN_rI, hN_rJ, svH_63, svH_66, rfH_63, wvH_63, wvH_62, wvH_67, wvH_68, wvH_69, sc_63, sc_n62, sc_n67, sc_n68, sc_n69, sc_n70, reduceIte, Nat.reduceEqDiff, eq_self, up_up, up_self, up_ne, ne_eq, not_false_eq_true, Int.reduceEq, Int.reduceNeg]; omega))
    · obtain rfl : i = k := by omega
      have k2 := h2 c (tn_fin a1 i3)
      repeat' (first | apply And.intro | (with_reducible assumption) | (intro h9; first | (exfalso; omega) | (simp only [rI_rI, rJ_rJ, hI_rI, hJ_rI, hI_rJ, hJ_rJ, hI_rR, hR_rI, hR_rJ, hN_rI, hN_rJ, svH_63, svH_66, rfH_63, wvH_63, wvH_62, wvH_67, wvH_68, wvH_69, sc_63, sc_n62, sc_n67, sc_n68, sc_n69, sc_n70, reduceIte, Nat.reduceEqDiff, eq_self, up_up, up_self, up_ne, ne_eq, not_false_eq_true, Int.reduceEq, Int.reduceNeg] at h9; first | (exfalso; omega) | skip) | skip) | exact k2 | exact h2 | exact h2 (by omega) | omega | exact True.intro | (simp only [rI_rI, rJ_rJ, hI_rI, hJ_rI, hI_rJ, hJ_rJ, hI_rR, hR_rI, hR_rJ, hN_rI, hN_rJ, svH_63, svH_66, rfH_63, wvH_63, wvH_62, wvH_67, wvH_68, wvH_69, sc_63, sc_n62, sc_n67, sc_n68, sc_n69, sc_n70, reduceIte, Nat.reduceEqDiff, eq_self, up_up, up_self, up_ne, ne_eq, not_false_eq_true, Int.reduceEq, Int.reduceNeg]; omega))
theorem m_X3_less : MM 71 s_X3_less := mm_of (own := 2) (by rfl) k_X3_less (cl := []) trivial o_X3_less
/-- two words differ -/
def DfI (P : Int → Int64) (a b i : Int) (c : Int64) : Prop := Box (∀ l, l < 64 → (lb c l = false ↔ lw P l a i.toNat = lw P l b i.toNat))
theorem DfI.st {P : Int → Int64} {a b i : Int} {c : Int64} (h : DfI P a b i c) (h0 : 0 ≤ i) : DfI P a b (i + 1) (c ||| P (a + i) ^^^ P (b + i)) := Box.i fun l hl => by
  have ra := lw_rngi P l a h0
  have rb := lw_rngi P l b h0
  have q := h.o l hl
  rw [lb_or, Bool.or_eq_false_iff, q, lw_i P l a h0, lw_i P l b h0, lb_xor]
  cases lb (P (a + i)) l <;> cases lb (P (b + i)) l <;> simp [b2] <;> omega
def s_X3_differs : CS := (zc 1, ap [(3, 43), (0, 0), (0, 0), (0, 0)] (fun a b k h Rt X =>
(0 ≤ k ∧ k ≤ 8 ∧ 0 ≤ a ∧ a ≤ 320 ∧ 0 ≤ b ∧ b ≤ 320) ∧ ∀ c, DfI (hJ h 44) a b k c → Rt (some (.inr (.inl c))) h))
set_option maxRecDepth 100000 in
set_option maxHeartbeats 4000000 in
theorem o_X3_differs : Obl true 3 7 (sp []) [] code_X3_differs s_X3_differs := by
  refine oblL (by rfl) [(6, [0, 1, 2, 3, 4, 6])] ?_
  intro a r_a b r_b k r_k h Rt X hh hf hs
  obtain ⟨⟨a1, a2, a3, a4, a5, a6⟩, h2⟩ := hs
  refine ⟨fun m pc vs g => ∃ (i : Int) (c : Int64), g = h ∧ vs = [.inr (.inr (some 43)), .inl a, .inl b, .inl k, .inr (.inl c), .inl i] ∧ 0 ≤ i ∧ i ≤ k ∧ DfI (hJ h 44) a b i c ∧ m = (k - i).toNat, ?_, ?_⟩
  · have z : DfI (hJ h 44) a b 0 0 := Box.i fun l _ => ⟨fun _ => rfl, fun _ => lb_0 l⟩
    repeat' (first | apply And.intro | (with_reducible assumption) | (intro h9; first | (exfalso; omega) | (simp only [rI_rI, rJ_rJ, hI_rI, hJ_rI, hI_rJ, hJ_rJ, hI_rR, hR_rI, hR_rJ, hN_rI, hN_rJ, svH_63, svH_66, rfH_63, wvH_63, wvH_62, wvH_67, wvH_68, wvH_69, sc_63, sc_n62, sc_n67, sc_n68, sc_n69, sc_n70, reduceIte, Nat.reduceEqDiff, eq_self, up_up, up_self, up_ne, ne_eq, not_false_eq_true, Int.reduceEq, Int.reduceNeg] at h9; first | (exfalso; omega) | skip) | skip) | exact Exists.intro _ ⟨0, 0, rfl, rfl, by omega, by omega, z, rfl⟩ | exact h2 | exact h2 (by omega) | omega | exact True.intro | (simp only [rI_rI, rJ_rJ, hI_rI, hJ_rI, hI_rJ, hJ_rJ, hI_rR, hR_rI, hR_rJ, hN_rI, hN_rJ, svH_63, svH_66, rfH_63, wvH_63, wvH_62, wvH_67, wvH_68, wvH_69, sc_63, sc_n62, sc_n67, sc_n68, sc_n69, sc_n70, reduceIte, Nat.reduceEqDiff, eq_self, up_up, up_self, up_ne, ne_eq, not_false_eq_true, Int.reduceEq, Int.reduceNeg]; omega))
  · rintro m pc live vs g hl ⟨i, c, rfl, rfl, i1, i2, i3, rfl⟩ hv hh1 hf1
    obtain ⟨rfl, rfl⟩ := look1 hl
    by_cases z : i < k
    · have i4 := i3.st i1
      repeat' (first | apply And.intro | (with_reducible assumption) | (intro h9; first | (exfalso; omega) | (simp only [rI_rI, rJ_rJ, hI_rI, hJ_rI, hI_rJ, hJ_rJ, hI_rR, hR_rI, hR_rJ, hN_rI, hN_rJ, svH_63, svH_66, rfH_63, wvH_63, wvH_62, wvH_67, wvH_68, wvH_69, sc_63, sc_n62, sc_n67, sc_n68, sc_n69, sc_n70, reduceIte, Nat.reduceEqDiff, eq_self, up_up, up_self, up_ne, ne_eq, not_false_eq_true, Int.reduceEq, Int.reduceNeg] at h9; first | (exfalso; omega) | skip) | skip) | exact Exists.intro _ ⟨by omega, i + 1, _, rfl, rfl, by omega, by omega, i4, rfl⟩ | exact h2 | exact h2 (by omega) | omega | exact True.intro | (simp only [rI_rI, rJ_rJ, hI_rI, hJ_rI, hI_rJ, hJ_rJ, hI_rR, hR_rI, hR_rJ, hN_rI, hN_rJ, svH_63, svH_66, rfH_63, wvH_63, wvH_62, wvH_67, wvH_68, wvH_69, sc_63, sc_n62, sc_n67, sc_n68, sc_n69, sc_n70, reduceIte, Nat.reduceEqDiff, eq_self, up_up, up_self, up_ne, ne_eq, not_false_eq_true, Int.reduceEq, Int.reduceNeg]; omega))
    · obtain rfl : i = k := by omega
      have k2 := h2 c i3
      repeat' (first | apply And.intro | (with_reducible assumption) | (intro h9; first | (exfalso; omega) | (simp only [rI_rI, rJ_rJ, hI_rI, hJ_rI, hI_rJ, hJ_rJ, hI_rR, hR_rI, hR_rJ, hN_rI, hN_rJ, svH_63, svH_66, rfH_63, wvH_63, wvH_62, wvH_67, wvH_68, wvH_69, sc_63, sc_n62, sc_n67, sc_n68, sc_n69, sc_n70, reduceIte, Nat.reduceEqDiff, eq_self, up_up, up_self, up_ne, ne_eq, not_false_eq_true, Int.reduceEq, Int.reduceNeg] at h9; first | (exfalso; omega) | skip) | skip) | exact k2 | exact h2 | exact h2 (by omega) | omega | exact True.intro | (simp only [rI_rI, rJ_rJ, hI_rI, hJ_rI, hI_rJ, hJ_rJ, hI_rR, hR_rI, hR_rJ, hN_rI, hN_rJ, svH_63, svH_66, rfH_63, wvH_63, wvH_62, wvH_67, wvH_68, wvH_69, sc_63, sc_n62, sc_n67, sc_n68, sc_n69, sc_n70, reduceIte, Nat.reduceEqDiff, eq_self, up_up, up_self, up_ne, ne_eq, not_false_eq_true, Int.reduceEq, Int.reduceNeg]; omega))
theorem m_X3_differs : MM 70 s_X3_differs := mm_of (own := 2) (by rfl) k_X3_differs (cl := []) trivial o_X3_differs
theorem b2_not (x : Bool) : b2 (!x) = 1 - b2 x := by cases x <;> rfl
/-- what a comparison gives in the lanes -/
def CmL (P : Int → Int64) (n a b k : Int) (c : Int64) : Prop := Box (∀ l, l < 64 → b2 (lb c l) = cmpW n (lw P l a k.toNat) (lw P l b k.toNat) k)
theorem cm13 {P : Int → Int64} {a b k : Int} {c : Int64} (h : DfI P a b k c) : CmL P 13 a b k (c ^^^ Int64.ofNat 18446744073709551615) := Box.i fun l hl => by
  have e : ∀ A B, cmpW 13 A B k = if A = B then 1 else 0 := fun A B => by unfold cmpW; simp
  have q := h.o l hl
  rw [lb_not hl, e]
  cases u : lb c l with
  | true =>
    rw [u] at q
    rw [if_neg (fun z => by have := q.mpr z; cases this)]; rfl
  | false =>
    rw [u] at q
    rw [if_pos (q.mp rfl)]; rfl
theorem cmL {P : Int → Int64} {n a b k g : Int} {c : Int64} (hn : (n = 14 ∧ g = 0) ∨ (n = 16 ∧ g = 1)) (h : Box (∀ l, l < 64 → b2 (lb c l) = if sgI g (lw P l a k.toNat) k < sgI g (lw P l b k.toNat) k then 1 else 0)) : CmL P n a b k c := Box.i fun l hl => by
  rw [h.o l hl]
  unfold cmpW sgI
  rcases hn with ⟨rfl, rfl⟩ | ⟨rfl, rfl⟩
  · simp
  · simp
theorem cmLn {P : Int → Int64} {n a b k g : Int} {c : Int64} (hn : (n = 15 ∧ g = 0) ∨ (n = 17 ∧ g = 1)) (h : Box (∀ l, l < 64 → b2 (lb c l) = if sgI g (lw P l b k.toNat) k < sgI g (lw P l a k.toNat) k then 1 else 0)) : CmL P n a b k (c ^^^ Int64.ofNat 18446744073709551615) := Box.i fun l hl => by
  rw [lb_not hl, b2_not, h.o l hl]
  have z : ∀ X Y : Int, (1 : Int) - (if X < Y then 1 else 0) = if Y ≤ X then 1 else 0 := fun X Y => by
    by_cases e : X < Y
    · rw [if_pos e, if_neg (by omega)]; rfl
    · rw [if_neg e, if_pos (by omega)]; rfl
  rw [z]
  unfold cmpW sgI
  rcases hn with ⟨rfl, rfl⟩ | ⟨rfl, rfl⟩
  · simp
  · simp
def s_X3_compare : CS := (zc 2, ap [(3, 43), (0, 0), (0, 0), (0, 0), (0, 0)] (fun n a b k h Rt X =>
(13 ≤ n ∧ n ≤ 17) ∧ (1 ≤ k ∧ k ≤ 8 ∧ 0 ≤ a ∧ a ≤ 320 ∧ 0 ≤ b ∧ b ≤ 320) ∧ ∀ c, CmL (hJ h 44) n a b k c → Rt (some (.inr (.inl c))) h))
set_option maxRecDepth 100000 in
set_option maxHeartbeats 4000000 in
theorem o_X3_compare : Obl true 3 5 (sp [(70, s_X3_differs), (71, s_X3_less)]) [] code_X3_compare s_X3_compare := by
  refine obl0 (by rfl) ?_
  intro n r_n a r_a b r_b k r_k h Rt X hh hf hs
  obtain ⟨⟨n0, n1⟩, ⟨a1, a2, a3, a4, a5, a6⟩, h2⟩ := hs
  have kk : n = 13 ∨ n = 14 ∨ n = 15 ∨ n = 16 ∨ n = 17 := by omega
  rcases kk with rfl | rfl | rfl | rfl | rfl
  · repeat' (first | apply And.intro | (with_reducible assumption) | (intro h9; first | (exfalso; omega) | (simp only [rI_rI, rJ_rJ, hI_rI, hJ_rI, hI_rJ, hJ_rJ, hI_rR, hR_rI, hR_rJ, hN_rI, hN_rJ, svH_63, svH_66, rfH_63, wvH_63, wvH_62, wvH_67, wvH_68, wvH_69, sc_63, sc_n62, sc_n67, sc_n68, sc_n69, sc_n70, reduceIte, Nat.reduceEqDiff, eq_self, up_up, up_self, up_ne, ne_eq, not_false_eq_true, Int.reduceEq, Int.reduceNeg] at h9; first | (exfalso; omega) | skip) | skip) | exact h2 _ (cm13 (by assumption)) | exact h2 | exact h2 (by omega) | omega | exact True.intro | (simp only [rI_rI, rJ_rJ, hI_rI, hJ_rI, hI_rJ, hJ_rJ, hI_rR, hR_rI, hR_rJ, hN_rI, hN_rJ, svH_63, svH_66, rfH_63, wvH_63, wvH_62, wvH_67, wvH_68, wvH_69, sc_63, sc_n62, sc_n67, sc_n68, sc_n69, sc_n70, reduceIte, Nat.reduceEqDiff, eq_self, up_up, up_self, up_ne, ne_eq, not_false_eq_true, Int.reduceEq, Int.reduceNeg]; omega))
  · repeat' (first | apply And.intro | (with_reducible assumption) | (intro h9; first | (exfalso; omega) | (simp only [rI_rI, rJ_rJ, hI_rI, hJ_rI, hI_rJ, hJ_rJ, hI_rR, hR_rI, hR_rJ, hN_rI, hN_rJ, svH_63, svH_66, rfH_63, wvH_63, wvH_62, wvH_67, wvH_68, wvH_69, sc_63, sc_n62, sc_n67, sc_n68, sc_n69, sc_n70, reduceIte, Nat.reduceEqDiff, eq_self, up_up, up_self, up_ne, ne_eq, not_false_eq_true, Int.reduceEq, Int.reduceNeg] at h9; first | (exfalso; omega) | skip) | skip) | exact h2 _ (cmL (Or.inl ⟨rfl, rfl⟩) (by assumption)) | exact h2 | exact h2 (by omega) | omega | exact True.intro | (simp only [rI_rI, rJ_rJ, hI_rI, hJ_rI, hI_rJ, hJ_rJ, hI_rR, hR_rI, hR_rJ, hN_rI, hN_rJ, svH_63, svH_66, rfH_63, wvH_63, wvH_62, wvH_67, wvH_68, wvH_69, sc_63, sc_n62, sc_n67, sc_n68, sc_n69, sc_n70, reduceIte, Nat.reduceEqDiff, eq_self, up_up, up_self, up_ne, ne_eq, not_false_eq_true, Int.reduceEq, Int.reduceNeg]; omega))
  · repeat' (first | apply And.intro | (with_reducible assumption) | (intro h9; first | (exfalso; omega) | (simp only [rI_rI, rJ_rJ, hI_rI, hJ_rI, hI_rJ, hJ_rJ, hI_rR, hR_rI, hR_rJ, hN_rI, hN_rJ, svH_63, svH_66, rfH_63, wvH_63, wvH_62, wvH_67, wvH_68, wvH_69, sc_63, sc_n62, sc_n67, sc_n68, sc_n69, sc_n70, reduceIte, Nat.reduceEqDiff, eq_self, up_up, up_self, up_ne, ne_eq, not_false_eq_true, Int.reduceEq, Int.reduceNeg] at h9; first | (exfalso; omega) | skip) | skip) | exact h2 _ (cmLn (Or.inl ⟨rfl, rfl⟩) (by assumption)) | exact h2 | exact h2 (by omega) | omega | exact True.intro | (simp only [rI_rI, rJ_rJ, hI_rI, hJ_rI, hI_rJ, hJ_rJ, hI_rR, hR_rI, hR_rJ, hN_rI, hN_rJ, svH_63, svH_66, rfH_63, wvH_63, wvH_62, wvH_67, wvH_68, wvH_69, sc_63, sc_n62, sc_n67, sc_n68, sc_n69, sc_n70, reduceIte, Nat.reduceEqDiff, eq_self, up_up, up_self, up_ne, ne_eq, not_false_eq_true, Int.reduceEq, Int.reduceNeg]; omega))
  · repeat' (first | apply And.intro | (with_reducible assumption) | (intro h9; first | (exfalso; omega) | (simp only [rI_rI, rJ_rJ, hI_rI, hJ_rI, hI_rJ, hJ_rJ, hI_rR, hR_rI, hR_rJ, hN_rI, hN_rJ, svH_63, svH_66, rfH_63, wvH_63, wvH_62, wvH_67, wvH_68, wvH_69, sc_63, sc_n62, sc_n67, sc_n68, sc_n69, sc_n70, reduceIte, Nat.reduceEqDiff, eq_self, up_up, up_self, up_ne, ne_eq, not_false_eq_true, Int.reduceEq, Int.reduceNeg] at h9; first | (exfalso; omega) | skip) | skip) | exact h2 _ (cmL (Or.inr ⟨rfl, rfl⟩) (by assumption)) | exact h2 | exact h2 (by omega) | omega | exact True.intro | (simp only [rI_rI, rJ_rJ, hI_rI, hJ_rI, hI_rJ, hJ_rJ, hI_rR, hR_rI, hR_rJ, hN_rI, hN_rJ, svH_63, svH_66, rfH_63, wvH_63, wvH_62, wvH_67, wvH_68, wvH_69, sc_63, sc_n62, sc_n67, sc_n68, sc_n69, sc_n70, reduceIte, Nat.reduceEqDiff, eq_self, up_up, up_self, up_ne, ne_eq, not_false_eq_true, Int.reduceEq, Int.reduceNeg]; omega))
  · repeat' (first | apply And.intro | (with_reducible assumption) | (intro h9; first | (exfalso; omega) | (simp only [rI_rI, rJ_rJ, hI_rI, hJ_rI, hI_rJ, hJ_rJ, hI_rR, hR_rI, hR_rJ, hN_rI, hN_rJ, svH_63, svH_66, rfH_63, wvH_63, wvH_62, wvH_67, wvH_68, wvH_69, sc_63, sc_n62, sc_n67, sc_n68, sc_n69, sc_n70, reduceIte, Nat.reduceEqDiff, eq_self, up_up, up_self, up_ne, ne_eq, not_false_eq_true, Int.reduceEq, Int.reduceNeg] at h9; first | (exfalso; omega) | skip) | skip) | exact h2 _ (cmLn (Or.inr ⟨rfl, rfl⟩) (by assumption)) | exact h2 | exact h2 (by omega) | omega | exact True.intro | (simp only [rI_rI, rJ_rJ, hI_rI, hJ_rI, hI_rJ, hJ_rJ, hI_rR, hR_rI, hR_rJ, hN_rI, hN_rJ, svH_63, svH_66, rfH_63, wvH_63, wvH_62, wvH_67, wvH_68, wvH_69, sc_63, sc_n62, sc_n67, sc_n68, sc_n69, sc_n70, reduceIte, Nat.reduceEqDiff, eq_self, up_up, up_self, up_ne, ne_eq, not_false_eq_true, Int.reduceEq, Int.reduceNeg]; omega))
theorem m_X3_compare : MM 69 s_X3_compare := mm_of (own := 2) (by rfl) k_X3_compare (cl := [(70, s_X3_differs), (71, s_X3_less)]) ⟨m_X3_differs, m_X3_less, trivial⟩ o_X3_compare
theorem ch_fin {P Q : Int → Int64} {to f s k : Int} {w : Int64} (h0 : 0 ≤ k) (h : Bt Q to k (fun j l => if lb w l then lb (P (f + j)) l else lb (P (s + j)) l)) : Ln Q to k (fun l => if lb w l then lw P l f k.toNat else lw P l s k.toNat) := Box.i fun l hl => by
  show lw Q l to k.toNat = if lb w l then lw P l f k.toNat else lw P l s k.toNat
  by_cases e : lb w l = true
  · rw [if_pos e]
    exact lw_cg k.toNat fun j x y => (h.o j x (by omega) l hl).trans (if_pos e)
  · rw [if_neg e]
    exact lw_cg k.toNat fun j x y => (h.o j x (by omega) l hl).trans (if_neg e)
def s_X3_choose : CS := (zc 1, ap [(3, 43), (0, 0), (0, 0), (0, 0), (0, 0), (0, 0)] (fun to c a b k h Rt X =>
Pl to a b k ∧ (0 ≤ c ∧ c + 8 ≤ to) ∧ ∀ Q, Wr (hJ h 44) Q to k → Ln Q to k (fun l => if lb (hJ h 44 c) l then lw (hJ h 44) l a k.toNat else lw (hJ h 44) l b k.toNat) → Rt none (rJ h 44 Q)))
set_option maxRecDepth 100000 in
set_option maxHeartbeats 4000000 in
theorem o_X3_choose : Obl true 0 9 (sp []) [] code_X3_choose s_X3_choose := by
  refine oblL (by rfl) [(11, [0, 1, 3, 4, 5, 6, 8])] ?_
  intro to r_to c r_c a r_a b r_b k r_k h Rt X hh hf hs
  obtain ⟨⟨a1, a2, a3, a4, a5, a6, a7, a8⟩, ⟨c1, c2⟩, h2⟩ := hs
  refine ⟨fun m pc vs g => ∃ (i : Int) (Q : Int → Int64), g = rJ h 44 Q ∧ vs = [.inr (.inr (some 43)), .inl to, .inl a, .inl b, .inl k, .inr (.inl (hJ h 44 c)), .inl i] ∧ 0 ≤ i ∧ i ≤ k ∧ Wr (hJ h 44) Q to i ∧ Bt Q to i (fun j l => if lb (hJ h 44 c) l then lb (hJ h 44 (a + j)) l else lb (hJ h 44 (b + j)) l) ∧ m = (k - i).toNat, ?_, ?_⟩
  · repeat' (first | apply And.intro | (with_reducible assumption) | (intro h9; first | (exfalso; omega) | (simp only [rI_rI, rJ_rJ, hI_rI, hJ_rI, hI_rJ, hJ_rJ, hI_rR, hR_rI, hR_rJ, hN_rI, hN_rJ, svH_63, svH_66, rfH_63, wvH_63, wvH_62, wvH_67, wvH_68, wvH_69, sc_63, sc_n62, sc_n67, sc_n68, sc_n69, sc_n70, reduceIte, Nat.reduceEqDiff, eq_self, up_up, up_self, up_ne, ne_eq, not_false_eq_true, Int.reduceEq, Int.reduceNeg] at h9; first | (exfalso; omega) | skip) | skip) | exact Exists.intro _ ⟨0, hJ h 44, (rJ_id h 44).symm, rfl, by omega, by omega, Wr.z _ _, Bt.z _ _ _, rfl⟩ | exact h2 | exact h2 (by omega) | omega | exact True.intro | (simp only [rI_rI, rJ_rJ, hI_rI, hJ_rI, hI_rJ, hJ_rJ, hI_rR, hR_rI, hR_rJ, hN_rI, hN_rJ, svH_63, svH_66, rfH_63, wvH_63, wvH_62, wvH_67, wvH_68, wvH_69, sc_63, sc_n62, sc_n67, sc_n68, sc_n69, sc_n70, reduceIte, Nat.reduceEqDiff, eq_self, up_up, up_self, up_ne, ne_eq, not_false_eq_true, Int.reduceEq, Int.reduceNeg]; omega))
  · rintro m pc live vs g hl ⟨i, Q, rfl, rfl, i1, i2, i3, i4, rfl⟩ hv hh1 hf1
    obtain ⟨rfl, rfl⟩ := look1 hl
    by_cases z : i < k
    · have e1 : hJ (rJ h 44 Q) 44 (a + i) = hJ h 44 (a + i) := i3.o _ (by omega)
      have e2 : hJ (rJ h 44 Q) 44 (b + i) = hJ h 44 (b + i) := i3.o _ (by omega)
      have x : ∀ l, l < 64 → lb (hJ (rJ h 44 Q) 44 (a + i) &&& hJ h 44 c ||| hJ (rJ h 44 Q) 44 (b + i) &&& (hJ h 44 c ^^^ Int64.ofNat 18446744073709551615)) l = if lb (hJ h 44 c) l then lb (hJ h 44 (a + i)) l else lb (hJ h 44 (b + i)) l := fun l hl => by
        rw [lb_or, lb_and, lb_and, lb_not hl, e1, e2]
        cases lb (hJ h 44 c) l <;> simp
      repeat' (first | apply And.intro | (with_reducible assumption) | (intro h9; first | (exfalso; omega) | (simp only [rI_rI, rJ_rJ, hI_rI, hJ_rI, hI_rJ, hJ_rJ, hI_rR, hR_rI, hR_rJ, hN_rI, hN_rJ, svH_63, svH_66, rfH_63, wvH_63, wvH_62, wvH_67, wvH_68, wvH_69, sc_63, sc_n62, sc_n67, sc_n68, sc_n69, sc_n70, reduceIte, Nat.reduceEqDiff, eq_self, up_up, up_self, up_ne, ne_eq, not_false_eq_true, Int.reduceEq, Int.reduceNeg] at h9; first | (exfalso; omega) | skip) | skip) | exact Exists.intro _ ⟨by omega, i + 1, _, rJ_44 _ _ _ _, rfl, by omega, by omega, i3.st _ i1, i4.st x, rfl⟩ | exact h2 | exact h2 (by omega) | omega | exact True.intro | (simp only [rI_rI, rJ_rJ, hI_rI, hJ_rI, hI_rJ, hJ_rJ, hI_rR, hR_rI, hR_rJ, hN_rI, hN_rJ, svH_63, svH_66, rfH_63, wvH_63, wvH_62, wvH_67, wvH_68, wvH_69, sc_63, sc_n62, sc_n67, sc_n68, sc_n69, sc_n70, reduceIte, Nat.reduceEqDiff, eq_self, up_up, up_self, up_ne, ne_eq, not_false_eq_true, Int.reduceEq, Int.reduceNeg]; omega))
    · obtain rfl : i = k := by omega
      have k2 := h2 Q i3 (ch_fin a1 i4)
      repeat' (first | apply And.intro | (with_reducible assumption) | (intro h9; first | (exfalso; omega) | (simp only [rI_rI, rJ_rJ, hI_rI, hJ_rI, hI_rJ, hJ_rJ, hI_rR, hR_rI, hR_rJ, hN_rI, hN_rJ, svH_63, svH_66, rfH_63, wvH_63, wvH_62, wvH_67, wvH_68, wvH_69, sc_63, sc_n62, sc_n67, sc_n68, sc_n69, sc_n70, reduceIte, Nat.reduceEqDiff, eq_self, up_up, up_self, up_ne, ne_eq, not_false_eq_true, Int.reduceEq, Int.reduceNeg] at h9; first | (exfalso; omega) | skip) | skip) | exact k2 | exact h2 | exact h2 (by omega) | omega | exact True.intro | (simp only [rI_rI, rJ_rJ, hI_rI, hJ_rI, hI_rJ, hJ_rJ, hI_rR, hR_rI, hR_rJ, hN_rI, hN_rJ, svH_63, svH_66, rfH_63, wvH_63, wvH_62, wvH_67, wvH_68, wvH_69, sc_63, sc_n62, sc_n67, sc_n68, sc_n69, sc_n70, reduceIte, Nat.reduceEqDiff, eq_self, up_up, up_self, up_ne, ne_eq, not_false_eq_true, Int.reduceEq, Int.reduceNeg]; omega))
/-- planes moved -/
def Mv (P Q : Int → Int64) (to s n : Int) : Prop := Box (∀ j, 0 ≤ j → j < n → Q (to + j) = P (s + j))
theorem Mv.st {P Q : Int → Int64} {to s i : Int} (h : Mv P Q to s i) {x : Int64} (hx : x = P (s + i)) : Mv P (up Q (to + i) x) to s (i + 1) := Box.i fun j a b => by
  by_cases e : j = i
  · subst e; rw [up_self, hx]
  · rw [up_ne (by omega)]; exact h.o j a (by omega)
theorem m_X3_choose : MM 72 s_X3_choose := mm_of (own := 2) (by rfl) k_X3_choose (cl := []) trivial o_X3_choose
def s_X3_move : CS := (zc 1, ap [(3, 43), (0, 0), (0, 0), (0, 0)] (fun to s n h Rt X =>
(0 ≤ n ∧ n ≤ 8 ∧ to + n ≤ 328 ∧ 0 ≤ s ∧ s + n ≤ to) ∧ ∀ Q, Wr (hJ h 44) Q to n → Mv (hJ h 44) Q to s n → Rt none (rJ h 44 Q)))
set_option maxRecDepth 100000 in
set_option maxHeartbeats 4000000 in
theorem o_X3_move : Obl true 0 5 (sp []) [] code_X3_move s_X3_move := by
  refine oblL (by rfl) [(3, [0, 1, 2, 3, 4])] ?_
  intro to r_to s r_s n r_n h Rt X hh hf hs
  obtain ⟨⟨a1, a2, a3, a4, a5⟩, h2⟩ := hs
  refine ⟨fun m pc vs g => ∃ (i : Int) (Q : Int → Int64), g = rJ h 44 Q ∧ vs = [.inr (.inr (some 43)), .inl to, .inl s, .inl n, .inl i] ∧ 0 ≤ i ∧ i ≤ n ∧ Wr (hJ h 44) Q to i ∧ Mv (hJ h 44) Q to s i ∧ m = (n - i).toNat, ?_, ?_⟩
  · repeat' (first | apply And.intro | (with_reducible assumption) | (intro h9; first | (exfalso; omega) | (simp only [rI_rI, rJ_rJ, hI_rI, hJ_rI, hI_rJ, hJ_rJ, hI_rR, hR_rI, hR_rJ, hN_rI, hN_rJ, svH_63, svH_66, rfH_63, wvH_63, wvH_62, wvH_67, wvH_68, wvH_69, sc_63, sc_n62, sc_n67, sc_n68, sc_n69, sc_n70, reduceIte, Nat.reduceEqDiff, eq_self, up_up, up_self, up_ne, ne_eq, not_false_eq_true, Int.reduceEq, Int.reduceNeg] at h9; first | (exfalso; omega) | skip) | skip) | exact Exists.intro _ ⟨0, hJ h 44, (rJ_id h 44).symm, rfl, by omega, by omega, Wr.z _ _, Box.i (fun j a b => by omega), rfl⟩ | exact h2 | exact h2 (by omega) | omega | exact True.intro | (simp only [rI_rI, rJ_rJ, hI_rI, hJ_rI, hI_rJ, hJ_rJ, hI_rR, hR_rI, hR_rJ, hN_rI, hN_rJ, svH_63, svH_66, rfH_63, wvH_63, wvH_62, wvH_67, wvH_68, wvH_69, sc_63, sc_n62, sc_n67, sc_n68, sc_n69, sc_n70, reduceIte, Nat.reduceEqDiff, eq_self, up_up, up_self, up_ne, ne_eq, not_false_eq_true, Int.reduceEq, Int.reduceNeg]; omega))
  · rintro m pc live vs g hl ⟨i, Q, rfl, rfl, i1, i2, i3, i4, rfl⟩ hv hh1 hf1
    obtain ⟨rfl, rfl⟩ := look1 hl
    by_cases z : i < n
    · have e1 : hJ (rJ h 44 Q) 44 (s + i) = hJ h 44 (s + i) := i3.o _ (by omega)
      repeat' (first | apply And.intro | (with_reducible assumption) | (intro h9; first | (exfalso; omega) | (simp only [rI_rI, rJ_rJ, hI_rI, hJ_rI, hI_rJ, hJ_rJ, hI_rR, hR_rI, hR_rJ, hN_rI, hN_rJ, svH_63, svH_66, rfH_63, wvH_63, wvH_62, wvH_67, wvH_68, wvH_69, sc_63, sc_n62, sc_n67, sc_n68, sc_n69, sc_n70, reduceIte, Nat.reduceEqDiff, eq_self, up_up, up_self, up_ne, ne_eq, not_false_eq_true, Int.reduceEq, Int.reduceNeg] at h9; first | (exfalso; omega) | skip) | skip) | exact Exists.intro _ ⟨by omega, i + 1, _, rJ_44 _ _ _ _, rfl, by omega, by omega, i3.st _ i1, i4.st e1, rfl⟩ | exact h2 | exact h2 (by omega) | omega | exact True.intro | (simp only [rI_rI, rJ_rJ, hI_rI, hJ_rI, hI_rJ, hJ_rJ, hI_rR, hR_rI, hR_rJ, hN_rI, hN_rJ, svH_63, svH_66, rfH_63, wvH_63, wvH_62, wvH_67, wvH_68, wvH_69, sc_63, sc_n62, sc_n67, sc_n68, sc_n69, sc_n70, reduceIte, Nat.reduceEqDiff, eq_self, up_up, up_self, up_ne, ne_eq, not_false_eq_true, Int.reduceEq, Int.reduceNeg]; omega))
    · obtain rfl : i = n := by omega
      have k2 := h2 Q i3 i4
      repeat' (first | apply And.intro | (with_reducible assumption) | (intro h9; first | (exfalso; omega) | (simp only [rI_rI, rJ_rJ, hI_rI, hJ_rI, hI_rJ, hJ_rJ, hI_rR, hR_rI, hR_rJ, hN_rI, hN_rJ, svH_63, svH_66, rfH_63, wvH_63, wvH_62, wvH_67, wvH_68, wvH_69, sc_63, sc_n62, sc_n67, sc_n68, sc_n69, sc_n70, reduceIte, Nat.reduceEqDiff, eq_self, up_up, up_self, up_ne, ne_eq, not_false_eq_true, Int.reduceEq, Int.reduceNeg] at h9; first | (exfalso; omega) | skip) | skip) | exact k2 | exact h2 | exact h2 (by omega) | omega | exact True.intro | (simp only [rI_rI, rJ_rJ, hI_rI, hJ_rI, hI_rJ, hJ_rJ, hI_rR, hR_rI, hR_rJ, hN_rI, hN_rJ, svH_63, svH_66, rfH_63, wvH_63, wvH_62, wvH_67, wvH_68, wvH_69, sc_63, sc_n62, sc_n67, sc_n68, sc_n69, sc_n70, reduceIte, Nat.reduceEqDiff, eq_self, up_up, up_self, up_ne, ne_eq, not_false_eq_true, Int.reduceEq, Int.reduceNeg]; omega))
theorem m_X3_move : MM 74 s_X3_move := mm_of (own := 2) (by rfl) k_X3_move (cl := []) trivial o_X3_move
def s_X3_fillUp : CS := (zc 1, ap [(3, 43), (0, 0), (0, 0), (0, 0), (1, 0)] (fun to s k f h Rt X =>
(0 ≤ s ∧ s ≤ k ∧ k ≤ 8 ∧ 0 ≤ to ∧ to ≤ 320) ∧ ∀ Q, Box (∀ x, ¬ (to + s ≤ x ∧ x < to + k) → Q x = hJ h 44 x) → Box (∀ j, s ≤ j → j < k → Q (to + j) = f) → Rt none (rJ h 44 Q)))
set_option maxRecDepth 100000 in
set_option maxHeartbeats 4000000 in
theorem o_X3_fillUp : Obl true 0 7 (sp []) [] code_X3_fillUp s_X3_fillUp := by
  refine oblL (by rfl) [(3, [0, 1, 3, 4, 6])] ?_
  intro to r_to s r_s k r_k f h Rt X hh hf hs
  obtain ⟨⟨a1, a2, a3, a4, a5⟩, h2⟩ := hs
  refine ⟨fun m pc vs g => ∃ (i : Int) (Q : Int → Int64), g = rJ h 44 Q ∧ vs = [.inr (.inr (some 43)), .inl to, .inl k, .inr (.inl f), .inl i] ∧ s ≤ i ∧ i ≤ k ∧ Box (∀ x, ¬ (to + s ≤ x ∧ x < to + i) → Q x = hJ h 44 x) ∧ Box (∀ j, s ≤ j → j < i → Q (to + j) = f) ∧ m = (k - i).toNat, ?_, ?_⟩
  · repeat' (first | apply And.intro | (with_reducible assumption) | (intro h9; first | (exfalso; omega) | (simp only [rI_rI, rJ_rJ, hI_rI, hJ_rI, hI_rJ, hJ_rJ, hI_rR, hR_rI, hR_rJ, hN_rI, hN_rJ, svH_63, svH_66, rfH_63, wvH_63, wvH_62, wvH_67, wvH_68, wvH_69, sc_63, sc_n62, sc_n67, sc_n68, sc_n69, sc_n70, reduceIte, Nat.reduceEqDiff, eq_self, up_up, up_self, up_ne, ne_eq, not_false_eq_true, Int.reduceEq, Int.reduceNeg] at h9; first | (exfalso; omega) | skip) | skip) | exact Exists.intro _ ⟨s, hJ h 44, (rJ_id h 44).symm, rfl, by omega, by omega, Box.i (fun _ _ => rfl), Box.i (fun j a b => by omega), rfl⟩ | exact h2 | exact h2 (by omega) | omega | exact True.intro | (simp only [rI_rI, rJ_rJ, hI_rI, hJ_rI, hI_rJ, hJ_rJ, hI_rR, hR_rI, hR_rJ, hN_rI, hN_rJ, svH_63, svH_66, rfH_63, wvH_63, wvH_62, wvH_67, wvH_68, wvH_69, sc_63, sc_n62, sc_n67, sc_n68, sc_n69, sc_n70, reduceIte, Nat.reduceEqDiff, eq_self, up_up, up_self, up_ne, ne_eq, not_false_eq_true, Int.reduceEq, Int.reduceNeg]; omega))
  · rintro m pc live vs g hl ⟨i, Q, rfl, rfl, i1, i2, i3, i4, rfl⟩ hv hh1 hf1
    obtain ⟨rfl, rfl⟩ := look1 hl
    by_cases z : i < k
    · have w3 : Box (∀ x, ¬ (to + s ≤ x ∧ x < to + (i + 1)) → up Q (to + i) f x = hJ h 44 x) := Box.i fun x hx => by rw [up_ne (by omega)]; exact i3.o x (by omega)
      have w4 : Box (∀ j, s ≤ j → j < i + 1 → up Q (to + i) f (to + j) = f) := Box.i fun j a b => by
        by_cases e : j = i
        · subst e; rw [up_self]
        · rw [up_ne (by omega)]; exact i4.o j a (by omega)
      repeat' (first | apply And.intro | (with_reducible assumption) | (intro h9; first | (exfalso; omega) | (simp only [rI_rI, rJ_rJ, hI_rI, hJ_rI, hI_rJ, hJ_rJ, hI_rR, hR_rI, hR_rJ, hN_rI, hN_rJ, svH_63, svH_66, rfH_63, wvH_63, wvH_62, wvH_67, wvH_68, wvH_69, sc_63, sc_n62, sc_n67, sc_n68, sc_n69, sc_n70, reduceIte, Nat.reduceEqDiff, eq_self, up_up, up_self, up_ne, ne_eq, not_false_eq_true, Int.reduceEq, Int.reduceNeg] at h9; first | (exfalso; omega) | skip) | skip) | exact Exists.intro _ ⟨by omega, i + 1, _, rJ_44 _ _ _ _, rfl, by omega, by omega, w3, w4, rfl⟩ | exact h2 | exact h2 (by omega) | omega | exact True.intro | (simp only [rI_rI, rJ_rJ, hI_rI, hJ_rI, hI_rJ, hJ_rJ, hI_rR, hR_rI, hR_rJ, hN_rI, hN_rJ, svH_63, svH_66, rfH_63, wvH_63, wvH_62, wvH_67, wvH_68, wvH_69, sc_63, sc_n62, sc_n67, sc_n68, sc_n69, sc_n70, reduceIte, Nat.reduceEqDiff, eq_self, up_up, up_self, up_ne, ne_eq, not_false_eq_true, Int.reduceEq, Int.reduceNeg]; omega))
    · obtain rfl : i = k := by omega
      have k2 := h2 Q i3 i4
      repeat' (first | apply And.intro | (with_reducible assumption) | (intro h9; first | (exfalso; omega) | (simp only [rI_rI, rJ_rJ, hI_rI, hJ_rI, hI_rJ, hJ_rJ, hI_rR, hR_rI, hR_rJ, hN_rI, hN_rJ, svH_63, svH_66, rfH_63, wvH_63, wvH_62, wvH_67, wvH_68, wvH_69, sc_63, sc_n62, sc_n67, sc_n68, sc_n69, sc_n70, reduceIte, Nat.reduceEqDiff, eq_self, up_up, up_self, up_ne, ne_eq, not_false_eq_true, Int.reduceEq, Int.reduceNeg] at h9; first | (exfalso; omega) | skip) | skip) | exact k2 | exact h2 | exact h2 (by omega) | omega | exact True.intro | (simp only [rI_rI, rJ_rJ, hI_rI, hJ_rI, hI_rJ, hJ_rJ, hI_rR, hR_rI, hR_rJ, hN_rI, hN_rJ, svH_63, svH_66, rfH_63, wvH_63, wvH_62, wvH_67, wvH_68, wvH_69, sc_63, sc_n62, sc_n67, sc_n68, sc_n69, sc_n70, reduceIte, Nat.reduceEqDiff, eq_self, up_up, up_self, up_ne, ne_eq, not_false_eq_true, Int.reduceEq, Int.reduceNeg]; omega))
theorem m_X3_fillUp : MM 75 s_X3_fillUp := mm_of (own := 2) (by rfl) k_X3_fillUp (cl := []) trivial o_X3_fillUp
theorem inv_div {A p : Int} (hp : 0 < p) : (-A - 1) / p = -(A / p) - 1 := by
  have e := Int.emod_add_mul_ediv A p
  have r0 := Int.emod_nonneg A (show p ≠ 0 by omega)
  have r1 := Int.emod_lt_of_pos A hp
  rw [Int.ediv_eq_iff_of_pos hp, Int.sub_mul, Int.neg_mul, Int.one_mul, Int.mul_comm (A / p)]
  omega
theorem inv_fin {P Q : Int → Int64} {to a k : Int} (h0 : 0 ≤ k) (h : Bt Q to k (fun j l => !lb (P (a + j)) l)) : Ln Q to k (fun l => (-(lw P l a k.toNat) - 1) % p2 k) := Box.i fun l hl => by
  refine lw_val h0 fun j x y => ?_
  have q := lw_biti P l a x y
  rw [h.o j x y l hl, b2_not, ← q, inv_div (p2_pos j)]
  omega
def s_X3_invert : CS := (zc 1, ap [(3, 43), (0, 0), (0, 0), (0, 0)] (fun to a k h Rt X =>
(0 ≤ k ∧ k ≤ 8 ∧ to ≤ 320 ∧ 0 ≤ a ∧ a + 8 ≤ to) ∧ ∀ Q, Wr (hJ h 44) Q to k → Ln Q to k (fun l => (-(lw (hJ h 44) l a k.toNat) - 1) % p2 k) → Rt none (rJ h 44 Q)))
set_option maxRecDepth 100000 in
set_option maxHeartbeats 4000000 in
theorem o_X3_invert : Obl true 0 5 (sp []) [] code_X3_invert s_X3_invert := by
  refine oblL (by rfl) [(3, [0, 1, 2, 3, 4])] ?_
  intro to r_to a r_a k r_k h Rt X hh hf hs
  obtain ⟨⟨a1, a2, a3, a4, a5⟩, h2⟩ := hs
  refine ⟨fun m pc vs g => ∃ (i : Int) (Q : Int → Int64), g = rJ h 44 Q ∧ vs = [.inr (.inr (some 43)), .inl to, .inl a, .inl k, .inl i] ∧ 0 ≤ i ∧ i ≤ k ∧ Wr (hJ h 44) Q to i ∧ Bt Q to i (fun j l => !lb (hJ h 44 (a + j)) l) ∧ m = (k - i).toNat, ?_, ?_⟩
  · repeat' (first | apply And.intro | (with_reducible assumption) | (intro h9; first | (exfalso; omega) | (simp only [rI_rI, rJ_rJ, hI_rI, hJ_rI, hI_rJ, hJ_rJ, hI_rR, hR_rI, hR_rJ, hN_rI, hN_rJ, svH_63, svH_66, rfH_63, wvH_63, wvH_62, wvH_67, wvH_68, wvH_69, sc_63, sc_n62, sc_n67, sc_n68, sc_n69, sc_n70, reduceIte, Nat.reduceEqDiff, eq_self, up_up, up_self, up_ne, ne_eq, not_false_eq_true, Int.reduceEq, Int.reduceNeg] at h9; first | (exfalso; omega) | skip) | skip) | exact Exists.intro _ ⟨0, hJ h 44, (rJ_id h 44).symm, rfl, by omega, by omega, Wr.z _ _, Bt.z _ _ _, rfl⟩ | exact h2 | exact h2 (by omega) | omega | exact True.intro | (simp only [rI_rI, rJ_rJ, hI_rI, hJ_rI, hI_rJ, hJ_rJ, hI_rR, hR_rI, hR_rJ, hN_rI, hN_rJ, svH_63, svH_66, rfH_63, wvH_63, wvH_62, wvH_67, wvH_68, wvH_69, sc_63, sc_n62, sc_n67, sc_n68, sc_n69, sc_n70, reduceIte, Nat.reduceEqDiff, eq_self, up_up, up_self, up_ne, ne_eq, not_false_eq_true, Int.reduceEq, Int.reduceNeg]; omega))
  · rintro m pc live vs g hl ⟨i, Q, rfl, rfl, i1, i2, i3, i4, rfl⟩ hv hh1 hf1
    obtain ⟨rfl, rfl⟩ := look1 hl
    by_cases z : i < k
    · have e1 : hJ (rJ h 44 Q) 44 (a + i) = hJ h 44 (a + i) := i3.o _ (by omega)
      have x : ∀ l, l < 64 → lb (hJ (rJ h 44 Q) 44 (a + i) ^^^ Int64.ofNat 18446744073709551615) l = !lb (hJ h 44 (a + i)) l := fun l hl => by rw [lb_not hl, e1]
      repeat' (first | apply And.intro | (with_reducible assumption) | (intro h9; first | (exfalso; omega) | (simp only [rI_rI, rJ_rJ, hI_rI, hJ_rI, hI_rJ, hJ_rJ, hI_rR, hR_rI, hR_rJ, hN_rI, hN_rJ, svH_63, svH_66, rfH_63, wvH_63, wvH_62, wvH_67, wvH_68, wvH_69, sc_63, sc_n62, sc_n67, sc_n68, sc_n69, sc_n70, reduceIte, Nat.reduceEqDiff, eq_self, up_up, up_self, up_ne, ne_eq, not_false_eq_true, Int.reduceEq, Int.reduceNeg] at h9; first | (exfalso; omega) | skip) | skip) | exact Exists.intro _ ⟨by omega, i + 1, _, rJ_44 _ _ _ _, rfl, by omega, by omega, i3.st _ i1, i4.st x, rfl⟩ | exact h2 | exact h2 (by omega) | omega | exact True.intro | (simp only [rI_rI, rJ_rJ, hI_rI, hJ_rI, hI_rJ, hJ_rJ, hI_rR, hR_rI, hR_rJ, hN_rI, hN_rJ, svH_63, svH_66, rfH_63, wvH_63, wvH_62, wvH_67, wvH_68, wvH_69, sc_63, sc_n62, sc_n67, sc_n68, sc_n69, sc_n70, reduceIte, Nat.reduceEqDiff, eq_self, up_up, up_self, up_ne, ne_eq, not_false_eq_true, Int.reduceEq, Int.reduceNeg]; omega))
    · obtain rfl : i = k := by omega
      have k2 := h2 Q i3 (inv_fin a1 i4)
      repeat' (first | apply And.intro | (with_reducible assumption) | (intro h9; first | (exfalso; omega) | (simp only [rI_rI, rJ_rJ, hI_rI, hJ_rI, hI_rJ, hJ_rJ, hI_rR, hR_rI, hR_rJ, hN_rI, hN_rJ, svH_63, svH_66, rfH_63, wvH_63, wvH_62, wvH_67, wvH_68, wvH_69, sc_63, sc_n62, sc_n67, sc_n68, sc_n69, sc_n70, reduceIte, Nat.reduceEqDiff, eq_self, up_up, up_self, up_ne, ne_eq, not_false_eq_true, Int.reduceEq, Int.reduceNeg] at h9; first | (exfalso; omega) | skip) | skip) | exact k2 | exact h2 | exact h2 (by omega) | omega | exact True.intro | (simp only [rI_rI, rJ_rJ, hI_rI, hJ_rI, hI_rJ, hJ_rJ, hI_rR, hR_rI, hR_rJ, hN_rI, hN_rJ, svH_63, svH_66, rfH_63, wvH_63, wvH_62, wvH_67, wvH_68, wvH_69, sc_63, sc_n62, sc_n67, sc_n68, sc_n69, sc_n70, reduceIte, Nat.reduceEqDiff, eq_self, up_up, up_self, up_ne, ne_eq, not_false_eq_true, Int.reduceEq, Int.reduceNeg]; omega))
theorem m_X3_invert : MM 76 s_X3_invert := mm_of (own := 2) (by rfl) k_X3_invert (cl := []) trivial o_X3_invert
/-- a negative word so far -/
def NgI (P Q : Int → Int64) (a to i : Int) (c : Int64) : Prop := Box (∀ l, l < 64 → lw Q l to i.toNat + lw P l a i.toNat = b2 (lb c l) * p2 i)
theorem ng_step (x c : Bool) {q A S : Int} (h : S + A = b2 c * q) : (S + b2 (x ^^ c) * q) + (A + b2 x * q) = b2 (c || x) * (2 * q) := by
  cases x <;> cases c <;> simp [b2] at * <;> omega
theorem NgI.z (P Q : Int → Int64) (a to : Int) : NgI P Q a to 0 0 := Box.i fun l _ => by
  rw [lb_0]
  show (0 : Int) + 0 = 0 * p2 0
  rw [Int.zero_mul]; rfl
theorem NgI.st {P Q : Int → Int64} {a to i : Int} {c : Int64} (h : NgI P Q a to i c) (h0 : 0 ≤ i) : NgI P (up Q (to + i) (P (a + i) ^^^ c)) a to (i + 1) (c ||| P (a + i)) := Box.i fun l hl => by
  rw [lw_upi h0, lw_i _ _ _ h0, p2_succ h0, lb_xor, lb_or]
  exact ng_step _ _ (h.o l hl)
theorem NgI.fin {P Q : Int → Int64} {a to k : Int} {c : Int64} (h : NgI P Q a to k c) (h0 : 0 ≤ k) : Ln Q to k (fun l => -(lw P l a k.toNat) % p2 k) := Box.i fun l hl => by
  have r := lw_rngi Q l to h0
  have q := h.o l hl
  show lw Q l to k.toNat = -(lw P l a k.toNat) % p2 k
  rw [show -(lw P l a k.toNat) = lw Q l to k.toNat + (-b2 (lb c l)) * p2 k by rw [Int.neg_mul]; omega, Int.add_mul_emod_self_right, Int.emod_eq_of_lt r.1 r.2]
def s_X3_negate : CS := (zc 1, ap [(3, 43), (0, 0), (0, 0), (0, 0)] (fun to a k h Rt X =>
(0 ≤ k ∧ k ≤ 8 ∧ to ≤ 320 ∧ 0 ≤ a ∧ a + 8 ≤ to) ∧ ∀ Q, Wr (hJ h 44) Q to k → Ln Q to k (fun l => -(lw (hJ h 44) l a k.toNat) % p2 k) → Rt none (rJ h 44 Q)))
set_option maxRecDepth 100000 in
set_option maxHeartbeats 4000000 in
theorem o_X3_negate : Obl true 0 7 (sp []) [] code_X3_negate s_X3_negate := by
  refine oblL (by rfl) [(6, [0, 1, 2, 3, 4, 6])] ?_
  intro to r_to a r_a k r_k h Rt X hh hf hs
  obtain ⟨⟨a1, a2, a3, a4, a5⟩, h2⟩ := hs
  refine ⟨fun m pc vs g => ∃ (i : Int) (Q : Int → Int64) (c : Int64), g = rJ h 44 Q ∧ vs = [.inr (.inr (some 43)), .inl to, .inl a, .inl k, .inr (.inl c), .inl i] ∧ 0 ≤ i ∧ i ≤ k ∧ Wr (hJ h 44) Q to i ∧ NgI (hJ h 44) Q a to i c ∧ m = (k - i).toNat, ?_, ?_⟩
  · repeat' (first | apply And.intro | (with_reducible assumption) | (intro h9; first | (exfalso; omega) | (simp only [rI_rI, rJ_rJ, hI_rI, hJ_rI, hI_rJ, hJ_rJ, hI_rR, hR_rI, hR_rJ, hN_rI, hN_rJ, svH_63, svH_66, rfH_63, wvH_63, wvH_62, wvH_67, wvH_68, wvH_69, sc_63, sc_n62, sc_n67, sc_n68, sc_n69, sc_n70, reduceIte, Nat.reduceEqDiff, eq_self, up_up, up_self, up_ne, ne_eq, not_false_eq_true, Int.reduceEq, Int.reduceNeg] at h9; first | (exfalso; omega) | skip) | skip) | exact Exists.intro _ ⟨0, hJ h 44, 0, (rJ_id h 44).symm, rfl, by omega, by omega, Wr.z _ _, NgI.z _ _ _ _, rfl⟩ | exact h2 | exact h2 (by omega) | omega | exact True.intro | (simp only [rI_rI, rJ_rJ, hI_rI, hJ_rI, hI_rJ, hJ_rJ, hI_rR, hR_rI, hR_rJ, hN_rI, hN_rJ, svH_63, svH_66, rfH_63, wvH_63, wvH_62, wvH_67, wvH_68, wvH_69, sc_63, sc_n62, sc_n67, sc_n68, sc_n69, sc_n70, reduceIte, Nat.reduceEqDiff, eq_self, up_up, up_self, up_ne, ne_eq, not_false_eq_true, Int.reduceEq, Int.reduceNeg]; omega))
  · rintro m pc live vs g hl ⟨i, Q, c, rfl, rfl, i1, i2, i3, i4, rfl⟩ hv hh1 hf1
    obtain ⟨rfl, rfl⟩ := look1 hl
    by_cases z : i < k
    · have e1 : hJ (rJ h 44 Q) 44 (a + i) = hJ h 44 (a + i) := i3.o _ (by omega)
      have e2 : hJ (rJ h 44 (up Q (to + i) (hJ h 44 (a + i) ^^^ c))) 44 (a + i) = hJ h 44 (a + i) := by
        show up Q (to + i) _ (a + i) = _
        rw [up_ne (by omega)]; exact e1
      have i5 := i4.st i1
      repeat' (first | apply And.intro | (with_reducible assumption) | (intro h9; first | (exfalso; omega) | (simp only [rI_rI, rJ_rJ, hI_rI, hJ_rI, hI_rJ, hJ_rJ, hI_rR, hR_rI, hR_rJ, hN_rI, hN_rJ, svH_63, svH_66, rfH_63, wvH_63, wvH_62, wvH_67, wvH_68, wvH_69, sc_63, sc_n62, sc_n67, sc_n68, sc_n69, sc_n70, reduceIte, Nat.reduceEqDiff, eq_self, up_up, up_self, up_ne, ne_eq, not_false_eq_true, Int.reduceEq, Int.reduceNeg] at h9; first | (exfalso; omega) | skip) | skip) | exact Exists.intro _ ⟨by omega, i + 1, _, _, (by rw [rJ_44, e1] <;> rfl), rfl, by omega, by omega, i3.st _ i1, (by rw [rJ_44, e1, e2]; exact i5), rfl⟩ | exact h2 | exact h2 (by omega) | omega | exact True.intro | (simp only [rI_rI, rJ_rJ, hI_rI, hJ_rI, hI_rJ, hJ_rJ, hI_rR, hR_rI, hR_rJ, hN_rI, hN_rJ, svH_63, svH_66, rfH_63, wvH_63, wvH_62, wvH_67, wvH_68, wvH_69, sc_63, sc_n62, sc_n67, sc_n68, sc_n69, sc_n70, reduceIte, Nat.reduceEqDiff, eq_self, up_up, up_self, up_ne, ne_eq, not_false_eq_true, Int.reduceEq, Int.reduceNeg]; omega))
    · obtain rfl : i = k := by omega
      have k2 := h2 Q i3 (i4.fin a1)
      repeat' (first | apply And.intro | (with_reducible assumption) | (intro h9; first | (exfalso; omega) | (simp only [rI_rI, rJ_rJ, hI_rI, hJ_rI, hI_rJ, hJ_rJ, hI_rR, hR_rI, hR_rJ, hN_rI, hN_rJ, svH_63, svH_66, rfH_63, wvH_63, wvH_62, wvH_67, wvH_68, wvH_69, sc_63, sc_n62, sc_n67, sc_n68, sc_n69, sc_n70, reduceIte, Nat.reduceEqDiff, eq_self, up_up, up_self, up_ne, ne_eq, not_false_eq_true, Int.reduceEq, Int.reduceNeg] at h9; first | (exfalso; omega) | skip) | skip) | exact k2 | exact h2 | exact h2 (by omega) | omega | exact True.intro | (simp only [rI_rI, rJ_rJ, hI_rI, hJ_rI, hI_rJ, hJ_rJ, hI_rR, hR_rI, hR_rJ, hN_rI, hN_rJ, svH_63, svH_66, rfH_63, wvH_63, wvH_62, wvH_67, wvH_68, wvH_69, sc_63, sc_n62, sc_n67, sc_n68, sc_n69, sc_n70, reduceIte, Nat.reduceEqDiff, eq_self, up_up, up_self, up_ne, ne_eq, not_false_eq_true, Int.reduceEq, Int.reduceNeg]; omega))
theorem m_X3_negate : MM 77 s_X3_negate := mm_of (own := 2) (by rfl) k_X3_negate (cl := []) trivial o_X3_negate

/-! ===== the class: the rows of a conflict ===== -/
/-- the rows are there, or not yet -/
def RwN (h : Hp) : Prop := Box ((hN h = 62 ∧ hR h 46 9 = none) ∨ (hN h = 63 ∧ hR h 46 9 = some 62))
/-- the rows are there; planes and rows may be others -/
def CrH (h g : Hp) : Prop := Box (hN g = 63 ∧ hR g 46 9 = some 62 ∧ (∀ a, a ≠ 62 → hI g a = hI h a) ∧ (∀ a, a ≠ 44 → a ≠ 45 → a ≠ 62 → hJ g a = hJ h a) ∧ (∀ a, a ≠ 46 → a ≠ 62 → hR g a = hR h a) ∧ ∀ j, j ≠ 9 → hR g 46 j = hR h 46 j)
theorem CrH.rw {h g : Hp} (c : CrH h g) : RwN g := Box.i (Or.inr ⟨c.o.1, c.o.2.1⟩)
theorem CrH.i {h g : Hp} (c : CrH h g) {a : Nat} (e : a ≠ 62) : hI g a = hI h a := c.o.2.2.1 a e
theorem CrH.gh {h g : Hp} {w : Int → Int} (c : CrH h g) (hG : GH h w) : GH g w := by
  unfold GH
  rw [c.i (show (1 : Nat) ≠ 62 by decide), c.i (show (2 : Nat) ≠ 62 by decide), c.i (show (3 : Nat) ≠ 62 by decide), c.i (show (4 : Nat) ≠ 62 by decide)]
  exact hG
theorem CrH.st {h g : Hp} {w : Int → Int} (c : CrH h g) (hS : St0 (hI h) 5 w) : St0 (hI g) 5 w := St0_fc (fun q _ _ => c.i (by omega)) hS
theorem CrH.run {h g : Hp} (c : CrH h g) (R Q : Int → Int64) : CrH h (rJ (rJ g 45 R) 44 Q) := by
  obtain ⟨c1, c2, c3, c4, c5, c6⟩ := c.o
  refine Box.i ⟨c1, c2, c3, fun a a1 a2 a3 => ?_, c5, c6⟩
  show (if a = 44 then Q else if a = 45 then R else hJ g a) = _
  rw [if_neg a1, if_neg a2]
  exact c4 a a1 a2 a3
theorem CrH.row {h g : Hp} (c : CrH h g) (T : Int → Int64) : CrH h (rJ g 62 T) := by
  obtain ⟨c1, c2, c3, c4, c5, c6⟩ := c.o
  refine Box.i ⟨c1, c2, c3, fun a a1 a2 a3 => ?_, c5, c6⟩
  show (if a = 62 then T else hJ g a) = _
  rw [if_neg a3]
  exact c4 a a1 a2 a3
theorem CrH.tr {h g k : Hp} (c : CrH h g) (d : CrH g k) : CrH h k := by
  obtain ⟨c1, c2, c3, c4, c5, c6⟩ := c.o
  obtain ⟨d1, d2, d3, d4, d5, d6⟩ := d.o
  exact Box.i ⟨d1, d2, fun a e => (d3 a e).trans (c3 a e), fun a e1 e2 e3 => (d4 a e1 e2 e3).trans (c4 a e1 e2 e3), fun a e1 e2 => (d5 a e1 e2).trans (c5 a e1 e2), fun j e => (d6 j e).trans (c6 j e)⟩
abbrev Hq : Type := (Nat → Int → Int) × ((Nat → Int → Int64) × (Nat → Int → Option Nat))
theorem CrH.old {q : Hq} (e : hR (63, q) 46 9 = some 62) : CrH (63, q) (63, q) := Box.i ⟨rfl, e, fun _ _ => rfl, fun _ _ _ _ => rfl, fun _ _ _ => rfl, fun _ _ => rfl⟩
theorem CrH.new (q : Hq) : CrH (62, q) (rR (hnew (62, q)) 46 (up (hR (hnew (62, q)) 46) 9 (some 62))) := by
  refine Box.i ⟨rfl, ?_, fun a e => ?_, fun a _ _ e => ?_, fun a e1 e2 => ?_, fun j e => ?_⟩
  · show up (hR (hnew (62, q)) 46) 9 (some 62) 9 = _
    rw [up_self]
  · show (if a = 62 then (fun _ => 0) else hI (62, q) a) = _
    rw [if_neg e]
  · show (if a = 62 then (fun _ => 0) else hJ (62, q) a) = _
    rw [if_neg e]
  · show (if a = 46 then _ else if a = 62 then (fun _ => none) else hR (62, q) a) = _
    rw [if_neg e1, if_neg e2]
  · show up (hR (hnew (62, q)) 46) 9 (some 62) j = _
    rw [up_ne e]
    rfl
theorem RowI.st2 {w : Int → Int} {T Q : Int → Int64} {i j m : Int} {s : Int64} (hW : WF w) (h0 : 0 ≤ i) (h2 : i < 1024) (j0 : 0 ≤ j) (j1 : j < w 290) (hs : HasC w s (w 290)) (h : RowI w T i j) (hv : VlL w Q i s (w 0)) (e : m = w (291 + j) * 8) : RowI w (up T (j * 1024 + i) (Q m)) i (j + 1) := by
  rw [e]
  exact h.st hW h0 h2 j0 j1 hs hv
def FlI (h : Hp) (w : Int → Int) (m pc : Nat) (vs : List AV) (g : Hp) : Prop := ∃ (i : Int) (s : Int64), CrH h g ∧ 0 ≤ i ∧ i ≤ blk w ∧ Clo w s ∧ HasC w s (w 290) ∧ ((pc = 28 ∧ vs = [.inr (.inr (some 46)), .inr (.inr (some 62)), .inr (.inl s), .inl i] ∧ RowI w (hJ g 62) i 0 ∧ m = 100 * (blk w - i).toNat) ∨
    (pc = 53 ∧ i < blk w ∧ ∃ (k : Int), vs = [.inr (.inr (some 46)), .inr (.inr (some 62)), .inr (.inl s), .inl i, .inl k] ∧ 0 ≤ k ∧ k ≤ w 290 ∧ RowI w (hJ g 62) i k ∧ VlL w (hJ g 44) i s (w 0) ∧ m = 100 * (blk w - i).toNat - 50 + (w 290 - k).toNat))
theorem FlI.z {h g : Hp} {w : Int → Int} {s : Int64} {vs : List AV} (hW : WF w) (c : CrH h g) (h1 : Clo w s) (h2 : HasC w s (w 290)) (e : vs = [.inr (.inr (some 46)), .inr (.inr (some 62)), .inr (.inl s), .inl 0]) : ∃ k, FlI h w k 28 vs g := by
  have := blk_rng hW
  exact ⟨_, 0, s, c, by omega, by omega, h1, h2, Or.inl ⟨rfl, e, RowI.z _ _, rfl⟩⟩
def s_X5_filledRows : CS := (yc 5, ap [(3, 46)] (fun  h Rt X =>
∃ w, GH h w ∧ WF w ∧ St0 (hI h) 5 w ∧ RwN h ∧ ∀ g, CrH h g → RowI w (hJ g 62) (blk w) 0 → Rt (some (.inr (.inr (some 62)))) g))
set_option maxRecDepth 100000 in
set_option maxHeartbeats 4000000 in
theorem o_X5_filledRows : Obl true 4 6 (sp [(99, s_X5_constraintCones), (29, s_X0_blockCount), (45, s_X3_run), (47, s_X3_plane)]) [] code_X5_filledRows s_X5_filledRows := by
  refine oblY (by rfl) [(28, [0, 1, 2, 4]), (53, [0, 1, 2, 4, 5])] ?_
  intro  h Rt X hh hf hs
  obtain ⟨w, hG, hW, hS, hC, h2⟩ := hs
  have br := blk_rng hW
  have c0 := hW.cn
  obtain ⟨n, q⟩ := h
  rcases hC.o with ⟨n9, e⟩ | ⟨n9, e⟩
  · obtain rfl : n = 62 := n9
    refine ⟨1, 20480, rfl, FlI (62, q) w, ?_, ?_⟩
    · have hC2 := CrH.new q
      have hG2 := hC2.gh hG
      have hS2 := hC2.st hS
      repeat' (first | apply And.intro | (with_reducible assumption) | (intro h9; first | (exfalso; omega) | (simp only [rI_rI, rJ_rJ, hI_rI, hJ_rI, hI_rJ, hJ_rJ, hI_rR, hR_rI, hR_rJ, hN_rI, hN_rJ, svH_63, svH_66, rfH_63, wvH_63, wvH_62, wvH_67, wvH_68, wvH_69, sc_63, sc_n62, sc_n67, sc_n68, sc_n69, sc_n70, reduceIte, Nat.reduceEqDiff, eq_self, up_up, up_self, up_ne, ne_eq, not_false_eq_true, Int.reduceEq, Int.reduceNeg] at h9; first | (exfalso; omega) | skip) | skip) | exact (rfl : (20480 : Int) = 20480) | exact absurd e (by assumption) | refine Exists.intro w ?_ | exact hG2 | exact hW | exact hS2 | exact FlI.z hW hC2 (by assumption) (by assumption) rfl | exact h2 | exact h2 (by omega) | omega | exact True.intro | (simp only [rI_rI, rJ_rJ, hI_rI, hJ_rI, hI_rJ, hJ_rJ, hI_rR, hR_rI, hR_rJ, hN_rI, hN_rJ, svH_63, svH_66, rfH_63, wvH_63, wvH_62, wvH_67, wvH_68, wvH_69, sc_63, sc_n62, sc_n67, sc_n68, sc_n69, sc_n70, reduceIte, Nat.reduceEqDiff, eq_self, up_up, up_self, up_ne, ne_eq, not_false_eq_true, Int.reduceEq, Int.reduceNeg]; omega))
    · rintro m pc live vs g hl ⟨i, s, hC2, i1, i2, i3, i4, (⟨rfl, rfl, i5, rfl⟩ | ⟨rfl, y, k, rfl, k0, k1, i5, i6, rfl⟩)⟩ hv hh1 hf1
      · have hG2 := hC2.gh hG
        have hS2 := hC2.st hS
        have q0 := hS2.cn
        obtain ⟨_, rfl⟩ | ⟨e9, _⟩ := look2 hl
        · by_cases y : i < blk w
          · repeat' (first | apply And.intro | (with_reducible assumption) | (intro h9; first | (exfalso; omega) | (simp only [rI_rI, rJ_rJ, hI_rI, hJ_rI, hI_rJ, hJ_rJ, hI_rR, hR_rI, hR_rJ, hN_rI, hN_rJ, svH_63, svH_66, rfH_63, wvH_63, wvH_62, wvH_67, wvH_68, wvH_69, sc_63, sc_n62, sc_n67, sc_n68, sc_n69, sc_n70, reduceIte, Nat.reduceEqDiff, eq_self, up_up, up_self, up_ne, ne_eq, not_false_eq_true, Int.reduceEq, Int.reduceNeg] at h9; first | (exfalso; omega) | skip) | skip) | refine Exists.intro w ?_ | exact hG2 | exact hW | exact i3 | exact Exists.intro _ ⟨by omega, i, s, hC2.run _ _, by omega, by omega, i3, i4, Or.inr ⟨rfl, y, 0, rfl, by omega, by omega, i5, by assumption, rfl⟩⟩ | exact h2 | exact h2 (by omega) | omega | exact True.intro | (simp only [rI_rI, rJ_rJ, hI_rI, hJ_rI, hI_rJ, hJ_rJ, hI_rR, hR_rI, hR_rJ, hN_rI, hN_rJ, svH_63, svH_66, rfH_63, wvH_63, wvH_62, wvH_67, wvH_68, wvH_69, sc_63, sc_n62, sc_n67, sc_n68, sc_n69, sc_n70, reduceIte, Nat.reduceEqDiff, eq_self, up_up, up_self, up_ne, ne_eq, not_false_eq_true, Int.reduceEq, Int.reduceNeg]; omega))
          · obtain rfl : i = blk w := by omega
            have k2 := h2 g hC2 i5
            repeat' (first | apply And.intro | (with_reducible assumption) | (intro h9; first | (exfalso; omega) | (simp only [rI_rI, rJ_rJ, hI_rI, hJ_rI, hI_rJ, hJ_rJ, hI_rR, hR_rI, hR_rJ, hN_rI, hN_rJ, svH_63, svH_66, rfH_63, wvH_63, wvH_62, wvH_67, wvH_68, wvH_69, sc_63, sc_n62, sc_n67, sc_n68, sc_n69, sc_n70, reduceIte, Nat.reduceEqDiff, eq_self, up_up, up_self, up_ne, ne_eq, not_false_eq_true, Int.reduceEq, Int.reduceNeg] at h9; first | (exfalso; omega) | skip) | skip) | refine Exists.intro w ?_ | exact hG2 | exact hW | exact k2 | exact h2 | exact h2 (by omega) | omega | exact True.intro | (simp only [rI_rI, rJ_rJ, hI_rI, hJ_rI, hI_rJ, hJ_rJ, hI_rR, hR_rI, hR_rJ, hN_rI, hN_rJ, svH_63, svH_66, rfH_63, wvH_63, wvH_62, wvH_67, wvH_68, wvH_69, sc_63, sc_n62, sc_n67, sc_n68, sc_n69, sc_n70, reduceIte, Nat.reduceEqDiff, eq_self, up_up, up_self, up_ne, ne_eq, not_false_eq_true, Int.reduceEq, Int.reduceNeg]; omega))
        · omega
      · have hG2 := hC2.gh hG
        have hS2 := hC2.st hS
        have q0 := hS2.cn
        obtain ⟨e9, _⟩ | ⟨_, rfl⟩ := look2 hl
        · omega
        · by_cases z : k < w 290
          · have s1 := (hS2.cs k0 z).1
            have c := hW.con k0 z
            have nn := hW.nn
            have r := RowI.st2 (m := hI g 6 k * 8 + 0) hW i1 (by omega) k0 z i4 i5 i6 (by rw [s1]; omega)
            repeat' (first | apply And.intro | (with_reducible assumption) | (intro h9; first | (exfalso; omega) | (simp only [rI_rI, rJ_rJ, hI_rI, hJ_rI, hI_rJ, hJ_rJ, hI_rR, hR_rI, hR_rJ, hN_rI, hN_rJ, svH_63, svH_66, rfH_63, wvH_63, wvH_62, wvH_67, wvH_68, wvH_69, sc_63, sc_n62, sc_n67, sc_n68, sc_n69, sc_n70, reduceIte, Nat.reduceEqDiff, eq_self, up_up, up_self, up_ne, ne_eq, not_false_eq_true, Int.reduceEq, Int.reduceNeg] at h9; first | (exfalso; omega) | skip) | skip) | refine Exists.intro w ?_ | exact hG2 | exact hW | exact Exists.intro _ ⟨by omega, i, s, hC2.row _, by omega, by omega, i3, i4, Or.inr ⟨rfl, y, k + 1, rfl, by omega, by omega, r, i6, rfl⟩⟩ | exact h2 | exact h2 (by omega) | omega | exact True.intro | (simp only [rI_rI, rJ_rJ, hI_rI, hJ_rI, hI_rJ, hJ_rJ, hI_rR, hR_rI, hR_rJ, hN_rI, hN_rJ, svH_63, svH_66, rfH_63, wvH_63, wvH_62, wvH_67, wvH_68, wvH_69, sc_63, sc_n62, sc_n67, sc_n68, sc_n69, sc_n70, reduceIte, Nat.reduceEqDiff, eq_self, up_up, up_self, up_ne, ne_eq, not_false_eq_true, Int.reduceEq, Int.reduceNeg]; omega))
          · obtain rfl : k = w 290 := by omega
            repeat' (first | apply And.intro | (with_reducible assumption) | (intro h9; first | (exfalso; omega) | (simp only [rI_rI, rJ_rJ, hI_rI, hJ_rI, hI_rJ, hJ_rJ, hI_rR, hR_rI, hR_rJ, hN_rI, hN_rJ, svH_63, svH_66, rfH_63, wvH_63, wvH_62, wvH_67, wvH_68, wvH_69, sc_63, sc_n62, sc_n67, sc_n68, sc_n69, sc_n70, reduceIte, Nat.reduceEqDiff, eq_self, up_up, up_self, up_ne, ne_eq, not_false_eq_true, Int.reduceEq, Int.reduceNeg] at h9; first | (exfalso; omega) | skip) | skip) | refine Exists.intro w ?_ | exact hG2 | exact hW | exact Exists.intro _ ⟨by omega, i + 1, s, hC2, by omega, by omega, i3, i4, Or.inl ⟨rfl, rfl, i5.nx, rfl⟩⟩ | exact h2 | exact h2 (by omega) | omega | exact True.intro | (simp only [rI_rI, rJ_rJ, hI_rI, hJ_rI, hI_rJ, hJ_rJ, hI_rR, hR_rI, hR_rJ, hN_rI, hN_rJ, svH_63, svH_66, rfH_63, wvH_63, wvH_62, wvH_67, wvH_68, wvH_69, sc_63, sc_n62, sc_n67, sc_n68, sc_n69, sc_n70, reduceIte, Nat.reduceEqDiff, eq_self, up_up, up_self, up_ne, ne_eq, not_false_eq_true, Int.reduceEq, Int.reduceNeg]; omega))
  · obtain rfl : n = 63 := n9
    refine ⟨0, 0, rfl, FlI (63, q) w, ?_, ?_⟩
    · have hC2 := CrH.old e
      have e2 : ¬ hR (63, q) 46 9 = none := by rw [e]; exact fun q => by cases q
      repeat' (first | apply And.intro | (with_reducible assumption) | (intro h9; first | (exfalso; omega) | (simp only [rI_rI, rJ_rJ, hI_rI, hJ_rI, hI_rJ, hJ_rJ, hI_rR, hR_rI, hR_rJ, hN_rI, hN_rJ, svH_63, svH_66, rfH_63, wvH_63, wvH_62, wvH_67, wvH_68, wvH_69, sc_63, sc_n62, sc_n67, sc_n68, sc_n69, sc_n70, reduceIte, Nat.reduceEqDiff, eq_self, up_up, up_self, up_ne, ne_eq, not_false_eq_true, Int.reduceEq, Int.reduceNeg] at h9; first | (exfalso; omega) | skip) | skip) | exact absurd (by assumption) e2 | refine Exists.intro w ?_ | exact hG | exact hW | exact hS | exact FlI.z hW hC2 (by assumption) (by assumption) (by rw [e]) | exact h2 | exact h2 (by omega) | omega | exact True.intro | (simp only [rI_rI, rJ_rJ, hI_rI, hJ_rI, hI_rJ, hJ_rJ, hI_rR, hR_rI, hR_rJ, hN_rI, hN_rJ, svH_63, svH_66, rfH_63, wvH_63, wvH_62, wvH_67, wvH_68, wvH_69, sc_63, sc_n62, sc_n67, sc_n68, sc_n69, sc_n70, reduceIte, Nat.reduceEqDiff, eq_self, up_up, up_self, up_ne, ne_eq, not_false_eq_true, Int.reduceEq, Int.reduceNeg]; omega))
    · rintro m pc live vs g hl ⟨i, s, hC2, i1, i2, i3, i4, (⟨rfl, rfl, i5, rfl⟩ | ⟨rfl, y, k, rfl, k0, k1, i5, i6, rfl⟩)⟩ hv hh1 hf1
      · have hG2 := hC2.gh hG
        have hS2 := hC2.st hS
        have q0 := hS2.cn
        obtain ⟨_, rfl⟩ | ⟨e9, _⟩ := look2 hl
        · by_cases y : i < blk w
          · repeat' (first | apply And.intro | (with_reducible assumption) | (intro h9; first | (exfalso; omega) | (simp only [rI_rI, rJ_rJ, hI_rI, hJ_rI, hI_rJ, hJ_rJ, hI_rR, hR_rI, hR_rJ, hN_rI, hN_rJ, svH_63, svH_66, rfH_63, wvH_63, wvH_62, wvH_67, wvH_68, wvH_69, sc_63, sc_n62, sc_n67, sc_n68, sc_n69, sc_n70, reduceIte, Nat.reduceEqDiff, eq_self, up_up, up_self, up_ne, ne_eq, not_false_eq_true, Int.reduceEq, Int.reduceNeg] at h9; first | (exfalso; omega) | skip) | skip) | refine Exists.intro w ?_ | exact hG2 | exact hW | exact i3 | exact Exists.intro _ ⟨by omega, i, s, hC2.run _ _, by omega, by omega, i3, i4, Or.inr ⟨rfl, y, 0, rfl, by omega, by omega, i5, by assumption, rfl⟩⟩ | exact h2 | exact h2 (by omega) | omega | exact True.intro | (simp only [rI_rI, rJ_rJ, hI_rI, hJ_rI, hI_rJ, hJ_rJ, hI_rR, hR_rI, hR_rJ, hN_rI, hN_rJ, svH_63, svH_66, rfH_63, wvH_63, wvH_62, wvH_67, wvH_68, wvH_69, sc_63, sc_n62, sc_n67, sc_n68, sc_n69, sc_n70, reduceIte, Nat.reduceEqDiff, eq_self, up_up, up_self, up_ne, ne_eq, not_false_eq_true, Int.reduceEq, Int.reduceNeg]; omega))
          · obtain rfl : i = blk w := by omega
            have k2 := h2 g hC2 i5
            repeat' (first | apply And.intro | (with_reducible assumption) | (intro h9; first | (exfalso; omega) | (simp only [rI_rI, rJ_rJ, hI_rI, hJ_rI, hI_rJ, hJ_rJ, hI_rR, hR_rI, hR_rJ, hN_rI, hN_rJ, svH_63, svH_66, rfH_63, wvH_63, wvH_62, wvH_67, wvH_68, wvH_69, sc_63, sc_n62, sc_n67, sc_n68, sc_n69, sc_n70, reduceIte, Nat.reduceEqDiff, eq_self, up_up, up_self, up_ne, ne_eq, not_false_eq_true, Int.reduceEq, Int.reduceNeg] at h9; first | (exfalso; omega) | skip) | skip) | refine Exists.intro w ?_ | exact hG2 | exact hW | exact k2 | exact h2 | exact h2 (by omega) | omega | exact True.intro | (simp only [rI_rI, rJ_rJ, hI_rI, hJ_rI, hI_rJ, hJ_rJ, hI_rR, hR_rI, hR_rJ, hN_rI, hN_rJ, svH_63, svH_66, rfH_63, wvH_63, wvH_62, wvH_67, wvH_68, wvH_69, sc_63, sc_n62, sc_n67, sc_n68, sc_n69, sc_n70, reduceIte, Nat.reduceEqDiff, eq_self, up_up, up_self, up_ne, ne_eq, not_false_eq_true, Int.reduceEq, Int.reduceNeg]; omega))
        · omega
      · have hG2 := hC2.gh hG
        have hS2 := hC2.st hS
        have q0 := hS2.cn
        obtain ⟨e9, _⟩ | ⟨_, rfl⟩ := look2 hl
        · omega
        · by_cases z : k < w 290
          · have s1 := (hS2.cs k0 z).1
            have c := hW.con k0 z
            have nn := hW.nn
            have r := RowI.st2 (m := hI g 6 k * 8 + 0) hW i1 (by omega) k0 z i4 i5 i6 (by rw [s1]; omega)
            repeat' (first | apply And.intro | (with_reducible assumption) | (intro h9; first | (exfalso; omega) | (simp only [rI_rI, rJ_rJ, hI_rI, hJ_rI, hI_rJ, hJ_rJ, hI_rR, hR_rI, hR_rJ, hN_rI, hN_rJ, svH_63, svH_66, rfH_63, wvH_63, wvH_62, wvH_67, wvH_68, wvH_69, sc_63, sc_n62, sc_n67, sc_n68, sc_n69, sc_n70, reduceIte, Nat.reduceEqDiff, eq_self, up_up, up_self, up_ne, ne_eq, not_false_eq_true, Int.reduceEq, Int.reduceNeg] at h9; first | (exfalso; omega) | skip) | skip) | refine Exists.intro w ?_ | exact hG2 | exact hW | exact Exists.intro _ ⟨by omega, i, s, hC2.row _, by omega, by omega, i3, i4, Or.inr ⟨rfl, y, k + 1, rfl, by omega, by omega, r, i6, rfl⟩⟩ | exact h2 | exact h2 (by omega) | omega | exact True.intro | (simp only [rI_rI, rJ_rJ, hI_rI, hJ_rI, hI_rJ, hJ_rJ, hI_rR, hR_rI, hR_rJ, hN_rI, hN_rJ, svH_63, svH_66, rfH_63, wvH_63, wvH_62, wvH_67, wvH_68, wvH_69, sc_63, sc_n62, sc_n67, sc_n68, sc_n69, sc_n70, reduceIte, Nat.reduceEqDiff, eq_self, up_up, up_self, up_ne, ne_eq, not_false_eq_true, Int.reduceEq, Int.reduceNeg]; omega))
          · obtain rfl : k = w 290 := by omega
            repeat' (first | apply And.intro | (with_reducible assumption) | (intro h9; first | (exfalso; omega) | (simp only [rI_rI, rJ_rJ, hI_rI, hJ_rI, hI_rJ, hJ_rJ, hI_rR, hR_rI, hR_rJ, hN_rI, hN_rJ, svH_63, svH_66, rfH_63, wvH_63, wvH_62, wvH_67, wvH_68, wvH_69, sc_63, sc_n62, sc_n67, sc_n68, sc_n69, sc_n70, reduceIte, Nat.reduceEqDiff, eq_self, up_up, up_self, up_ne, ne_eq, not_false_eq_true, Int.reduceEq, Int.reduceNeg] at h9; first | (exfalso; omega) | skip) | skip) | refine Exists.intro w ?_ | exact hG2 | exact hW | exact Exists.intro _ ⟨by omega, i + 1, s, hC2, by omega, by omega, i3, i4, Or.inl ⟨rfl, rfl, i5.nx, rfl⟩⟩ | exact h2 | exact h2 (by omega) | omega | exact True.intro | (simp only [rI_rI, rJ_rJ, hI_rI, hJ_rI, hI_rJ, hJ_rJ, hI_rR, hR_rI, hR_rJ, hN_rI, hN_rJ, svH_63, svH_66, rfH_63, wvH_63, wvH_62, wvH_67, wvH_68, wvH_69, sc_63, sc_n62, sc_n67, sc_n68, sc_n69, sc_n70, reduceIte, Nat.reduceEqDiff, eq_self, up_up, up_self, up_ne, ne_eq, not_false_eq_true, Int.reduceEq, Int.reduceNeg]; omega))
theorem m_X5_filledRows : MM 116 s_X5_filledRows := mm_of (own := 4) (by rfl) k_X5_filledRows (cl := [(99, s_X5_constraintCones), (29, s_X0_blockCount), (45, s_X3_run), (47, s_X3_plane)]) ⟨m_X5_constraintCones, m_X0_blockCount, m_X3_run, m_X3_plane, trivial⟩ o_X5_filledRows
theorem coreF_st {w : Int → Int} {k : Int} (h : 0 ≤ k) : (cfB w (coreS w (coreF w k.toNat) k) = true → coreF w (k + 1).toNat = coreS w (coreF w k.toNat) k) ∧ (cfB w (coreS w (coreF w k.toNat) k) = false → coreF w (k + 1).toNat = coreF w k.toNat) := by
  rw [coreF_s w h]
  exact ⟨fun q => by rw [q, if_pos rfl], fun q => by rw [q, if_neg (by decide)]⟩
def McI (h : Hp) (w : Int → Int) (m pc : Nat) (vs : List AV) (g : Hp) : Prop := ∃ (k : Int), CrH h g ∧ RowI w (hJ g 62) (blk w) 0 ∧ 0 ≤ k ∧ k ≤ w 290 ∧ vs = [.inr (.inr (some 46)), .inr (.inr (some 62)), .inl (coreF w k.toNat), .inl k] ∧ m = (w 290 - k).toNat
theorem McI.z {h g : Hp} {w : Int → Int} {vs : List AV} {pc : Nat} (hW : WF w) (c : CrH h g) (h1 : RowI w (hJ g 62) (blk w) 0) (e : vs = [.inr (.inr (some 46)), .inr (.inr (some 62)), .inl (p2 (w 290) - 1), .inl 0]) : ∃ k, McI h w k pc vs g := by
  have := hW.cn
  exact ⟨_, 0, c, h1, by omega, by omega, e, rfl⟩
def s_X5_minimalConflict : CS := (yc 6, ap [(3, 46)] (fun  h Rt X =>
∃ w, GH h w ∧ WF w ∧ St0 (hI h) 5 w ∧ RwN h ∧ ∀ g, CrH h g → Rt (some (.inl (coreF w (w 290).toNat))) g))
set_option maxRecDepth 100000 in
set_option maxHeartbeats 4000000 in
theorem o_X5_minimalConflict : Obl true 1 5 (sp [(116, s_X5_filledRows), (187, s_X9_fullWord), (117, s_X5_isConflict)]) [] code_X5_minimalConflict s_X5_minimalConflict := by
  refine oblY (by rfl) [(18, [0, 1, 2, 3])] ?_
  intro  h Rt X hh hf hs
  obtain ⟨w, hG, hW, hS, hC, h2⟩ := hs
  have c0 := hW.cn
  have s0 := hS.cn
  obtain ⟨n, q⟩ := h
  rcases hC.o with ⟨n9, e⟩ | ⟨n9, e⟩
  · obtain rfl : n = 62 := n9
    refine ⟨1, 20480, rfl, McI (62, q) w, ?_, ?_⟩
    · have q0 : ∀ g, CrH (62, q) g → hI g 5 2 = w 290 := fun g c => (c.st hS).cn
      repeat' (first | apply And.intro | (with_reducible assumption) | (intro h9; first | (exfalso; omega) | (simp only [rI_rI, rJ_rJ, hI_rI, hJ_rI, hI_rJ, hJ_rJ, hI_rR, hR_rI, hR_rJ, hN_rI, hN_rJ, svH_63, svH_66, rfH_63, wvH_63, wvH_62, wvH_67, wvH_68, wvH_69, sc_63, sc_n62, sc_n67, sc_n68, sc_n69, sc_n70, reduceIte, Nat.reduceEqDiff, eq_self, up_up, up_self, up_ne, ne_eq, not_false_eq_true, Int.reduceEq, Int.reduceNeg] at h9; first | (exfalso; omega) | skip) | skip) | refine Exists.intro w ?_ | exact hG | exact hW | exact hS | exact hC | (rw [q0 _ (by assumption)]; omega) | exact McI.z hW (by assumption) (by assumption) (by rw [q0 _ (by assumption)]) | exact h2 | exact h2 (by omega) | omega | exact True.intro | (simp only [rI_rI, rJ_rJ, hI_rI, hJ_rI, hI_rJ, hJ_rJ, hI_rR, hR_rI, hR_rJ, hN_rI, hN_rJ, svH_63, svH_66, rfH_63, wvH_63, wvH_62, wvH_67, wvH_68, wvH_69, sc_63, sc_n62, sc_n67, sc_n68, sc_n69, sc_n70, reduceIte, Nat.reduceEqDiff, eq_self, up_up, up_self, up_ne, ne_eq, not_false_eq_true, Int.reduceEq, Int.reduceNeg]; omega))
    · rintro m pc live vs g hl ⟨k, hC2, i1, i2, i3, rfl, rfl⟩ hv hh1 hf1
      obtain ⟨rfl, rfl⟩ := look1 hl
      have hG2 := hC2.gh hG
      have hS2 := hC2.st hS
      have q0 := hS2.cn
      by_cases z : k < w 290
      · have r := coreF_rng w c0 k.toNat
        have r2 := bAnd_le (y := bXor (sShl 1 k) (-1)) r.1 r.2 c0.2
        have t := coreF_st (w := w) i2
        cases u : cfB w (coreS w (coreF w k.toNat) k) with
        | true =>
          have u2 : ¬ cfB w (coreS w (coreF w k.toNat) k) = false := by rw [u]; decide
          have t1 := t.1 u
          repeat' (first | apply And.intro | (with_reducible assumption) | (intro h9; first | (exfalso; omega) | (simp only [rI_rI, rJ_rJ, hI_rI, hJ_rI, hI_rJ, hJ_rJ, hI_rR, hR_rI, hR_rJ, hN_rI, hN_rJ, svH_63, svH_66, rfH_63, wvH_63, wvH_62, wvH_67, wvH_68, wvH_69, sc_63, sc_n62, sc_n67, sc_n68, sc_n69, sc_n70, reduceIte, Nat.reduceEqDiff, eq_self, up_up, up_self, up_ne, ne_eq, not_false_eq_true, Int.reduceEq, Int.reduceNeg] at h9; first | (exfalso; omega) | skip) | skip) | refine Exists.intro w ?_ | exact hG2 | exact hW | exact hS2 | exact i1 | exact absurd (by assumption) u2 | exact Exists.intro _ ⟨by omega, k + 1, hC2, i1, by omega, by omega, (by rw [t1]; rfl), rfl⟩ | exact h2 | exact h2 (by omega) | omega | exact True.intro | (simp only [rI_rI, rJ_rJ, hI_rI, hJ_rI, hI_rJ, hJ_rJ, hI_rR, hR_rI, hR_rJ, hN_rI, hN_rJ, svH_63, svH_66, rfH_63, wvH_63, wvH_62, wvH_67, wvH_68, wvH_69, sc_63, sc_n62, sc_n67, sc_n68, sc_n69, sc_n70, reduceIte, Nat.reduceEqDiff, eq_self, up_up, up_self, up_ne, ne_eq, not_false_eq_true, Int.reduceEq, Int.reduceNeg]; omega))
        | false =>
          have u2 : ¬ cfB w (coreS w (coreF w k.toNat) k) = true := by rw [u]; decide
          have t1 := t.2 u
          repeat' (first | apply And.intro | (with_reducible assumption) | (intro h9; first | (exfalso; omega) | (simp only [rI_rI, rJ_rJ, hI_rI, hJ_rI, hI_rJ, hJ_rJ, hI_rR, hR_rI, hR_rJ, hN_rI, hN_rJ, svH_63, svH_66, rfH_63, wvH_63, wvH_62, wvH_67, wvH_68, wvH_69, sc_63, sc_n62, sc_n67, sc_n68, sc_n69, sc_n70, reduceIte, Nat.reduceEqDiff, eq_self, up_up, up_self, up_ne, ne_eq, not_false_eq_true, Int.reduceEq, Int.reduceNeg] at h9; first | (exfalso; omega) | skip) | skip) | refine Exists.intro w ?_ | exact hG2 | exact hW | exact hS2 | exact i1 | exact absurd (by assumption) u2 | exact Exists.intro _ ⟨by omega, k + 1, hC2, i1, by omega, by omega, (by rw [t1] <;> rfl), rfl⟩ | exact h2 | exact h2 (by omega) | omega | exact True.intro | (simp only [rI_rI, rJ_rJ, hI_rI, hJ_rI, hI_rJ, hJ_rJ, hI_rR, hR_rI, hR_rJ, hN_rI, hN_rJ, svH_63, svH_66, rfH_63, wvH_63, wvH_62, wvH_67, wvH_68, wvH_69, sc_63, sc_n62, sc_n67, sc_n68, sc_n69, sc_n70, reduceIte, Nat.reduceEqDiff, eq_self, up_up, up_self, up_ne, ne_eq, not_false_eq_true, Int.reduceEq, Int.reduceNeg]; omega))
      · obtain rfl : k = w 290 := by omega
        have k2 := h2 g hC2
        repeat' (first | apply And.intro | (with_reducible assumption) | (intro h9; first | (exfalso; omega) | (simp only [rI_rI, rJ_rJ, hI_rI, hJ_rI, hI_rJ, hJ_rJ, hI_rR, hR_rI, hR_rJ, hN_rI, hN_rJ, svH_63, svH_66, rfH_63, wvH_63, wvH_62, wvH_67, wvH_68, wvH_69, sc_63, sc_n62, sc_n67, sc_n68, sc_n69, sc_n70, reduceIte, Nat.reduceEqDiff, eq_self, up_up, up_self, up_ne, ne_eq, not_false_eq_true, Int.reduceEq, Int.reduceNeg] at h9; first | (exfalso; omega) | skip) | skip) | refine Exists.intro w ?_ | exact hG2 | exact hW | exact k2 | exact h2 | exact h2 (by omega) | omega | exact True.intro | (simp only [rI_rI, rJ_rJ, hI_rI, hJ_rI, hI_rJ, hJ_rJ, hI_rR, hR_rI, hR_rJ, hN_rI, hN_rJ, svH_63, svH_66, rfH_63, wvH_63, wvH_62, wvH_67, wvH_68, wvH_69, sc_63, sc_n62, sc_n67, sc_n68, sc_n69, sc_n70, reduceIte, Nat.reduceEqDiff, eq_self, up_up, up_self, up_ne, ne_eq, not_false_eq_true, Int.reduceEq, Int.reduceNeg]; omega))
  · obtain rfl : n = 63 := n9
    refine ⟨0, 0, rfl, McI (63, q) w, ?_, ?_⟩
    · have q0 : ∀ g, CrH (63, q) g → hI g 5 2 = w 290 := fun g c => (c.st hS).cn
      repeat' (first | apply And.intro | (with_reducible assumption) | (intro h9; first | (exfalso; omega) | (simp only [rI_rI, rJ_rJ, hI_rI, hJ_rI, hI_rJ, hJ_rJ, hI_rR, hR_rI, hR_rJ, hN_rI, hN_rJ, svH_63, svH_66, rfH_63, wvH_63, wvH_62, wvH_67, wvH_68, wvH_69, sc_63, sc_n62, sc_n67, sc_n68, sc_n69, sc_n70, reduceIte, Nat.reduceEqDiff, eq_self, up_up, up_self, up_ne, ne_eq, not_false_eq_true, Int.reduceEq, Int.reduceNeg] at h9; first | (exfalso; omega) | skip) | skip) | refine Exists.intro w ?_ | exact hG | exact hW | exact hS | exact hC | (rw [q0 _ (by assumption)]; omega) | exact McI.z hW (by assumption) (by assumption) (by rw [q0 _ (by assumption)]) | exact h2 | exact h2 (by omega) | omega | exact True.intro | (simp only [rI_rI, rJ_rJ, hI_rI, hJ_rI, hI_rJ, hJ_rJ, hI_rR, hR_rI, hR_rJ, hN_rI, hN_rJ, svH_63, svH_66, rfH_63, wvH_63, wvH_62, wvH_67, wvH_68, wvH_69, sc_63, sc_n62, sc_n67, sc_n68, sc_n69, sc_n70, reduceIte, Nat.reduceEqDiff, eq_self, up_up, up_self, up_ne, ne_eq, not_false_eq_true, Int.reduceEq, Int.reduceNeg]; omega))
    · rintro m pc live vs g hl ⟨k, hC2, i1, i2, i3, rfl, rfl⟩ hv hh1 hf1
      obtain ⟨rfl, rfl⟩ := look1 hl
      have hG2 := hC2.gh hG
      have hS2 := hC2.st hS
      have q0 := hS2.cn
      by_cases z : k < w 290
      · have r := coreF_rng w c0 k.toNat
        have r2 := bAnd_le (y := bXor (sShl 1 k) (-1)) r.1 r.2 c0.2
        have t := coreF_st (w := w) i2
        cases u : cfB w (coreS w (coreF w k.toNat) k) with
        | true =>
          have u2 : ¬ cfB w (coreS w (coreF w k.toNat) k) = false := by rw [u]; decide
          have t1 := t.1 u
          repeat' (first | apply And.intro | (with_reducible assumption) | (intro h9; first | (exfalso; omega) | (simp only [rI_rI, rJ_rJ, hI_rI, hJ_rI, hI_rJ, hJ_rJ, hI_rR, hR_rI, hR_rJ, hN_rI, hN_rJ, svH_63, svH_66, rfH_63, wvH_63, wvH_62, wvH_67, wvH_68, wvH_69, sc_63, sc_n62, sc_n67, sc_n68, sc_n69, sc_n70, reduceIte, Nat.reduceEqDiff, eq_self, up_up, up_self, up_ne, ne_eq, not_false_eq_true, Int.reduceEq, Int.reduceNeg] at h9; first | (exfalso; omega) | skip) | skip) | refine Exists.intro w ?_ | exact hG2 | exact hW | exact hS2 | exact i1 | exact absurd (by assumption) u2 | exact Exists.intro _ ⟨by omega, k + 1, hC2, i1, by omega, by omega, (by rw [t1]; rfl), rfl⟩ | exact h2 | exact h2 (by omega) | omega | exact True.intro | (simp only [rI_rI, rJ_rJ, hI_rI, hJ_rI, hI_rJ, hJ_rJ, hI_rR, hR_rI, hR_rJ, hN_rI, hN_rJ, svH_63, svH_66, rfH_63, wvH_63, wvH_62, wvH_67, wvH_68, wvH_69, sc_63, sc_n62, sc_n67, sc_n68, sc_n69, sc_n70, reduceIte, Nat.reduceEqDiff, eq_self, up_up, up_self, up_ne, ne_eq, not_false_eq_true, Int.reduceEq, Int.reduceNeg]; omega))
        | false =>
          have u2 : ¬ cfB w (coreS w (coreF w k.toNat) k) = true := by rw [u]; decide
          have t1 := t.2 u
          repeat' (first | apply And.intro | (with_reducible assumption) | (intro h9; first | (exfalso; omega) | (simp only [rI_rI, rJ_rJ, hI_rI, hJ_rI, hI_rJ, hJ_rJ, hI_rR, hR_rI, hR_rJ, hN_rI, hN_rJ, svH_63, svH_66, rfH_63, wvH_63, wvH_62, wvH_67, wvH_68, wvH_69, sc_63, sc_n62, sc_n67, sc_n68, sc_n69, sc_n70, reduceIte, Nat.reduceEqDiff, eq_self, up_up, up_self, up_ne, ne_eq, not_false_eq_true, Int.reduceEq, Int.reduceNeg] at h9; first | (exfalso; omega) | skip) | skip) | refine Exists.intro w ?_ | exact hG2 | exact hW | exact hS2 | exact i1 | exact absurd (by assumption) u2 | exact Exists.intro _ ⟨by omega, k + 1, hC2, i1, by omega, by omega, (by rw [t1] <;> rfl), rfl⟩ | exact h2 | exact h2 (by omega) | omega | exact True.intro | (simp only [rI_rI, rJ_rJ, hI_rI, hJ_rI, hI_rJ, hJ_rJ, hI_rR, hR_rI, hR_rJ, hN_rI, hN_rJ, svH_63, svH_66, rfH_63, wvH_63, wvH_62, wvH_67, wvH_68, wvH_69, sc_63, sc_n62, sc_n67, sc_n68, sc_n69, sc_n70, reduceIte, Nat.reduceEqDiff, eq_self, up_up, up_self, up_ne, ne_eq, not_false_eq_true, Int.reduceEq, Int.reduceNeg]; omega))
      · obtain rfl : k = w 290 := by omega
        have k2 := h2 g hC2
        repeat' (first | apply And.intro | (with_reducible assumption) | (intro h9; first | (exfalso; omega) | (simp only [rI_rI, rJ_rJ, hI_rI, hJ_rI, hI_rJ, hJ_rJ, hI_rR, hR_rI, hR_rJ, hN_rI, hN_rJ, svH_63, svH_66, rfH_63, wvH_63, wvH_62, wvH_67, wvH_68, wvH_69, sc_63, sc_n62, sc_n67, sc_n68, sc_n69, sc_n70, reduceIte, Nat.reduceEqDiff, eq_self, up_up, up_self, up_ne, ne_eq, not_false_eq_true, Int.reduceEq, Int.reduceNeg] at h9; first | (exfalso; omega) | skip) | skip) | refine Exists.intro w ?_ | exact hG2 | exact hW | exact k2 | exact h2 | exact h2 (by omega) | omega | exact True.intro | (simp only [rI_rI, rJ_rJ, hI_rI, hJ_rI, hI_rJ, hJ_rJ, hI_rR, hR_rI, hR_rJ, hN_rI, hN_rJ, svH_63, svH_66, rfH_63, wvH_63, wvH_62, wvH_67, wvH_68, wvH_69, sc_63, sc_n62, sc_n67, sc_n68, sc_n69, sc_n70, reduceIte, Nat.reduceEqDiff, eq_self, up_up, up_self, up_ne, ne_eq, not_false_eq_true, Int.reduceEq, Int.reduceNeg]; omega))
theorem m_X5_minimalConflict : MM 115 s_X5_minimalConflict := mm_of (own := 4) (by rfl) k_X5_minimalConflict (cl := [(116, s_X5_filledRows), (187, s_X9_fullWord), (117, s_X5_isConflict)]) ⟨m_X5_filledRows, m_X9_fullWord, m_X5_isConflict, trivial⟩ o_X5_minimalConflict

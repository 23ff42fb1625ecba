/-! ===== the class: conflicts ===== -/
/-- what a method may make that makes the rows, if there are none -/
abbrev yc (n : Nat) : List AV → Hp → Nat × (Nat × Nat) := fun _ h => cond (Nat.beq (hN h) 62) (1, (20480, n)) (0, (0, n))
abbrev KLn (mc ms : Nat) (I : Nat → Nat → List AV → Hp → Prop) (k : Nat) : AKK := fun pc vs h u v => ob (Nat.beq u mc && Nat.beq v ms) (∃ k', k' < k ∧ I k' pc vs h)
abbrev KEn (mc ms : Nat) (I : Nat → Nat → List AV → Hp → Prop) : AKK := fun pc vs h u v => ob (Nat.beq u mc && Nat.beq v ms) (∃ k, I k pc vs h)
/-- a method with loops, that makes all that it makes before the first cut -/
theorem oblY {sh : List (Nat × Nat)} {f : Fn sh} {rk nL HT : Nat} {S : Nat → CS} {code : List (Nat × Row)} (hcat : (Nat.ble (catSh sh) nL && Nat.blt 0 HT) = true) (cut : List (Nat × List Nat))
    (H : AllA sh f (fun as g => ∀ (h : Hp) (Rt : Option AV → Hp → Prop) (X : Nat → Hp → Prop), hok h → fixed h → g h Rt X → ∃ mc ms, yc HT as h = (mc, (ms, HT)) ∧ ∃ I : Nat → Nat → List AV → Hp → Prop, aw true rk mc ms HT S [] Rt X none (fun _ => 0) code cut (KEn mc ms I) 4000 code 0 (lpad (lent as) nL) [] h 0 0 ∧
      ∀ k pc live vs h1, look cut pc = some live → I k pc vs h1 → (∀ x ∈ vs, vok (hN h1) x) → hok h1 → fixed h1 → aw true rk mc ms HT S [] Rt X none (fun _ => 0) code cut (KLn mc ms I k) 4000 code pc (lmk 0 nL live vs) [] h1 mc ms)) : Obl true rk nL S [] code (yc HT, ap sh f) := by
  intro as h Rt X hv hh hf ha
  obtain ⟨e, g, h1, h2⟩ := allA_el H hv ha
  rw [e]
  obtain ⟨mc, ms, e2, I, g1, g2⟩ := h1 h Rt X hh (hf rfl) h2
  have hKK : ∀ k, (fun (pc : Nat) (vs : List AV) (h : Hp) (u v : Nat) => ∃ k', k' < k ∧ (u = mc ∧ v = ms ∧ I k' pc vs h)) = KLn mc ms I k := by
    intro k
    funext pc vs h u v
    refine propext ⟨?_, fun q => ?_⟩
    · rintro ⟨k', h1, rfl, rfl, h2⟩
      refine ob_i ?_ ⟨k', h1, h2⟩
      rw [Nat.beq_refl, Nat.beq_refl]; rfl
    · obtain ⟨h1, k', h2, h3⟩ := ob_spec q
      rw [Bool.and_eq_true] at h1
      exact ⟨k', h2, Nat.eq_of_beq_eq_true h1.1, Nat.eq_of_beq_eq_true h1.2, h3⟩
  show (Nat.ble (catSh sh) nL && Nat.blt 0 (yc HT as h).2.2) = true ∧ ∃ (cut : List (Nat × List Nat)) (I : Nat → AKK) (F : Nat),
      aw true rk (yc HT as h).1 (yc HT as h).2.1 (yc HT as h).2.2 S [] Rt X none (fun _ => 0) code cut (fun pc vs h u v => ∃ k, I k pc vs h u v) F code 0 (lpad (lent as) nL) [] h 0 0 ∧
      ∀ k pc live vs h1 u v, look cut pc = some live → I k pc vs h1 u v → (∀ x ∈ vs, vok (hN h1) x) → hok h1 → (true = true → fixed h1) →
        aw true rk (yc HT as h).1 (yc HT as h).2.1 (yc HT as h).2.2 S [] Rt X none (fun _ => 0) code cut (fun pc vs h u v => ∃ k', k' < k ∧ I k' pc vs h u v) F code pc (lmk 0 nL live vs) [] h1 u v
  rw [e2]
  refine ⟨hcat, cut, fun k pc vs h u v => u = mc ∧ v = ms ∧ I k pc vs h, 4000, ?_, ?_⟩
  · have e9 : (fun (pc : Nat) (vs : List AV) (h : Hp) (u v : Nat) => ∃ k, (u = mc ∧ v = ms ∧ I k pc vs h)) = KEn mc ms I := by
      funext pc vs h u v
      refine propext ⟨?_, fun q => ?_⟩
      · rintro ⟨k', rfl, rfl, h2⟩
        refine ob_i ?_ ⟨k', h2⟩
        rw [Nat.beq_refl, Nat.beq_refl]; rfl
      · obtain ⟨h1, k', h3⟩ := ob_spec q
        rw [Bool.and_eq_true] at h1
        exact ⟨k', Nat.eq_of_beq_eq_true h1.1, Nat.eq_of_beq_eq_true h1.2, h3⟩
    rw [e9]
    exact g1
  · rintro k pc live vs h1 u v hl ⟨rfl, rfl, hi⟩ hv1 hh1 hf1
    rw [hKK]
    exact g2 k pc live vs h1 hl hi hv1 hh1 (hf1 rfl)
/-! sets of constraints -/
theorem bAnd_le {x y k : Int} (x0 : 0 ≤ x) (x1 : x < p2 k) (hk : k ≤ 20) : 0 ≤ bAnd x y ∧ bAnd x y < p2 k := by
  have p8 := p2_le20 hk
  have le : un x &&& un y ≤ un x := Nat.and_le_left
  have ux : un x = x.toNat := un_pos x0 (by omega)
  have e := bAnd_nat (x := x) (y := y) (by omega)
  rw [e]
  omega
theorem coreF_rng (w : Int → Int) (hk : 0 ≤ w 290 ∧ w 290 ≤ 20) : ∀ k : Nat, 0 ≤ coreF w k ∧ coreF w k < p2 (w 290) := by
  intro k
  induction k with
  | zero =>
    have := p2_pos (w 290)
    show 0 ≤ p2 (w 290) - 1 ∧ p2 (w 290) - 1 < p2 (w 290)
    omega
  | succ k ih =>
    show 0 ≤ (if cfB w (coreS w (coreF w k) (k : Int)) then coreS w (coreF w k) (k : Int) else coreF w k) ∧ (if cfB w (coreS w (coreF w k) (k : Int)) then coreS w (coreF w k) (k : Int) else coreF w k) < p2 (w 290)
    split
    · exact bAnd_le ih.1 ih.2 hk.2
    · exact ih
theorem con01q {w : Int → Int} (h : WF w) (N : Int) {k : Int} (h0 : 0 ≤ k) (h1 : k < w 290) : vl w (asg w N) (w (291 + k)) = 0 ∨ vl w (asg w N) (w (291 + k)) = 1 := by
  have q := h.con h0 h1
  have := h.vr (asg_ev w N) q.1 q.2.1
  rw [q.2.2.1, p2_1] at this
  omega
theorem fulW_ib {w : Int → Int} (h : WF w) (N : Int) : ∀ k : Nat, (k : Int) ≤ w 290 → ∀ j, 0 ≤ j → j < (k : Int) → ib (fulW w N k) j = decide (vl w (asg w N) (w (291 + j)) = 1) := by
  intro k
  induction k with
  | zero => intro _ j h0 h1; omega
  | succ k ih =>
    intro hk j h0 h1
    have r := fulW_rng h N k (by omega)
    rw [fulW_s]
    by_cases e : j = (k : Int)
    · subst e
      rcases con01q h N (k := (k : Int)) (by omega) (by omega) with c | c
      · rw [c, Int.zero_mul, Int.add_zero, (ib_hi r.1 r.2).2]; rfl
      · rw [c, (ib_hi r.1 r.2).1]; rfl
    · rw [ib_lo h0 (by omega)]
      exact ih (by omega) j h0 (by omega)
theorem bsub {f s k : Int} (hk : 0 ≤ k ∧ k ≤ 20) (f0 : 0 ≤ f) (f1 : f < p2 k) (s0 : 0 ≤ s) (s1 : s < p2 k) : bAnd f s = s ↔ ∀ j, 0 ≤ j → j < k → ib s j = true → ib f j = true := by
  have p8 := p2_le20 hk.2
  have q : ∀ j, ib (bAnd f s) j = (ib f j && ib s j) := fun j => ib_and f0 (by omega) s0 (by omega)
  constructor
  · intro e j j0 j1 hs
    have := q j
    rw [e, hs, Bool.and_true] at this
    exact this.symm
  · intro h
    have r := bAnd_le (y := s) f0 f1 hk.2
    refine ib_ext hk.1 r.1 r.2 s0 s1 fun j j0 j1 => ?_
    rw [q j]
    cases e : ib s j with
    | true => rw [h j j0 j1 e]; rfl
    | false => rw [Bool.and_false]
/-- an assignment fulfils the chosen ones -/
def FulS (w : Int → Int) (s N : Int) : Prop := ∀ j, 0 ≤ j → j < w 290 → ib s j = true → vl w (asg w N) (w (291 + j)) = 1
theorem cfB_iff {w : Int → Int} (h : WF w) {s : Int} (s0 : 0 ≤ s) (s1 : s < p2 (w 290)) : cfB w s = true ↔ ∀ N, 0 ≤ N → N < tot w → ¬ FulS w s N := by
  have c := h.cn
  have q : ∀ N, bAnd (fulW w N (w 290).toNat) s = s ↔ FulS w s N := by
    intro N
    have r := fulW_rng h N (w 290).toNat (by omega)
    have e : (((w 290).toNat : Nat) : Int) = w 290 := by omega
    rw [e] at r
    rw [bsub c r.1 r.2 s0 s1]
    have g := fulW_ib h N (w 290).toNat (by omega)
    rw [e] at g
    exact ⟨fun a j j0 j1 hs => of_decide_eq_true ((g j j0 j1).symm.trans (a j j0 j1 hs)), fun a j j0 j1 hs => (g j j0 j1).trans (decide_eq_true (a j j0 j1 hs))⟩
  unfold cfB
  rw [decide_eq_true_iff, fst_none]
  constructor
  · intro a N n0 n1 hf
    have := a N.toNat (by omega)
    rw [show ((N.toNat : Nat) : Int) = N by omega] at this
    exact of_decide_eq_false this ((q N).mpr hf)
  · intro a j hj
    exact decide_eq_false fun e => a j (by omega) (by omega) ((q j).mp e)
/-- the rows hold what the constraints are, in the blocks below i and in the block i for those below j -/
def RowI (w : Int → Int) (T : Int → Int64) (i j : Int) : Prop := Box (∀ k, 0 ≤ k → k < w 290 → ∀ B, 0 ≤ B → (B < i ∨ (B = i ∧ k < j)) → ∀ l, l < 64 → (lb (T (k * 1024 + B)) l = true ↔ vl w (La w B l) (w (291 + k)) = 1))
theorem RowI.z (w : Int → Int) (T : Int → Int64) : RowI w T 0 0 := Box.i fun k k0 k1 B b0 b1 => by omega
theorem RowI.nx {w : Int → Int} {T : Int → Int64} {i : Int} (h : RowI w T i (w 290)) : RowI w T (i + 1) 0 := Box.i fun k k0 k1 B b0 b1 l hl => h.o k k0 k1 B b0 (by omega) l hl
theorem RowI.st {w : Int → Int} {T Q : Int → Int64} {i j : Int} {s : Int64} (hW : WF w) (h0 : 0 ≤ i) (h2 : i < 1024) (j0 : 0 ≤ j) (j1 : j < w 290) (hs : HasC w s (w 290)) (h : RowI w T i j) (hv : VlL w Q i s (w 0)) : RowI w (up T (j * 1024 + i) (Q (w (291 + j) * 8))) i (j + 1) := Box.i fun k k0 k1 B b0 b1 l hl => by
  by_cases e : B = i ∧ k = j
  · obtain ⟨rfl, rfl⟩ := e
    rw [up_self]
    have c := hW.con j0 j1
    have v := hv.o _ c.1 c.2.1 (hs.o k j0 j1) l hl
    rw [lv1 c.2.2.1] at v
    rw [← v]
    cases lb (Q (w (291 + k) * 8)) l <;> simp [b2]
  · rw [up_ne (by omega)]
    exact h.o k k0 k1 B b0 (by omega) l hl
/-- the lanes of a block that fulfil the chosen ones below i -/
def AnC (w : Int → Int) (s B : Int) (c : Int64) (i : Int) : Prop := Box (∀ l, l < 64 → (lb c l = true ↔ lane B l < tot w ∧ ∀ k, 0 ≤ k → k < i → ib s k = true → vl w (La w B l) (w (291 + k)) = 1))
theorem AnC.z {w : Int → Int} (hW : WF w) (s : Int) {B : Int} (h0 : 0 ≤ B) (h1 : B < blk w) : AnC w s B (msk w) 0 := Box.i fun l hl => by
  rw [lb_msk hW h0 h1 hl, decide_eq_true_iff]
  exact ⟨fun a => ⟨a, fun k k0 k1 => by omega⟩, fun a => a.1⟩
theorem AnC.skip {w : Int → Int} {s B i : Int} {c : Int64} (h : AnC w s B c i) (e : ib s i = false) : AnC w s B c (i + 1) := Box.i fun l hl => by
  rw [h.o l hl]
  refine and_congr_right fun _ => ⟨fun a k k0 k1 hs => ?_, fun a k k0 k1 hs => a k k0 (by omega) hs⟩
  by_cases z : k = i
  · subst z; rw [e] at hs; cases hs
  · exact a k k0 (by omega) hs
theorem AnC.st {w : Int → Int} {s B i : Int} {c : Int64} {T : Int → Int64} (h : AnC w s B c i) (i0 : 0 ≤ i) (i1 : i < w 290) (b0 : 0 ≤ B) (b1 : B < blk w) (hT : RowI w T (blk w) 0) (e : ib s i = true) : AnC w s B (c &&& T (i * 1024 + B)) (i + 1) := Box.i fun l hl => by
  rw [lb_and, Bool.and_eq_true, h.o l hl, hT.o i i0 i1 B b0 (by omega) l hl]
  constructor
  · rintro ⟨⟨a, b⟩, d⟩
    refine ⟨a, fun k k0 k1 hs => ?_⟩
    by_cases z : k = i
    · subst z; exact d
    · exact b k k0 (by omega) hs
  · rintro ⟨a, b⟩
    exact ⟨⟨a, fun k k0 k1 hs => b k k0 (by omega) hs⟩, b i i0 (by omega) e⟩
/-- no assignment of the first i blocks fulfils the chosen ones -/
def NoS (w : Int → Int) (s i : Int) : Prop := Box (∀ N, 0 ≤ N → N < 64 * i → N < tot w → ¬ FulS w s N)
theorem NoS.st {w : Int → Int} {s i : Int} {c : Int64} (h : NoS w s i) (h0 : 0 ≤ i) (hc : AnC w s i c (w 290)) (e : cmpL c 0 = 0) : NoS w s (i + 1) := Box.i fun N n0 n1 n2 hf => by
  by_cases z : N < 64 * i
  · exact h.o N n0 z n2 hf
  · obtain ⟨q1, q2⟩ := lane_of (N := N) (i := i) (by omega) (by omega)
    have := (hc.o _ q2).mpr ⟨by rw [← q1]; exact n2, by
      intro k k0 k1 hs
      show vl w (asg w (lane i (N - 64 * i).toNat)) _ = 1
      rw [← q1]
      exact hf k k0 k1 hs⟩
    rw [cmpL_0.mp e, lb_0] at this
    cases this
theorem NoS.fin {w : Int → Int} {s : Int} (hW : WF w) (s0 : 0 ≤ s) (s1 : s < p2 (w 290)) (h : NoS w s (blk w)) : cfB w s = true := by
  have t := (blk_tot hW).1
  exact (cfB_iff hW s0 s1).mpr fun N n0 n1 => h.o N n0 (by omega) n1
theorem AnC.hit {w : Int → Int} {s i : Int} {c : Int64} (hW : WF w) (s0 : 0 ≤ s) (s1 : s < p2 (w 290)) (h0 : 0 ≤ i) (hc : AnC w s i c (w 290)) (e : cmpL c 0 ≠ 0) : cfB w s = false := by
  cases q : cfB w s with
  | false => rfl
  | true =>
    refine absurd (cmpL_0.mpr (lb_ext fun l hl => ?_)) e
    rw [lb_0]
    cases q2 : lb c l with
    | false => rfl
    | true =>
      obtain ⟨a, b⟩ := (hc.o l hl).mp q2
      exact absurd b ((cfB_iff hW s0 s1).mp q (lane i l) (by unfold lane; omega) a)
theorem ib_t {s k : Int} (hs : Rng s) (k0 : 0 ≤ k) (k1 : k < 32) : (bAnd (sShr s k) 1 = 0 ↔ ib s k = false) ∧ (bAnd (sShr s k) 1 ≠ 0 ↔ ib s k = true) := by
  rw [bAnd1, sShr_eq hs k0 k1]
  unfold ib
  rcases Int.emod_two_eq (s / p2 k) with e | e <;> rw [e] <;> decide
def s_X5_isConflict : CS := (zc 3, ap [(3, 46), (3, 62), (0, 0)] (fun s h Rt X =>
∃ w, GH h w ∧ WF w ∧ St0 (hI h) 5 w ∧ RowI w (hJ h 62) (blk w) 0 ∧ (0 ≤ s ∧ s < p2 (w 290)) ∧ (cfB w s = true → Rt (some (.inl 1)) h) ∧ (cfB w s = false → Rt (some (.inl 0)) h)))
set_option maxRecDepth 100000 in
set_option maxHeartbeats 4000000 in
theorem o_X5_isConflict : Obl true 2 9 (sp [(30, s_X0_blockMask), (29, s_X0_blockCount)]) [] code_X5_isConflict s_X5_isConflict := by
  refine oblL (by rfl) [(11, [0, 1, 2, 3, 5]), (29, [0, 1, 2, 3, 5, 6, 8])] ?_
  intro s r_s h Rt X hh hf hs
  obtain ⟨w, hG, hW, hS, hT, ⟨s0, s1⟩, h3, h4⟩ := hs
  have br := blk_rng hW
  have c0 := hW.cn
  have q0 := hS.cn
  refine ⟨fun m pc vs g => ∃ (i : Int), g = h ∧ 0 ≤ i ∧ i ≤ blk w ∧ NoS w s i ∧ ((pc = 11 ∧ vs = [.inr (.inr (some 46)), .inr (.inr (some 62)), .inl s, .inr (.inl (msk w)), .inl i] ∧ m = 100 * (blk w - i).toNat) ∨
    (pc = 29 ∧ i < blk w ∧ ∃ (c : Int64) (k : Int), vs = [.inr (.inr (some 46)), .inr (.inr (some 62)), .inl s, .inr (.inl (msk w)), .inl i, .inr (.inl c), .inl k] ∧ 0 ≤ k ∧ k ≤ w 290 ∧ AnC w s i c k ∧ m = 100 * (blk w - i).toNat - 50 + (w 290 - k).toNat)), ?_, ?_⟩
  · repeat' (first | apply And.intro | (with_reducible assumption) | (intro h9; first | (exfalso; omega) | (simp only [rI_rI, rJ_rJ, hI_rI, hJ_rI, hI_rJ, hJ_rJ, hI_rR, hR_rI, hR_rJ, hN_rI, hN_rJ, svH_63, svH_66, rfH_63, wvH_63, wvH_62, wvH_67, wvH_68, wvH_69, sc_63, sc_n62, sc_n67, sc_n68, sc_n69, sc_n70, reduceIte, Nat.reduceEqDiff, eq_self, up_up, up_self, up_ne, ne_eq, not_false_eq_true, Int.reduceEq, Int.reduceNeg] at h9; first | (exfalso; omega) | skip) | skip) | refine Exists.intro w ?_ | exact hG | exact hW | exact Exists.intro _ ⟨0, rfl, by omega, by omega, Box.i (fun N a b => by omega), Or.inl ⟨rfl, rfl, rfl⟩⟩ | exact h3 | exact h3 (by omega) | exact h4 | exact h4 (by omega) | omega | exact True.intro | (simp only [rI_rI, rJ_rJ, hI_rI, hJ_rI, hI_rJ, hJ_rJ, hI_rR, hR_rI, hR_rJ, hN_rI, hN_rJ, svH_63, svH_66, rfH_63, wvH_63, wvH_62, wvH_67, wvH_68, wvH_69, sc_63, sc_n62, sc_n67, sc_n68, sc_n69, sc_n70, reduceIte, Nat.reduceEqDiff, eq_self, up_up, up_self, up_ne, ne_eq, not_false_eq_true, Int.reduceEq, Int.reduceNeg]; omega))
  · rintro m pc live vs g hl ⟨i, rfl, i1, i2, i3, (⟨rfl, rfl, rfl⟩ | ⟨rfl, y, c, k, rfl, k0, k1, k2, rfl⟩)⟩ hv hh1 hf1
    · obtain ⟨_, rfl⟩ | ⟨e, _⟩ := look2 hl
      · by_cases y : i < blk w
        · repeat' (first | apply And.intro | (with_reducible assumption) | (intro h9; first | (exfalso; omega) | (simp only [rI_rI, rJ_rJ, hI_rI, hJ_rI, hI_rJ, hJ_rJ, hI_rR, hR_rI, hR_rJ, hN_rI, hN_rJ, svH_63, svH_66, rfH_63, wvH_63, wvH_62, wvH_67, wvH_68, wvH_69, sc_63, sc_n62, sc_n67, sc_n68, sc_n69, sc_n70, reduceIte, Nat.reduceEqDiff, eq_self, up_up, up_self, up_ne, ne_eq, not_false_eq_true, Int.reduceEq, Int.reduceNeg] at h9; first | (exfalso; omega) | skip) | skip) | refine Exists.intro w ?_ | exact hG | exact hW | exact Exists.intro _ ⟨by omega, i, rfl, by omega, by omega, i3, Or.inr ⟨rfl, y, _, 0, rfl, by omega, by omega, AnC.z hW s i1 y, rfl⟩⟩ | exact h3 | exact h3 (by omega) | exact h4 | exact h4 (by omega) | omega | exact True.intro | (simp only [rI_rI, rJ_rJ, hI_rI, hJ_rI, hI_rJ, hJ_rJ, hI_rR, hR_rI, hR_rJ, hN_rI, hN_rJ, svH_63, svH_66, rfH_63, wvH_63, wvH_62, wvH_67, wvH_68, wvH_69, sc_63, sc_n62, sc_n67, sc_n68, sc_n69, sc_n70, reduceIte, Nat.reduceEqDiff, eq_self, up_up, up_self, up_ne, ne_eq, not_false_eq_true, Int.reduceEq, Int.reduceNeg]; omega))
        · obtain rfl : i = blk w := by omega
          have k3 := h3 (i3.fin hW s0 s1)
          repeat' (first | apply And.intro | (with_reducible assumption) | (intro h9; first | (exfalso; omega) | (simp only [rI_rI, rJ_rJ, hI_rI, hJ_rI, hI_rJ, hJ_rJ, hI_rR, hR_rI, hR_rJ, hN_rI, hN_rJ, svH_63, svH_66, rfH_63, wvH_63, wvH_62, wvH_67, wvH_68, wvH_69, sc_63, sc_n62, sc_n67, sc_n68, sc_n69, sc_n70, reduceIte, Nat.reduceEqDiff, eq_self, up_up, up_self, up_ne, ne_eq, not_false_eq_true, Int.reduceEq, Int.reduceNeg] at h9; first | (exfalso; omega) | skip) | skip) | refine Exists.intro w ?_ | exact hG | exact hW | exact k3 | exact h3 | exact h3 (by omega) | exact h4 | exact h4 (by omega) | omega | exact True.intro | (simp only [rI_rI, rJ_rJ, hI_rI, hJ_rI, hI_rJ, hJ_rJ, hI_rR, hR_rI, hR_rJ, hN_rI, hN_rJ, svH_63, svH_66, rfH_63, wvH_63, wvH_62, wvH_67, wvH_68, wvH_69, sc_63, sc_n62, sc_n67, sc_n68, sc_n69, sc_n70, reduceIte, Nat.reduceEqDiff, eq_self, up_up, up_self, up_ne, ne_eq, not_false_eq_true, Int.reduceEq, Int.reduceNeg]; omega))
      · omega
    · obtain ⟨e, _⟩ | ⟨_, rfl⟩ := look2 hl
      · omega
      · by_cases z : k < w 290
        · have t := ib_t r_s k0 (by omega)
          repeat' (first | apply And.intro | (with_reducible assumption) | (intro h9; first | (exfalso; omega) | (simp only [rI_rI, rJ_rJ, hI_rI, hJ_rI, hI_rJ, hJ_rJ, hI_rR, hR_rI, hR_rJ, hN_rI, hN_rJ, svH_63, svH_66, rfH_63, wvH_63, wvH_62, wvH_67, wvH_68, wvH_69, sc_63, sc_n62, sc_n67, sc_n68, sc_n69, sc_n70, reduceIte, Nat.reduceEqDiff, eq_self, up_up, up_self, up_ne, ne_eq, not_false_eq_true, Int.reduceEq, Int.reduceNeg] at h9; first | (exfalso; omega) | skip) | skip) | refine Exists.intro w ?_ | exact hG | exact hW | exact Exists.intro _ ⟨by omega, i, rfl, by omega, by omega, i3, Or.inr ⟨rfl, y, _, k + 1, rfl, by omega, by omega, k2.skip (t.1.mp (by assumption)), rfl⟩⟩ | exact Exists.intro _ ⟨by omega, i, rfl, by omega, by omega, i3, Or.inr ⟨rfl, y, _, k + 1, rfl, by omega, by omega, k2.st k0 z i1 y hT (t.2.mp (by assumption)), rfl⟩⟩ | exact h3 | exact h3 (by omega) | exact h4 | exact h4 (by omega) | omega | exact True.intro | (simp only [rI_rI, rJ_rJ, hI_rI, hJ_rI, hI_rJ, hJ_rJ, hI_rR, hR_rI, hR_rJ, hN_rI, hN_rJ, svH_63, svH_66, rfH_63, wvH_63, wvH_62, wvH_67, wvH_68, wvH_69, sc_63, sc_n62, sc_n67, sc_n68, sc_n69, sc_n70, reduceIte, Nat.reduceEqDiff, eq_self, up_up, up_self, up_ne, ne_eq, not_false_eq_true, Int.reduceEq, Int.reduceNeg]; omega))
        · obtain rfl : k = w 290 := by omega
          repeat' (first | apply And.intro | (with_reducible assumption) | (intro h9; first | (exfalso; omega) | (simp only [rI_rI, rJ_rJ, hI_rI, hJ_rI, hI_rJ, hJ_rJ, hI_rR, hR_rI, hR_rJ, hN_rI, hN_rJ, svH_63, svH_66, rfH_63, wvH_63, wvH_62, wvH_67, wvH_68, wvH_69, sc_63, sc_n62, sc_n67, sc_n68, sc_n69, sc_n70, reduceIte, Nat.reduceEqDiff, eq_self, up_up, up_self, up_ne, ne_eq, not_false_eq_true, Int.reduceEq, Int.reduceNeg] at h9; first | (exfalso; omega) | skip) | skip) | refine Exists.intro w ?_ | exact hG | exact hW | exact h4 (k2.hit hW s0 s1 i1 (by assumption)) | exact Exists.intro _ ⟨by omega, i + 1, rfl, by omega, by omega, i3.st i1 k2 (by assumption), Or.inl ⟨rfl, rfl, rfl⟩⟩ | exact h3 | exact h3 (by omega) | exact h4 | exact h4 (by omega) | omega | exact True.intro | (simp only [rI_rI, rJ_rJ, hI_rI, hJ_rI, hI_rJ, hJ_rJ, hI_rR, hR_rI, hR_rJ, hN_rI, hN_rJ, svH_63, svH_66, rfH_63, wvH_63, wvH_62, wvH_67, wvH_68, wvH_69, sc_63, sc_n62, sc_n67, sc_n68, sc_n69, sc_n70, reduceIte, Nat.reduceEqDiff, eq_self, up_up, up_self, up_ne, ne_eq, not_false_eq_true, Int.reduceEq, Int.reduceNeg]; omega))
theorem m_X5_isConflict : MM 117 s_X5_isConflict := mm_of (own := 4) (by rfl) k_X5_isConflict (cl := [(30, s_X0_blockMask), (29, s_X0_blockCount)]) ⟨m_X0_blockMask, m_X0_blockCount, trivial⟩ o_X5_isConflict

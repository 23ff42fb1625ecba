/-! ===== the reference: conflicts, the best model ===== -/
/-- no assignment fulfils all of a set -/
def cfB (w : Int → Int) (s : Int) : Bool := decide (fst (fun N => decide (bAnd (fulW w N (w 290).toNat) s = s)) (tot w).toNat = -1)
/-- what is fulfilled is right -/
def FV (w F c : Int → Int) : Prop := Box (F 11 = tot w ∧ ∀ N, 0 ≤ N → N < tot w → c N = fulW w N (w 290).toNat)
theorem FR.fv {w F c F0 : Int → Int} (h : FR w F c) (z : Fz F0 F) : FV w F c := Box.i (h.o z.o.1)
def coreS (w : Int → Int) (s k : Int) : Int := bAnd s (bXor (sShl 1 k) (-1))
/-- the core of the first k constraints -/
def coreF (w : Int → Int) : Nat → Int
  | 0 => p2 (w 290) - 1
  | k + 1 => if cfB w (coreS w (coreF w k) (k : Int)) then coreS w (coreF w k) (k : Int) else coreF w k
theorem coreF_s (w : Int → Int) {k : Int} (h : 0 ≤ k) : coreF w (k + 1).toNat = if cfB w (coreS w (coreF w k.toNat) k) then coreS w (coreF w k.toNat) k else coreF w k.toNat := by
  rw [show (k + 1).toNat = k.toNat + 1 by omega]
  show (if cfB w (coreS w (coreF w k.toNat) (k.toNat : Int)) then _ else _) = _
  rw [show ((k.toNat : Nat) : Int) = k by omega]
/-- the gain of an assignment by the first k wishes -/
def gnW (w : Int → Int) (N : Int) : Nat → Int
  | 0 => 0
  | k + 1 => gnW w N k + vl w (asg w N) (w (333 + (k : Int))) * w (341 + (k : Int))
theorem gnW_s (w : Int → Int) (N : Int) {k : Int} (h : 0 ≤ k) : gnW w N (k + 1).toNat = gnW w N k.toNat + vl w (asg w N) (w (333 + k)) * w (341 + k) := by
  rw [show (k + 1).toNat = k.toNat + 1 by omega]
  show gnW w N k.toNat + vl w (asg w N) (w (333 + (k.toNat : Int))) * w (341 + (k.toNat : Int)) = _
  rw [show ((k.toNat : Nat) : Int) = k by omega]
def gnA (w : Int → Int) (N : Int) : Int := gnW w N (w 332).toNat
theorem wish01 {w : Int → Int} (h : WF w) (N : Int) {k : Int} (h0 : 0 ≤ k) (h1 : k < w 332) : vl w (asg w N) (w (333 + k)) = 0 ∨ vl w (asg w N) (w (333 + k)) = 1 := by
  have q := h.wish h0 h1
  have := h.vr (asg_ev w N) q.1 q.2.1
  rw [q.2.2.1, p2_1] at this
  omega
theorem gnW_rng {w : Int → Int} (h : WF w) (N : Int) : ∀ k : Nat, (k : Int) ≤ w 332 → 0 ≤ gnW w N k ∧ gnW w N k ≤ 9 * k := by
  intro k
  induction k with
  | zero => intro _; exact ⟨Int.le_refl _, Int.le_refl _⟩
  | succ k ih =>
    intro hk
    have a := ih (by omega)
    have b := wish01 h N (k := k) (by omega) (by omega)
    have c := h.wish (k := k) (by omega) (by omega)
    have e : gnW w N (k + 1) = gnW w N k + vl w (asg w N) (w (333 + (k : Int))) * w (341 + (k : Int)) := rfl
    rcases b with b | b
    · rw [b, Int.zero_mul] at e; omega
    · rw [b, Int.one_mul] at e; omega
def gnR (w : Int → Int) (r : Int) : Int := if r = -1 then -1 else gnA w r
theorem gn_new {w : Int → Int} {N r : Int} (hb : isB (mdl w) (gnA w) N r) (h0 : 0 ≤ N) (hp : mdl w N = true) (c : gnR w r < gnA w N) : isB (mdl w) (gnA w) (N + 1) N := by
  refine isB_new hb h0 hp ?_
  by_cases e : r = -1
  · exact Or.inl e
  · unfold gnR at c
    rw [if_neg e] at c
    exact Or.inr c
theorem gn_keep {w : Int → Int} (hw : WF w) {N r : Int} (hb : isB (mdl w) (gnA w) N r) (h0 : 0 ≤ N) (c : gnA w N ≤ gnR w r) : isB (mdl w) (gnA w) (N + 1) r := by
  have := (gnW_rng hw N (w 332).toNat (by have := hw.wn; omega)).1
  have e0 : gnA w N = gnW w N (w 332).toNat := rfl
  by_cases e : r = -1
  · unfold gnR at c
    rw [if_pos e] at c
    omega
  · unfold gnR at c
    rw [if_neg e] at c
    exact isB_keep hb h0 e c
theorem sc_mo (h : Hp) (F a b c a' b' X F' a2 b2 c' : Int → Int) : sc (rI (wvH (sc h F a b c) a' b') 62 X) F' a2 b2 c' = sc h F' a2 b2 c' := by rw [sc_wv, sc_62, sc_sc]
/-- the fields with the gain most -/
def Fm (F0 : Int → Int) (x : Int) (F : Int → Int) : Prop := Box (F 10 = 0 ∧ F 13 = x ∧ ∀ j, j ≠ 10 → j ≠ 11 → j ≠ 13 → F j = F0 j)
theorem Fm.st {F0 F G : Int → Int} {x y : Int} (h : Fm F0 x F) (hg : Fz (up F 13 y) G) : Fm F0 y G := by
  obtain ⟨a, b⟩ := hg.o
  obtain ⟨c, d, e⟩ := h.o
  refine Box.i ⟨a, by rw [b 13 (by decide) (by decide), up_self], fun j h1 h2 h3 => ?_⟩
  rw [b j h1 h2, up_ne h3, e j h1 h2 h3]
theorem Fm.i {F0 G : Int → Int} {y : Int} (hg : Fz (up F0 13 y) G) : Fm F0 y G := by
  obtain ⟨a, b⟩ := hg.o
  refine Box.i ⟨a, by rw [b 13 (by decide) (by decide), up_self], fun j h1 h2 h3 => ?_⟩
  rw [b j h1 h2, up_ne h3]
theorem sc_u13 (h : Hp) (F a b c : Int → Int) (x : Int) : rI (sc h F a b c) 62 (up F 13 x) = sc h (up F 13 x) a b c := sc_62 _ _ _ _ _ _
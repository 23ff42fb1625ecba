/-! ===== the class: the text, how it is read: the reader's rows and their steps ===== -/
abbrev Rw : Type := Nat → Int → Int
def ur (r : Rw) (a : Nat) (f : Int → Int) : Rw := fun b => if b = a then f else r b
/-- all int rows anew -/
def wI (h : Hp) (r : Rw) : Hp := (h.1, r, h.2.2)
theorem wI_id (h : Hp) : wI h (hI h) = h := rfl
theorem hI_wI (h : Hp) (r : Rw) : hI (wI h r) = r := rfl
theorem wI_wI (h : Hp) (r s : Rw) : wI (wI h r) s = wI h s := rfl
theorem rI_wI (h : Hp) (r : Rw) (a : Nat) (f : Int → Int) : rI (wI h r) a f = wI h (ur r a f) := rfl
theorem rI_w (h : Hp) (a : Nat) (f : Int → Int) : rI h a f = wI h (ur (hI h) a f) := rfl
theorem ur_self (r : Rw) (a : Nat) (f : Int → Int) : ur r a f a = f := if_pos rfl
theorem ur_ne {r : Rw} {a b : Nat} {f : Int → Int} (h : b ≠ a) : ur r a f b = r b := if_neg h
theorem ur_ur (r : Rw) (a : Nat) (f g : Int → Int) : ur (ur r a f) a g = ur r a g := by
  funext b
  unfold ur
  by_cases e : b = a <;> simp [e]
/-- a character of the text -/
def tA (r : Rw) (k : Int) : Int := if 0 ≤ k ∧ k < r 49 1 then r 50 k else -1
abbrev isD (c : Int) : Prop := 48 ≤ c ∧ c ≤ 57
abbrev pP (r : Rw) : Int := r 51 1
abbrev pE (r : Rw) : Int := r 51 2
abbrev pS (r : Rw) : Int := r 51 6
abbrev pO (r : Rw) : Int := r 51 11
def sF (r : Rw) (k x : Int) : Rw := ur r 51 (up (r 51) k x)
def avS (r : Rw) : Rw := sF r 1 (pP r + 1)
def bdS (r : Rw) : Rw := sF r 2 (pP r)
abbrev whS (r : Rw) : Prop := pO r = 0 ∧ 0 < pS r
abbrev wtS (r : Rw) : Prop := pO r = 0 ∨ 0 < r 56 (pO r - 1)
def dgV (r : Rw) : Int := if isD (tA r (pP r)) then tA r (pP r) - 48 else 0
def dgS (r : Rw) : Rw := if isD (tA r (pP r)) then (if isD (tA r (pP r + 1)) then bdS (avS r) else avS r) else bdS r
def adS (r : Rw) (k n x : Int) : Rw :=
  if 0 < pO r then ur (sF (ur (ur (ur r 52 (up (r 52) (pS r) k)) 53 (up (r 53) (pS r) n)) 54 (up (r 54) (pS r) x)) 6 (pS r + 1)) 56 (up (r 56) (pO r - 1) (r 56 (pO r - 1) - 1))
  else sF (ur (ur (ur r 52 (up (r 52) (pS r) k)) 53 (up (r 53) (pS r) n)) 54 (up (r 54) (pS r) x)) 6 (pS r + 1)
/-- from a place on while it holds -/
def rnW (P : Int → Bool) : Nat → Int → Int
  | 0, p => p
  | n + 1, p => if P p = true then rnW P n (p + 1) else p
/-- the first place that does not fit, from p on, at most L -/
def whl (P : Int → Bool) (L p : Int) : Int := rnW P (L - p).toNat p
theorem whl_t {P : Int → Bool} {L p : Int} (h : p < L) (e : P p = true) : whl P L p = whl P L (p + 1) := by
  unfold whl
  rw [show (L - p).toNat = (L - (p + 1)).toNat + 1 by omega]
  show (if P p = true then _ else _) = _
  rw [if_pos e]
theorem whl_f {P : Int → Bool} {L p : Int} (e : ¬ p < L ∨ P p = false) : whl P L p = p := by
  unfold whl
  by_cases h : p < L
  · rw [show (L - p).toNat = (L - (p + 1)).toNat + 1 by omega]
    show (if P p = true then _ else _) = _
    rcases e with e | e
    · exact absurd h e
    · rw [if_neg (by rw [e]; decide)]
  · rw [show (L - p).toNat = 0 by omega]; rfl
theorem whl_rng (P : Int → Bool) (L p : Int) : p ≤ whl P L p ∧ (p ≤ L → whl P L p ≤ L) := by
  unfold whl
  generalize e : (L - p).toNat = n
  induction n generalizing p with
  | zero => exact ⟨Int.le_refl _, fun h => h⟩
  | succ n ih =>
    show p ≤ (if P p = true then rnW P n (p + 1) else p) ∧ (p ≤ L → (if P p = true then rnW P n (p + 1) else p) ≤ L)
    split
    · have := ih (p + 1) (by omega)
      omega
    · omega
/-- spaces are passed -/
def skS (r : Rw) : Rw := sF r 1 (whl (fun k => decide (tA r k = 32)) (r 49 1) (pP r))
abbrev isL (r : Rw) (k : Int) : Prop := 97 ≤ tA r k ∧ tA r k ≤ 122 ∧ (tA r k = 118 → ¬ isD (tA r (k + 1)))
/-- digits of a constant, three at most: the place behind them, the number -/
def cnS (r : Rw) : Nat → Int → Int → Int × Int
  | 0, p, n => (p, n)
  | j + 1, p, n => if isD (tA r p) then cnS r j (p + 1) (10 * n + tA r p - 48) else (p, n)
theorem tA_c {a b : Rw} (e1 : a 49 = b 49) (e2 : a 50 = b 50) : tA a = tA b := by
  funext k
  unfold tA
  rw [e1, e2]
theorem tA_sF (r : Rw) (k x : Int) : tA (sF r k x) = tA r := rfl
theorem tA_rng {r : Rw} {k : Int} (h : isD (tA r k)) : 0 ≤ k ∧ k < r 49 1 := by
  unfold tA at h
  split at h
  · assumption
  · omega
def s_X7_length : CS := (zc 1, ap [(3, 49)] (fun  h Rt X =>
Rt (some (.inl (hI h 49 1))) h))
set_option maxRecDepth 100000 in
set_option maxHeartbeats 4000000 in
theorem o_X7_length : Obl true 1 1 (sp []) [] code_X7_length s_X7_length := by
  refine obl0 (by rfl) ?_
  intro  h Rt X hh hf hs
  repeat' (first | apply And.intro | (with_reducible assumption) | (intro h9; first | (exfalso; omega) | (simp only [rI_rI, rJ_rJ, hI_rI, hJ_rI, hI_rJ, hJ_rJ, hI_rR, hR_rI, hR_rJ, hN_rI, hN_rJ, svH_63, svH_66, rfH_63, wvH_63, wvH_62, wvH_67, wvH_68, wvH_69, sc_63, sc_n62, sc_n67, sc_n68, sc_n69, sc_n70, reduceIte, Nat.reduceEqDiff, eq_self, up_up, up_self, up_ne, ne_eq, not_false_eq_true, Int.reduceEq, Int.reduceNeg] at h9; first | (exfalso; omega) | skip) | skip) | exact hs | omega | exact True.intro | (simp only [rI_rI, rJ_rJ, hI_rI, hJ_rI, hI_rJ, hJ_rJ, hI_rR, hR_rI, hR_rJ, hN_rI, hN_rJ, svH_63, svH_66, rfH_63, wvH_63, wvH_62, wvH_67, wvH_68, wvH_69, sc_63, sc_n62, sc_n67, sc_n68, sc_n69, sc_n70, reduceIte, Nat.reduceEqDiff, eq_self, up_up, up_self, up_ne, ne_eq, not_false_eq_true, Int.reduceEq, Int.reduceNeg]; omega))
theorem m_X7_length : MM 124 s_X7_length := mm_of (own := 6) (by rfl) k_X7_length (cl := []) trivial o_X7_length
def s_X7_at : CS := (zc 1, ap [(3, 49), (0, 0)] (fun k h Rt X =>
(0 ≤ hI h 49 1 ∧ hI h 49 1 ≤ 120) ∧ Rt (some (.inl (tA (hI h) k))) h))
set_option maxRecDepth 100000 in
set_option maxHeartbeats 4000000 in
theorem o_X7_at : Obl true 1 2 (sp []) [] code_X7_at s_X7_at := by
  refine obl0 (by rfl) ?_
  intro k r_k h Rt X hh hf hs
  obtain ⟨h1, h2⟩ := hs
  unfold tA at h2
  by_cases z : 0 ≤ k ∧ k < hI h 49 1
  · rw [if_pos z] at h2
    repeat' (first | apply And.intro | (with_reducible assumption) | (intro h9; first | (exfalso; omega) | (simp only [rI_rI, rJ_rJ, hI_rI, hJ_rI, hI_rJ, hJ_rJ, hI_rR, hR_rI, hR_rJ, hN_rI, hN_rJ, svH_63, svH_66, rfH_63, wvH_63, wvH_62, wvH_67, wvH_68, wvH_69, sc_63, sc_n62, sc_n67, sc_n68, sc_n69, sc_n70, reduceIte, Nat.reduceEqDiff, eq_self, up_up, up_self, up_ne, ne_eq, not_false_eq_true, Int.reduceEq, Int.reduceNeg] at h9; first | (exfalso; omega) | skip) | skip) | exact h1 | exact h1 (by omega) | exact h2 | exact h2 (by omega) | omega | exact True.intro | (simp only [rI_rI, rJ_rJ, hI_rI, hJ_rI, hI_rJ, hJ_rJ, hI_rR, hR_rI, hR_rJ, hN_rI, hN_rJ, svH_63, svH_66, rfH_63, wvH_63, wvH_62, wvH_67, wvH_68, wvH_69, sc_63, sc_n62, sc_n67, sc_n68, sc_n69, sc_n70, reduceIte, Nat.reduceEqDiff, eq_self, up_up, up_self, up_ne, ne_eq, not_false_eq_true, Int.reduceEq, Int.reduceNeg]; omega))
  · rw [if_neg z] at h2
    repeat' (first | apply And.intro | (with_reducible assumption) | (intro h9; first | (exfalso; omega) | (simp only [rI_rI, rJ_rJ, hI_rI, hJ_rI, hI_rJ, hJ_rJ, hI_rR, hR_rI, hR_rJ, hN_rI, hN_rJ, svH_63, svH_66, rfH_63, wvH_63, wvH_62, wvH_67, wvH_68, wvH_69, sc_63, sc_n62, sc_n67, sc_n68, sc_n69, sc_n70, reduceIte, Nat.reduceEqDiff, eq_self, up_up, up_self, up_ne, ne_eq, not_false_eq_true, Int.reduceEq, Int.reduceNeg] at h9; first | (exfalso; omega) | skip) | skip) | exact h1 | exact h1 (by omega) | exact h2 | exact h2 (by omega) | omega | exact True.intro | (simp only [rI_rI, rJ_rJ, hI_rI, hJ_rI, hI_rJ, hJ_rJ, hI_rR, hR_rI, hR_rJ, hN_rI, hN_rJ, svH_63, svH_66, rfH_63, wvH_63, wvH_62, wvH_67, wvH_68, wvH_69, sc_63, sc_n62, sc_n67, sc_n68, sc_n69, sc_n70, reduceIte, Nat.reduceEqDiff, eq_self, up_up, up_self, up_ne, ne_eq, not_false_eq_true, Int.reduceEq, Int.reduceNeg]; omega))
theorem m_X7_at : MM 125 s_X7_at := mm_of (own := 6) (by rfl) k_X7_at (cl := []) trivial o_X7_at
/-- the text with one more character -/
def tAd (r : Rw) (c : Int) : Rw := if r 49 1 < 120 then ur (ur r 50 (up (r 50) (r 49 1) c)) 49 (up (r 49) 1 (r 49 1 + 1)) else r
def s_X7_add : CS := (zc 1, ap [(3, 49), (0, 0)] (fun c h Rt X =>
(0 ≤ hI h 49 1 ∧ hI h 49 1 ≤ 120) ∧ Rt none (wI h (tAd (hI h) c))))
set_option maxRecDepth 100000 in
set_option maxHeartbeats 4000000 in
theorem o_X7_add : Obl true 0 2 (sp []) [] code_X7_add s_X7_add := by
  refine obl0 (by rfl) ?_
  intro c r_c h Rt X hh hf hs
  obtain ⟨h1, h2⟩ := hs
  unfold tAd at h2
  by_cases z : hI h 49 1 < 120
  · rw [if_pos z] at h2
    repeat' (first | apply And.intro | (with_reducible assumption) | (intro h9; first | (exfalso; omega) | (simp only [rI_rI, rJ_rJ, hI_rI, hJ_rI, hI_rJ, hJ_rJ, hI_rR, hR_rI, hR_rJ, hN_rI, hN_rJ, svH_63, svH_66, rfH_63, wvH_63, wvH_62, wvH_67, wvH_68, wvH_69, sc_63, sc_n62, sc_n67, sc_n68, sc_n69, sc_n70, reduceIte, Nat.reduceEqDiff, eq_self, up_up, up_self, up_ne, ne_eq, not_false_eq_true, Int.reduceEq, Int.reduceNeg] at h9; first | (exfalso; omega) | skip) | skip) | exact h1 | exact h1 (by omega) | exact h2 | exact h2 (by omega) | omega | exact True.intro | (simp only [rI_rI, rJ_rJ, hI_rI, hJ_rI, hI_rJ, hJ_rJ, hI_rR, hR_rI, hR_rJ, hN_rI, hN_rJ, svH_63, svH_66, rfH_63, wvH_63, wvH_62, wvH_67, wvH_68, wvH_69, sc_63, sc_n62, sc_n67, sc_n68, sc_n69, sc_n70, reduceIte, Nat.reduceEqDiff, eq_self, up_up, up_self, up_ne, ne_eq, not_false_eq_true, Int.reduceEq, Int.reduceNeg]; omega))
  · rw [if_neg z] at h2
    repeat' (first | apply And.intro | (with_reducible assumption) | (intro h9; first | (exfalso; omega) | (simp only [rI_rI, rJ_rJ, hI_rI, hJ_rI, hI_rJ, hJ_rJ, hI_rR, hR_rI, hR_rJ, hN_rI, hN_rJ, svH_63, svH_66, rfH_63, wvH_63, wvH_62, wvH_67, wvH_68, wvH_69, sc_63, sc_n62, sc_n67, sc_n68, sc_n69, sc_n70, reduceIte, Nat.reduceEqDiff, eq_self, up_up, up_self, up_ne, ne_eq, not_false_eq_true, Int.reduceEq, Int.reduceNeg] at h9; first | (exfalso; omega) | skip) | skip) | exact h1 | exact h1 (by omega) | exact h2 | exact h2 (by omega) | omega | exact True.intro | (simp only [rI_rI, rJ_rJ, hI_rI, hJ_rI, hI_rJ, hJ_rJ, hI_rR, hR_rI, hR_rJ, hN_rI, hN_rJ, svH_63, svH_66, rfH_63, wvH_63, wvH_62, wvH_67, wvH_68, wvH_69, sc_63, sc_n62, sc_n67, sc_n68, sc_n69, sc_n70, reduceIte, Nat.reduceEqDiff, eq_self, up_up, up_self, up_ne, ne_eq, not_false_eq_true, Int.reduceEq, Int.reduceNeg]; omega))
theorem m_X7_add : MM 126 s_X7_add := mm_of (own := 6) (by rfl) k_X7_add (cl := []) trivial o_X7_add
def s_X7_empty : CS := (zc 1, ap [(3, 49)] (fun  h Rt X =>
Rt none (rI h 49 (up (hI h 49) 1 0))))
set_option maxRecDepth 100000 in
set_option maxHeartbeats 4000000 in
theorem o_X7_empty : Obl true 0 1 (sp []) [] code_X7_empty s_X7_empty := by
  refine obl0 (by rfl) ?_
  intro  h Rt X hh hf hs
  repeat' (first | apply And.intro | (with_reducible assumption) | (intro h9; first | (exfalso; omega) | (simp only [rI_rI, rJ_rJ, hI_rI, hJ_rI, hI_rJ, hJ_rJ, hI_rR, hR_rI, hR_rJ, hN_rI, hN_rJ, svH_63, svH_66, rfH_63, wvH_63, wvH_62, wvH_67, wvH_68, wvH_69, sc_63, sc_n62, sc_n67, sc_n68, sc_n69, sc_n70, reduceIte, Nat.reduceEqDiff, eq_self, up_up, up_self, up_ne, ne_eq, not_false_eq_true, Int.reduceEq, Int.reduceNeg] at h9; first | (exfalso; omega) | skip) | skip) | exact hs | omega | exact True.intro | (simp only [rI_rI, rJ_rJ, hI_rI, hJ_rI, hI_rJ, hJ_rJ, hI_rR, hR_rI, hR_rJ, hN_rI, hN_rJ, svH_63, svH_66, rfH_63, wvH_63, wvH_62, wvH_67, wvH_68, wvH_69, sc_63, sc_n62, sc_n67, sc_n68, sc_n69, sc_n70, reduceIte, Nat.reduceEqDiff, eq_self, up_up, up_self, up_ne, ne_eq, not_false_eq_true, Int.reduceEq, Int.reduceNeg]; omega))
theorem m_X7_empty : MM 127 s_X7_empty := mm_of (own := 6) (by rfl) k_X7_empty (cl := []) trivial o_X7_empty
def s_X4_isDigit : CS := (zc 1, ap [(0, 0)] (fun c h Rt X =>
(isD c → Rt (some (.inl 1)) h) ∧ (¬ isD c → Rt (some (.inl 0)) h)))
set_option maxRecDepth 100000 in
set_option maxHeartbeats 4000000 in
theorem o_X4_isDigit : Obl true 2 1 (sp []) [] code_X4_isDigit s_X4_isDigit := by
  refine obl0 (by rfl) ?_
  intro c r_c h Rt X hh hf hs
  obtain ⟨h1, h2⟩ := hs
  by_cases z : isD c
  · have k := h1 z
    obtain ⟨z1, z2⟩ := z
    repeat' (first | apply And.intro | (with_reducible assumption) | (intro h9; first | (exfalso; omega) | (simp only [rI_rI, rJ_rJ, hI_rI, hJ_rI, hI_rJ, hJ_rJ, hI_rR, hR_rI, hR_rJ, hN_rI, hN_rJ, svH_63, svH_66, rfH_63, wvH_63, wvH_62, wvH_67, wvH_68, wvH_69, sc_63, sc_n62, sc_n67, sc_n68, sc_n69, sc_n70, reduceIte, Nat.reduceEqDiff, eq_self, up_up, up_self, up_ne, ne_eq, not_false_eq_true, Int.reduceEq, Int.reduceNeg] at h9; first | (exfalso; omega) | skip) | skip) | exact h1 | exact h1 (by omega) | exact h2 | exact h2 (by omega) | omega | exact True.intro | (simp only [rI_rI, rJ_rJ, hI_rI, hJ_rI, hI_rJ, hJ_rJ, hI_rR, hR_rI, hR_rJ, hN_rI, hN_rJ, svH_63, svH_66, rfH_63, wvH_63, wvH_62, wvH_67, wvH_68, wvH_69, sc_63, sc_n62, sc_n67, sc_n68, sc_n69, sc_n70, reduceIte, Nat.reduceEqDiff, eq_self, up_up, up_self, up_ne, ne_eq, not_false_eq_true, Int.reduceEq, Int.reduceNeg]; omega))
  · have k := h2 z
    by_cases z1 : 48 ≤ c
    · have z2 : ¬ c ≤ 57 := fun q => z ⟨z1, q⟩
      repeat' (first | apply And.intro | (with_reducible assumption) | (intro h9; first | (exfalso; omega) | (simp only [rI_rI, rJ_rJ, hI_rI, hJ_rI, hI_rJ, hJ_rJ, hI_rR, hR_rI, hR_rJ, hN_rI, hN_rJ, svH_63, svH_66, rfH_63, wvH_63, wvH_62, wvH_67, wvH_68, wvH_69, sc_63, sc_n62, sc_n67, sc_n68, sc_n69, sc_n70, reduceIte, Nat.reduceEqDiff, eq_self, up_up, up_self, up_ne, ne_eq, not_false_eq_true, Int.reduceEq, Int.reduceNeg] at h9; first | (exfalso; omega) | skip) | skip) | exact h1 | exact h1 (by omega) | exact h2 | exact h2 (by omega) | omega | exact True.intro | (simp only [rI_rI, rJ_rJ, hI_rI, hJ_rI, hI_rJ, hJ_rJ, hI_rR, hR_rI, hR_rJ, hN_rI, hN_rJ, svH_63, svH_66, rfH_63, wvH_63, wvH_62, wvH_67, wvH_68, wvH_69, sc_63, sc_n62, sc_n67, sc_n68, sc_n69, sc_n70, reduceIte, Nat.reduceEqDiff, eq_self, up_up, up_self, up_ne, ne_eq, not_false_eq_true, Int.reduceEq, Int.reduceNeg]; omega))
    · repeat' (first | apply And.intro | (with_reducible assumption) | (intro h9; first | (exfalso; omega) | (simp only [rI_rI, rJ_rJ, hI_rI, hJ_rI, hI_rJ, hJ_rJ, hI_rR, hR_rI, hR_rJ, hN_rI, hN_rJ, svH_63, svH_66, rfH_63, wvH_63, wvH_62, wvH_67, wvH_68, wvH_69, sc_63, sc_n62, sc_n67, sc_n68, sc_n69, sc_n70, reduceIte, Nat.reduceEqDiff, eq_self, up_up, up_self, up_ne, ne_eq, not_false_eq_true, Int.reduceEq, Int.reduceNeg] at h9; first | (exfalso; omega) | skip) | skip) | exact h1 | exact h1 (by omega) | exact h2 | exact h2 (by omega) | omega | exact True.intro | (simp only [rI_rI, rJ_rJ, hI_rI, hJ_rI, hI_rJ, hJ_rJ, hI_rR, hR_rI, hR_rJ, hN_rI, hN_rJ, svH_63, svH_66, rfH_63, wvH_63, wvH_62, wvH_67, wvH_68, wvH_69, sc_63, sc_n62, sc_n67, sc_n68, sc_n69, sc_n70, reduceIte, Nat.reduceEqDiff, eq_self, up_up, up_self, up_ne, ne_eq, not_false_eq_true, Int.reduceEq, Int.reduceNeg]; omega))
theorem m_X4_isDigit : MM 91 s_X4_isDigit := mm_of (own := 3) (by rfl) k_X4_isDigit (cl := []) trivial o_X4_isDigit
abbrev TL (h : Hp) : Prop := 0 ≤ hI h 49 1 ∧ hI h 49 1 ≤ 120
def s_X4_isWhole : CS := (zc 1, ap [(3, 51)] (fun  h Rt X =>
(whS (hI h) → Rt (some (.inl 1)) h) ∧ (¬ whS (hI h) → Rt (some (.inl 0)) h)))
set_option maxRecDepth 100000 in
set_option maxHeartbeats 4000000 in
theorem o_X4_isWhole : Obl true 2 1 (sp []) [] code_X4_isWhole s_X4_isWhole := by
  refine obl0 (by rfl) ?_
  intro  h Rt X hh hf hs
  obtain ⟨h1, h2⟩ := hs
  by_cases z : whS (hI h)
  · have k := h1 z
    obtain ⟨z1, z2⟩ : hI h 51 11 = 0 ∧ 0 < hI h 51 6 := z
    repeat' (first | apply And.intro | (with_reducible assumption) | (intro h9; first | (exfalso; omega) | (simp only [rI_rI, rJ_rJ, hI_rI, hJ_rI, hI_rJ, hJ_rJ, hI_rR, hR_rI, hR_rJ, hN_rI, hN_rJ, svH_63, svH_66, rfH_63, wvH_63, wvH_62, wvH_67, wvH_68, wvH_69, sc_63, sc_n62, sc_n67, sc_n68, sc_n69, sc_n70, reduceIte, Nat.reduceEqDiff, eq_self, up_up, up_self, up_ne, ne_eq, not_false_eq_true, Int.reduceEq, Int.reduceNeg] at h9; first | (exfalso; omega) | skip) | skip) | exact h1 | exact h1 (by omega) | exact h2 | exact h2 (by omega) | omega | exact True.intro | (simp only [rI_rI, rJ_rJ, hI_rI, hJ_rI, hI_rJ, hJ_rJ, hI_rR, hR_rI, hR_rJ, hN_rI, hN_rJ, svH_63, svH_66, rfH_63, wvH_63, wvH_62, wvH_67, wvH_68, wvH_69, sc_63, sc_n62, sc_n67, sc_n68, sc_n69, sc_n70, reduceIte, Nat.reduceEqDiff, eq_self, up_up, up_self, up_ne, ne_eq, not_false_eq_true, Int.reduceEq, Int.reduceNeg]; omega))
  · have k := h2 z
    by_cases z1 : hI h 51 11 = 0
    · have z2 : ¬ 0 < hI h 51 6 := fun q => z ⟨z1, q⟩
      repeat' (first | apply And.intro | (with_reducible assumption) | (intro h9; first | (exfalso; omega) | (simp only [rI_rI, rJ_rJ, hI_rI, hJ_rI, hI_rJ, hJ_rJ, hI_rR, hR_rI, hR_rJ, hN_rI, hN_rJ, svH_63, svH_66, rfH_63, wvH_63, wvH_62, wvH_67, wvH_68, wvH_69, sc_63, sc_n62, sc_n67, sc_n68, sc_n69, sc_n70, reduceIte, Nat.reduceEqDiff, eq_self, up_up, up_self, up_ne, ne_eq, not_false_eq_true, Int.reduceEq, Int.reduceNeg] at h9; first | (exfalso; omega) | skip) | skip) | exact h1 | exact h1 (by omega) | exact h2 | exact h2 (by omega) | omega | exact True.intro | (simp only [rI_rI, rJ_rJ, hI_rI, hJ_rI, hI_rJ, hJ_rJ, hI_rR, hR_rI, hR_rJ, hN_rI, hN_rJ, svH_63, svH_66, rfH_63, wvH_63, wvH_62, wvH_67, wvH_68, wvH_69, sc_63, sc_n62, sc_n67, sc_n68, sc_n69, sc_n70, reduceIte, Nat.reduceEqDiff, eq_self, up_up, up_self, up_ne, ne_eq, not_false_eq_true, Int.reduceEq, Int.reduceNeg]; omega))
    · repeat' (first | apply And.intro | (with_reducible assumption) | (intro h9; first | (exfalso; omega) | (simp only [rI_rI, rJ_rJ, hI_rI, hJ_rI, hI_rJ, hJ_rJ, hI_rR, hR_rI, hR_rJ, hN_rI, hN_rJ, svH_63, svH_66, rfH_63, wvH_63, wvH_62, wvH_67, wvH_68, wvH_69, sc_63, sc_n62, sc_n67, sc_n68, sc_n69, sc_n70, reduceIte, Nat.reduceEqDiff, eq_self, up_up, up_self, up_ne, ne_eq, not_false_eq_true, Int.reduceEq, Int.reduceNeg] at h9; first | (exfalso; omega) | skip) | skip) | exact h1 | exact h1 (by omega) | exact h2 | exact h2 (by omega) | omega | exact True.intro | (simp only [rI_rI, rJ_rJ, hI_rI, hJ_rI, hI_rJ, hJ_rJ, hI_rR, hR_rI, hR_rJ, hN_rI, hN_rJ, svH_63, svH_66, rfH_63, wvH_63, wvH_62, wvH_67, wvH_68, wvH_69, sc_63, sc_n62, sc_n67, sc_n68, sc_n69, sc_n70, reduceIte, Nat.reduceEqDiff, eq_self, up_up, up_self, up_ne, ne_eq, not_false_eq_true, Int.reduceEq, Int.reduceNeg]; omega))
theorem m_X4_isWhole : MM 80 s_X4_isWhole := mm_of (own := 3) (by rfl) k_X4_isWhole (cl := []) trivial o_X4_isWhole
def s_X4_wantsNode : CS := (zc 1, ap [(3, 51)] (fun  h Rt X =>
(0 ≤ hI h 51 11 ∧ hI h 51 11 ≤ 120) ∧ (wtS (hI h) → Rt (some (.inl 1)) h) ∧ (¬ wtS (hI h) → Rt (some (.inl 0)) h)))
set_option maxRecDepth 100000 in
set_option maxHeartbeats 4000000 in
theorem o_X4_wantsNode : Obl true 2 1 (sp []) [] code_X4_wantsNode s_X4_wantsNode := by
  refine obl0 (by rfl) ?_
  intro  h Rt X hh hf hs
  obtain ⟨h1, h2, h3⟩ := hs
  by_cases z : wtS (hI h)
  · have k := h2 z
    have z : hI h 51 11 = 0 ∨ 0 < hI h 56 (hI h 51 11 - 1) := z
    rcases z with z | z
    · repeat' (first | apply And.intro | (with_reducible assumption) | (intro h9; first | (exfalso; omega) | (simp only [rI_rI, rJ_rJ, hI_rI, hJ_rI, hI_rJ, hJ_rJ, hI_rR, hR_rI, hR_rJ, hN_rI, hN_rJ, svH_63, svH_66, rfH_63, wvH_63, wvH_62, wvH_67, wvH_68, wvH_69, sc_63, sc_n62, sc_n67, sc_n68, sc_n69, sc_n70, reduceIte, Nat.reduceEqDiff, eq_self, up_up, up_self, up_ne, ne_eq, not_false_eq_true, Int.reduceEq, Int.reduceNeg] at h9; first | (exfalso; omega) | skip) | skip) | exact h1 | exact h1 (by omega) | exact h2 | exact h2 (by omega) | exact h3 | exact h3 (by omega) | omega | exact True.intro | (simp only [rI_rI, rJ_rJ, hI_rI, hJ_rI, hI_rJ, hJ_rJ, hI_rR, hR_rI, hR_rJ, hN_rI, hN_rJ, svH_63, svH_66, rfH_63, wvH_63, wvH_62, wvH_67, wvH_68, wvH_69, sc_63, sc_n62, sc_n67, sc_n68, sc_n69, sc_n70, reduceIte, Nat.reduceEqDiff, eq_self, up_up, up_self, up_ne, ne_eq, not_false_eq_true, Int.reduceEq, Int.reduceNeg]; omega))
    · repeat' (first | apply And.intro | (with_reducible assumption) | (intro h9; first | (exfalso; omega) | (simp only [rI_rI, rJ_rJ, hI_rI, hJ_rI, hI_rJ, hJ_rJ, hI_rR, hR_rI, hR_rJ, hN_rI, hN_rJ, svH_63, svH_66, rfH_63, wvH_63, wvH_62, wvH_67, wvH_68, wvH_69, sc_63, sc_n62, sc_n67, sc_n68, sc_n69, sc_n70, reduceIte, Nat.reduceEqDiff, eq_self, up_up, up_self, up_ne, ne_eq, not_false_eq_true, Int.reduceEq, Int.reduceNeg] at h9; first | (exfalso; omega) | skip) | skip) | exact h1 | exact h1 (by omega) | exact h2 | exact h2 (by omega) | exact h3 | exact h3 (by omega) | omega | exact True.intro | (simp only [rI_rI, rJ_rJ, hI_rI, hJ_rI, hI_rJ, hJ_rJ, hI_rR, hR_rI, hR_rJ, hN_rI, hN_rJ, svH_63, svH_66, rfH_63, wvH_63, wvH_62, wvH_67, wvH_68, wvH_69, sc_63, sc_n62, sc_n67, sc_n68, sc_n69, sc_n70, reduceIte, Nat.reduceEqDiff, eq_self, up_up, up_self, up_ne, ne_eq, not_false_eq_true, Int.reduceEq, Int.reduceNeg]; omega))
  · have k := h3 z
    have z1 : ¬ hI h 51 11 = 0 := fun q => z (Or.inl q)
    have z2 : ¬ 0 < hI h 56 (hI h 51 11 - 1) := fun q => z (Or.inr q)
    repeat' (first | apply And.intro | (with_reducible assumption) | (intro h9; first | (exfalso; omega) | (simp only [rI_rI, rJ_rJ, hI_rI, hJ_rI, hI_rJ, hJ_rJ, hI_rR, hR_rI, hR_rJ, hN_rI, hN_rJ, svH_63, svH_66, rfH_63, wvH_63, wvH_62, wvH_67, wvH_68, wvH_69, sc_63, sc_n62, sc_n67, sc_n68, sc_n69, sc_n70, reduceIte, Nat.reduceEqDiff, eq_self, up_up, up_self, up_ne, ne_eq, not_false_eq_true, Int.reduceEq, Int.reduceNeg] at h9; first | (exfalso; omega) | skip) | skip) | exact h1 | exact h1 (by omega) | exact h2 | exact h2 (by omega) | exact h3 | exact h3 (by omega) | omega | exact True.intro | (simp only [rI_rI, rJ_rJ, hI_rI, hJ_rI, hI_rJ, hJ_rJ, hI_rR, hR_rI, hR_rJ, hN_rI, hN_rJ, svH_63, svH_66, rfH_63, wvH_63, wvH_62, wvH_67, wvH_68, wvH_69, sc_63, sc_n62, sc_n67, sc_n68, sc_n69, sc_n70, reduceIte, Nat.reduceEqDiff, eq_self, up_up, up_self, up_ne, ne_eq, not_false_eq_true, Int.reduceEq, Int.reduceNeg]; omega))
theorem m_X4_wantsNode : MM 82 s_X4_wantsNode := mm_of (own := 3) (by rfl) k_X4_wantsNode (cl := []) trivial o_X4_wantsNode
def s_X4_isWordLetter : CS := (zc 2, ap [(3, 51), (0, 0)] (fun k h Rt X =>
(TL h) ∧ (0 ≤ k ∧ k < 1000) ∧ (isL (hI h) k → Rt (some (.inl 1)) h) ∧ (¬ isL (hI h) k → Rt (some (.inl 0)) h)))
set_option maxRecDepth 100000 in
set_option maxHeartbeats 4000000 in
theorem o_X4_isWordLetter : Obl true 2 3 (sp [(125, s_X7_at), (91, s_X4_isDigit)]) [] code_X4_isWordLetter s_X4_isWordLetter := by
  refine obl0 (by rfl) ?_
  intro k r_k h Rt X hh hf hs
  obtain ⟨h1, h2, h3, h4⟩ := hs
  by_cases z : isL (hI h) k
  · have q := h3 z
    obtain ⟨z1, z2, z3⟩ := z
    repeat' (first | apply And.intro | (with_reducible assumption) | (intro h9; first | (exfalso; omega) | (simp only [rI_rI, rJ_rJ, hI_rI, hJ_rI, hI_rJ, hJ_rJ, hI_rR, hR_rI, hR_rJ, hN_rI, hN_rJ, svH_63, svH_66, rfH_63, wvH_63, wvH_62, wvH_67, wvH_68, wvH_69, sc_63, sc_n62, sc_n67, sc_n68, sc_n69, sc_n70, reduceIte, Nat.reduceEqDiff, eq_self, up_up, up_self, up_ne, ne_eq, not_false_eq_true, Int.reduceEq, Int.reduceNeg] at h9; first | (exfalso; omega) | skip) | skip) | exact absurd (by assumption) (z3 (by assumption)) | exact h1 | exact h1 (by omega) | exact h2 | exact h2 (by omega) | exact h3 | exact h3 (by omega) | exact h4 | exact h4 (by omega) | omega | exact True.intro | (simp only [rI_rI, rJ_rJ, hI_rI, hJ_rI, hI_rJ, hJ_rJ, hI_rR, hR_rI, hR_rJ, hN_rI, hN_rJ, svH_63, svH_66, rfH_63, wvH_63, wvH_62, wvH_67, wvH_68, wvH_69, sc_63, sc_n62, sc_n67, sc_n68, sc_n69, sc_n70, reduceIte, Nat.reduceEqDiff, eq_self, up_up, up_self, up_ne, ne_eq, not_false_eq_true, Int.reduceEq, Int.reduceNeg]; omega))
  · have q := h4 z
    have z4 : 97 ≤ tA (hI h) k → tA (hI h) k ≤ 122 → tA (hI h) k = 118 ∧ isD (tA (hI h) (k + 1)) := fun a b => by
      by_cases e : tA (hI h) k = 118
      · by_cases f : isD (tA (hI h) (k + 1))
        · exact ⟨e, f⟩
        · exact absurd ⟨a, b, fun _ => f⟩ z
      · exact absurd ⟨a, b, fun q => absurd q e⟩ z
    repeat' (first | apply And.intro | (with_reducible assumption) | (intro h9; first | (exfalso; omega) | (simp only [rI_rI, rJ_rJ, hI_rI, hJ_rI, hI_rJ, hJ_rJ, hI_rR, hR_rI, hR_rJ, hN_rI, hN_rJ, svH_63, svH_66, rfH_63, wvH_63, wvH_62, wvH_67, wvH_68, wvH_69, sc_63, sc_n62, sc_n67, sc_n68, sc_n69, sc_n70, reduceIte, Nat.reduceEqDiff, eq_self, up_up, up_self, up_ne, ne_eq, not_false_eq_true, Int.reduceEq, Int.reduceNeg] at h9; first | (exfalso; omega) | skip) | skip) | exact absurd (z4 (by assumption) (by assumption)).2 (by assumption) | exact absurd (z4 (by assumption) (by assumption)).1 (by assumption) | exact h1 | exact h1 (by omega) | exact h2 | exact h2 (by omega) | exact h3 | exact h3 (by omega) | exact h4 | exact h4 (by omega) | omega | exact True.intro | (simp only [rI_rI, rJ_rJ, hI_rI, hJ_rI, hI_rJ, hJ_rJ, hI_rR, hR_rI, hR_rJ, hN_rI, hN_rJ, svH_63, svH_66, rfH_63, wvH_63, wvH_62, wvH_67, wvH_68, wvH_69, sc_63, sc_n62, sc_n67, sc_n68, sc_n69, sc_n70, reduceIte, Nat.reduceEqDiff, eq_self, up_up, up_self, up_ne, ne_eq, not_false_eq_true, Int.reduceEq, Int.reduceNeg]; omega))
theorem m_X4_isWordLetter : MM 92 s_X4_isWordLetter := mm_of (own := 3) (by rfl) k_X4_isWordLetter (cl := [(125, s_X7_at), (91, s_X4_isDigit)]) ⟨m_X7_at, m_X4_isDigit, trivial⟩ o_X4_isWordLetter
def s_X4_takeDigit : CS := (zc 2, ap [(3, 51)] (fun  h Rt X =>
TL h ∧ (0 ≤ hI h 51 1 ∧ hI h 51 1 ≤ 120) ∧ Rt (some (.inl (dgV (hI h)))) (wI h (dgS (hI h)))))
set_option maxRecDepth 100000 in
set_option maxHeartbeats 4000000 in
theorem o_X4_takeDigit : Obl true 1 2 (sp [(125, s_X7_at), (91, s_X4_isDigit)]) [] code_X4_takeDigit s_X4_takeDigit := by
  refine obl0 (by rfl) ?_
  intro  h Rt X hh hf hs
  obtain ⟨h1, h2, h3⟩ := hs
  unfold dgV dgS at h3
  by_cases z : isD (tA (hI h) (hI h 51 1))
  · have z1 := tA_rng z
    rw [if_pos z, if_pos z] at h3
    by_cases y : isD (tA (hI h) (hI h 51 1 + 1))
    · rw [if_pos y] at h3
      repeat' (first | apply And.intro | (with_reducible assumption) | (intro h9; first | (exfalso; omega) | (simp only [rI_rI, rJ_rJ, hI_rI, hJ_rI, hI_rJ, hJ_rJ, hI_rR, hR_rI, hR_rJ, hN_rI, hN_rJ, svH_63, svH_66, rfH_63, wvH_63, wvH_62, wvH_67, wvH_68, wvH_69, sc_63, sc_n62, sc_n67, sc_n68, sc_n69, sc_n70, reduceIte, Nat.reduceEqDiff, eq_self, up_up, up_self, up_ne, ne_eq, not_false_eq_true, Int.reduceEq, Int.reduceNeg] at h9; first | (exfalso; omega) | skip) | skip) | exact absurd z (by assumption) | exact absurd y (by assumption) | exact h1 | exact h1 (by omega) | exact h2 | exact h2 (by omega) | exact h3 | exact h3 (by omega) | omega | exact True.intro | (simp only [rI_rI, rJ_rJ, hI_rI, hJ_rI, hI_rJ, hJ_rJ, hI_rR, hR_rI, hR_rJ, hN_rI, hN_rJ, svH_63, svH_66, rfH_63, wvH_63, wvH_62, wvH_67, wvH_68, wvH_69, sc_63, sc_n62, sc_n67, sc_n68, sc_n69, sc_n70, reduceIte, Nat.reduceEqDiff, eq_self, up_up, up_self, up_ne, ne_eq, not_false_eq_true, Int.reduceEq, Int.reduceNeg]; omega))
    · rw [if_neg y] at h3
      repeat' (first | apply And.intro | (with_reducible assumption) | (intro h9; first | (exfalso; omega) | (simp only [rI_rI, rJ_rJ, hI_rI, hJ_rI, hI_rJ, hJ_rJ, hI_rR, hR_rI, hR_rJ, hN_rI, hN_rJ, svH_63, svH_66, rfH_63, wvH_63, wvH_62, wvH_67, wvH_68, wvH_69, sc_63, sc_n62, sc_n67, sc_n68, sc_n69, sc_n70, reduceIte, Nat.reduceEqDiff, eq_self, up_up, up_self, up_ne, ne_eq, not_false_eq_true, Int.reduceEq, Int.reduceNeg] at h9; first | (exfalso; omega) | skip) | skip) | exact absurd z (by assumption) | exact absurd (by assumption) y | exact h1 | exact h1 (by omega) | exact h2 | exact h2 (by omega) | exact h3 | exact h3 (by omega) | omega | exact True.intro | (simp only [rI_rI, rJ_rJ, hI_rI, hJ_rI, hI_rJ, hJ_rJ, hI_rR, hR_rI, hR_rJ, hN_rI, hN_rJ, svH_63, svH_66, rfH_63, wvH_63, wvH_62, wvH_67, wvH_68, wvH_69, sc_63, sc_n62, sc_n67, sc_n68, sc_n69, sc_n70, reduceIte, Nat.reduceEqDiff, eq_self, up_up, up_self, up_ne, ne_eq, not_false_eq_true, Int.reduceEq, Int.reduceNeg]; omega))
  · rw [if_neg z, if_neg z] at h3
    repeat' (first | apply And.intro | (with_reducible assumption) | (intro h9; first | (exfalso; omega) | (simp only [rI_rI, rJ_rJ, hI_rI, hJ_rI, hI_rJ, hJ_rJ, hI_rR, hR_rI, hR_rJ, hN_rI, hN_rJ, svH_63, svH_66, rfH_63, wvH_63, wvH_62, wvH_67, wvH_68, wvH_69, sc_63, sc_n62, sc_n67, sc_n68, sc_n69, sc_n70, reduceIte, Nat.reduceEqDiff, eq_self, up_up, up_self, up_ne, ne_eq, not_false_eq_true, Int.reduceEq, Int.reduceNeg] at h9; first | (exfalso; omega) | skip) | skip) | exact absurd (by assumption) z | exact h1 | exact h1 (by omega) | exact h2 | exact h2 (by omega) | exact h3 | exact h3 (by omega) | omega | exact True.intro | (simp only [rI_rI, rJ_rJ, hI_rI, hJ_rI, hI_rJ, hJ_rJ, hI_rR, hR_rI, hR_rJ, hN_rI, hN_rJ, svH_63, svH_66, rfH_63, wvH_63, wvH_62, wvH_67, wvH_68, wvH_69, sc_63, sc_n62, sc_n67, sc_n68, sc_n69, sc_n70, reduceIte, Nat.reduceEqDiff, eq_self, up_up, up_self, up_ne, ne_eq, not_false_eq_true, Int.reduceEq, Int.reduceNeg]; omega))
theorem m_X4_takeDigit : MM 88 s_X4_takeDigit := mm_of (own := 3) (by rfl) k_X4_takeDigit (cl := [(125, s_X7_at), (91, s_X4_isDigit)]) ⟨m_X7_at, m_X4_isDigit, trivial⟩ o_X4_takeDigit
def s_X4_addStep : CS := (zc 1, ap [(3, 51), (0, 0), (0, 0), (0, 0)] (fun k n x h Rt X =>
(0 ≤ hI h 51 6 ∧ hI h 51 6 < 120 ∧ hI h 51 11 ≤ 120 ∧ (0 < hI h 51 11 → 0 ≤ hI h 56 (hI h 51 11 - 1))) ∧ Rt none (wI h (adS (hI h) k n x))))
set_option maxRecDepth 100000 in
set_option maxHeartbeats 4000000 in
theorem o_X4_addStep : Obl true 0 4 (sp []) [] code_X4_addStep s_X4_addStep := by
  refine obl0 (by rfl) ?_
  intro k r_k n r_n x r_x h Rt X hh hf hs
  obtain ⟨h1, h2⟩ := hs
  unfold adS at h2
  by_cases z : 0 < hI h 51 11
  · rw [if_pos z] at h2
    have z2 := h1.2.2.2 z
    have z3 := (hh.1 56 (hI h 51 11 - 1)).2
    repeat' (first | apply And.intro | (with_reducible assumption) | (intro h9; first | (exfalso; omega) | (simp only [rI_rI, rJ_rJ, hI_rI, hJ_rI, hI_rJ, hJ_rJ, hI_rR, hR_rI, hR_rJ, hN_rI, hN_rJ, svH_63, svH_66, rfH_63, wvH_63, wvH_62, wvH_67, wvH_68, wvH_69, sc_63, sc_n62, sc_n67, sc_n68, sc_n69, sc_n70, reduceIte, Nat.reduceEqDiff, eq_self, up_up, up_self, up_ne, ne_eq, not_false_eq_true, Int.reduceEq, Int.reduceNeg] at h9; first | (exfalso; omega) | skip) | skip) | exact h1 | exact h1 (by omega) | exact h2 | exact h2 (by omega) | omega | exact True.intro | (simp only [rI_rI, rJ_rJ, hI_rI, hJ_rI, hI_rJ, hJ_rJ, hI_rR, hR_rI, hR_rJ, hN_rI, hN_rJ, svH_63, svH_66, rfH_63, wvH_63, wvH_62, wvH_67, wvH_68, wvH_69, sc_63, sc_n62, sc_n67, sc_n68, sc_n69, sc_n70, reduceIte, Nat.reduceEqDiff, eq_self, up_up, up_self, up_ne, ne_eq, not_false_eq_true, Int.reduceEq, Int.reduceNeg]; omega))
  · rw [if_neg z] at h2
    repeat' (first | apply And.intro | (with_reducible assumption) | (intro h9; first | (exfalso; omega) | (simp only [rI_rI, rJ_rJ, hI_rI, hJ_rI, hI_rJ, hJ_rJ, hI_rR, hR_rI, hR_rJ, hN_rI, hN_rJ, svH_63, svH_66, rfH_63, wvH_63, wvH_62, wvH_67, wvH_68, wvH_69, sc_63, sc_n62, sc_n67, sc_n68, sc_n69, sc_n70, reduceIte, Nat.reduceEqDiff, eq_self, up_up, up_self, up_ne, ne_eq, not_false_eq_true, Int.reduceEq, Int.reduceNeg] at h9; first | (exfalso; omega) | skip) | skip) | exact h1 | exact h1 (by omega) | exact h2 | exact h2 (by omega) | omega | exact True.intro | (simp only [rI_rI, rJ_rJ, hI_rI, hJ_rI, hI_rJ, hJ_rJ, hI_rR, hR_rI, hR_rJ, hN_rI, hN_rJ, svH_63, svH_66, rfH_63, wvH_63, wvH_62, wvH_67, wvH_68, wvH_69, sc_63, sc_n62, sc_n67, sc_n68, sc_n69, sc_n70, reduceIte, Nat.reduceEqDiff, eq_self, up_up, up_self, up_ne, ne_eq, not_false_eq_true, Int.reduceEq, Int.reduceNeg]; omega))
theorem m_X4_addStep : MM 89 s_X4_addStep := mm_of (own := 3) (by rfl) k_X4_addStep (cl := []) trivial o_X4_addStep

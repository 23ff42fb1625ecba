/-! ===== words in lanes ===== -/
def b2 (x : Bool) : Int := if x then 1 else 0
theorem b2_01 (x : Bool) : b2 x = 0 ∨ b2 x = 1 := by cases x <;> simp [b2]
/-- the word that stands in a lane: n planes from a on -/
def lw (P : Int → Int64) (l : Nat) (a : Int) : Nat → Int
  | 0 => 0
  | n + 1 => lw P l a n + b2 (lb (P (a + (n : Int))) l) * p2 n
theorem lw_s (P : Int → Int64) (l : Nat) (a : Int) (n : Nat) : lw P l a (n + 1) = lw P l a n + b2 (lb (P (a + (n : Int))) l) * p2 n := rfl
theorem lw_i (P : Int → Int64) (l : Nat) (a : Int) {i : Int} (h : 0 ≤ i) : lw P l a (i + 1).toNat = lw P l a i.toNat + b2 (lb (P (a + i)) l) * p2 i := by
  rw [show (i + 1).toNat = i.toNat + 1 by omega, lw_s, show ((i.toNat : Nat) : Int) = i by omega]
theorem lw_rng (P : Int → Int64) (l : Nat) (a : Int) : ∀ n : Nat, 0 ≤ lw P l a n ∧ lw P l a n < p2 n := by
  intro n
  induction n with
  | zero => exact ⟨Int.le_refl _, (show (0 : Int) < p2 0 by decide)⟩
  | succ n ih =>
    have e : p2 ((n + 1 : Nat) : Int) = 2 * p2 n := by rw [Int.natCast_add]; exact p2_succ (by omega)
    rw [e, lw_s]
    rcases b2_01 (lb (P (a + (n : Int))) l) with q | q <;> rw [q] <;> omega
theorem lw_rngi (P : Int → Int64) (l : Nat) (a : Int) {i : Int} (h : 0 ≤ i) : 0 ≤ lw P l a i.toNat ∧ lw P l a i.toNat < p2 i := by
  have := lw_rng P l a i.toNat
  rw [show ((i.toNat : Nat) : Int) = i by omega] at this
  exact this
theorem lw_cg {P Q : Int → Int64} {l : Nat} {a c : Int} : ∀ n : Nat, (∀ j, 0 ≤ j → j < (n : Int) → lb (Q (c + j)) l = lb (P (a + j)) l) → lw Q l c n = lw P l a n := by
  intro n
  induction n with
  | zero => intro _; rfl
  | succ n ih =>
    intro h
    rw [lw_s, lw_s, ih fun j a b => h j a (by omega), h n (by omega) (by omega)]
theorem lw_eq {P Q : Int → Int64} {l : Nat} {a : Int} {n : Int} (h0 : 0 ≤ n) (h : ∀ j, a ≤ j → j < a + n → Q j = P j) : lw Q l a n.toNat = lw P l a n.toNat :=
  lw_cg n.toNat fun j a b => by rw [h _ (by omega) (by omega)]
theorem lw_up {P : Int → Int64} {l : Nat} {a k : Int} {x : Int64} {n : Int} (h0 : 0 ≤ n) (h : k < a ∨ a + n ≤ k) : lw (up P k x) l a n.toNat = lw P l a n.toNat :=
  lw_eq h0 fun j a b => up_ne (by omega)
/-- a bit of a lane's word -/
theorem lw_bit (P : Int → Int64) (l : Nat) (a : Int) : ∀ n : Nat, ∀ j, 0 ≤ j → j < (n : Int) → lw P l a n / p2 j % 2 = b2 (lb (P (a + j)) l) := by
  intro n
  induction n with
  | zero => intro j a b; omega
  | succ n ih =>
    intro j h0 h1
    have r := lw_rng P l a n
    have hp := p2_pos n
    rw [lw_s]
    by_cases e : j = n
    · subst e
      rw [Int.add_mul_ediv_right _ _ (by omega), Int.ediv_eq_zero_of_lt r.1 r.2, Int.zero_add]
      rcases b2_01 (lb (P (a + (n : Int))) l) with q | q <;> rw [q] <;> rfl
    · have e2 : p2 (n : Int) = p2 ((n : Int) - j) * p2 j := by rw [← p2_add (by omega) h0]; congr 1; omega
      have e3 : p2 ((n : Int) - j) = 2 * p2 ((n : Int) - j - 1) := by rw [← p2_succ (by omega)]; congr 1; omega
      have hq := p2_pos j
      rw [e2, ← Int.mul_assoc, Int.add_mul_ediv_right _ _ (by omega), e3]
      rw [show lw P l a n / p2 j + b2 (lb (P (a + (n : Int))) l) * (2 * p2 ((n : Int) - j - 1)) = lw P l a n / p2 j + 2 * (b2 (lb (P (a + (n : Int))) l) * p2 ((n : Int) - j - 1)) by rw [Int.mul_left_comm]]
      rw [Int.add_mul_emod_self_left]
      exact ih j h0 (by omega)
theorem lw_biti (P : Int → Int64) (l : Nat) (a : Int) {n j : Int} (h0 : 0 ≤ j) (h1 : j < n) : lw P l a n.toNat / p2 j % 2 = b2 (lb (P (a + j)) l) := lw_bit P l a n.toNat j h0 (by omega)
theorem emod2 (x : Int) {p : Int} (hp : 0 < p) : x % (p * 2) = x % p + p * (x / p % 2) := by
  have a := Int.emod_nonneg x (show p ≠ 0 by omega)
  have b := Int.emod_lt_of_pos x hp
  have c := Int.emod_two_eq (x / p)
  have d : p * (x / p % 2) = 0 ∨ p * (x / p % 2) = p := by
    rcases c with c | c <;> rw [c]
    · exact Or.inl (Int.mul_zero _)
    · exact Or.inr (Int.mul_one _)
  have e : x = (x % p + p * (x / p % 2)) + (p * 2) * (x / p / 2) := by
    have e1 := Int.emod_add_mul_ediv x p
    have e2 := Int.emod_add_mul_ediv (x / p) 2
    have e3 : p * (x / p) = p * (x / p % 2) + p * 2 * (x / p / 2) := by rw [Int.mul_assoc, ← Int.mul_add, e2]
    omega
  have f : x % (p * 2) = ((x % p + p * (x / p % 2)) + (p * 2) * (x / p / 2)) % (p * 2) := by rw [← e]
  rw [f, Int.add_mul_emod_self_left, Int.emod_eq_of_lt (by omega) (by omega)]
/-- a number put together of its bits -/
theorem bits_sum {x : Int} {f : Int → Bool} : ∀ n : Nat, (∀ j, 0 ≤ j → j < (n : Int) → b2 (f j) = x / p2 j % 2) → ∀ g : Nat → Int, g 0 = 0 → (∀ k : Nat, k < n → g (k + 1) = g k + b2 (f k) * p2 k) → g n = x % p2 n := by
  intro n
  induction n with
  | zero =>
    intro _ g h0 _
    rw [h0]
    exact (Int.emod_one x).symm
  | succ n ih =>
    intro h g h0 hs
    rw [hs n (by omega), ih (fun j a b => h j a (by omega)) g h0 (fun k hk => hs k (by omega)), h n (by omega) (by omega)]
    have e : p2 ((n + 1 : Nat) : Int) = p2 n * 2 := by rw [Int.natCast_add, show ((1 : Nat) : Int) = 1 from rfl, p2_succ (by omega), Int.mul_comm]
    have hp := p2_pos n
    rw [e, emod2 x hp, Int.mul_comm]
theorem lw_val {P : Int → Int64} {l : Nat} {a x : Int} {n : Int} (h0 : 0 ≤ n) (h : ∀ j, 0 ≤ j → j < n → b2 (lb (P (a + j)) l) = x / p2 j % 2) : lw P l a n.toNat = x % p2 n := by
  have := bits_sum (x := x) (f := fun j => lb (P (a + j)) l) n.toNat (fun j a b => h j a (by omega)) (lw P l a) rfl (fun k _ => rfl)
  rw [show ((n.toNat : Nat) : Int) = n by omega] at this
  exact this
theorem lb_not {x : Int64} {l : Nat} (h : l < 64) : lb (x ^^^ Int64.ofNat 18446744073709551615) l = !lb x l := by
  rw [lb_xor, show Int64.ofNat 18446744073709551615 = -1 from rfl, lb_m1 h, Bool.xor_true]
def spr (w b : Int) : Int64 := if w / p2 b % 2 = 1 then -1 else 0
theorem lb_spr (w b : Int) {l : Nat} (h : l < 64) : b2 (lb (spr w b) l) = w / p2 b % 2 := by
  unfold spr
  have := Int.emod_two_eq (w / p2 b)
  by_cases e : w / p2 b % 2 = 1
  · rw [if_pos e, lb_m1 h, e]; rfl
  · rw [if_neg e, lb_0]
    have : w / p2 b % 2 = 0 := by omega
    rw [this]; rfl
/-- written from a place on, k planes -/
def Wr (P Q : Int → Int64) (a k : Int) : Prop := Box (∀ j, ¬ (a ≤ j ∧ j < a + k) → Q j = P j)
theorem Wr.re {P Q : Int → Int64} {a k : Int} (h : Wr P Q a k) {c n : Int} {l : Nat} (h0 : 0 ≤ n) (d : c + n ≤ a ∨ a + k ≤ c) : lw Q l c n.toNat = lw P l c n.toNat := lw_eq h0 fun j a b => h.o j (by omega)
theorem Wr.z (P : Int → Int64) (a : Int) : Wr P P a 0 := Box.i fun _ _ => rfl
theorem Wr.st {P Q : Int → Int64} {a i : Int} (h : Wr P Q a i) (x : Int64) (h0 : 0 ≤ i) : Wr P (up Q (a + i) x) a (i + 1) := Box.i fun j hj => by rw [up_ne (by omega)]; exact h.o j (by omega)
theorem Wr.in {P Q : Int → Int64} {a i k : Int} (h : Wr P Q a k) (x : Int64) (h0 : 0 ≤ i) (h1 : i < k) : Wr P (up Q (a + i) x) a k := Box.i fun j hj => by rw [up_ne (by omega)]; exact h.o j (by omega)
theorem Wr.wid {P Q : Int → Int64} {a i k : Int} (h : Wr P Q a i) (h1 : i ≤ k) : Wr P Q a k := Box.i fun j hj => h.o j (by omega)
theorem Wr.tr {P Q R : Int → Int64} {a k : Int} (h : Wr P Q a k) (h' : Wr Q R a k) : Wr P R a k := Box.i fun j hj => by rw [h'.o j hj, h.o j hj]
/-- what stands in the lanes -/
def Ln (Q : Int → Int64) (a k : Int) (F : Nat → Int) : Prop := Box (∀ l, l < 64 → lw Q l a k.toNat = F l)
theorem lw_upi {Q : Int → Int64} {l : Nat} {a i : Int} {x : Int64} (h0 : 0 ≤ i) : lw (up Q (a + i) x) l a (i + 1).toNat = lw Q l a i.toNat + b2 (lb x l) * p2 i := by
  rw [lw_i _ _ _ h0, lw_up h0 (Or.inr (by omega)), up_self]
/-- the carry of a sum -/
def AddI (P Q : Int → Int64) (a b to i : Int) (c : Int64) : Prop := Box (∀ l, l < 64 → lw Q l to i.toNat + b2 (lb c l) * p2 i = lw P l a i.toNat + lw P l b i.toNat)
theorem fa_step (x y c : Bool) {q A B S : Int} (h : S + b2 c * q = A + B) : (S + b2 ((x ^^ y) ^^ c) * q) + b2 ((x && y) || (c && (x ^^ y))) * (2 * q) = (A + b2 x * q) + (B + b2 y * q) := by
  cases x <;> cases y <;> cases c <;> simp [b2] at * <;> omega
theorem AddI.z (P : Int → Int64) (a b to : Int) : AddI P P a b to 0 0 := Box.i fun l _ => by
  rw [lb_0]
  show (0 : Int) + 0 * p2 0 = 0 + 0
  rw [Int.zero_mul]
theorem AddI.st {P Q : Int → Int64} {a b to i : Int} {c : Int64} (h : AddI P Q a b to i c) (h0 : 0 ≤ i) : AddI P (up Q (to + i) (P (a + i) ^^^ P (b + i) ^^^ c)) a b to (i + 1) (P (a + i) &&& P (b + i) ||| c &&& (P (a + i) ^^^ P (b + i))) := Box.i fun l hl => by
  rw [lw_upi h0, lw_i _ _ _ h0, lw_i _ _ _ h0, p2_succ h0]
  simp only [lb_xor, lb_and, lb_or]
  exact fa_step _ _ _ (h.o l hl)
theorem AddI.fin {P Q : Int → Int64} {a b to k : Int} {c : Int64} (h : AddI P Q a b to k c) (h0 : 0 ≤ k) : Ln Q to k (fun l => (lw P l a k.toNat + lw P l b k.toNat) % p2 k) := Box.i fun l hl => by
  have r := lw_rngi Q l to h0
  show lw Q l to k.toNat = (lw P l a k.toNat + lw P l b k.toNat) % p2 k
  rw [← h.o l hl, Int.add_mul_emod_self_right, Int.emod_eq_of_lt r.1 r.2]
/-- the borrow of a difference -/
def SubI (P Q : Int → Int64) (a b to i : Int) (c : Int64) : Prop := Box (∀ l, l < 64 → lw Q l to i.toNat - b2 (lb c l) * p2 i = lw P l a i.toNat - lw P l b i.toNat)
theorem fs_step (x y c : Bool) {q A B S : Int} (h : S - b2 c * q = A - B) : (S + b2 ((x ^^ y) ^^ c) * q) - b2 ((!x && (y || c)) || (y && c)) * (2 * q) = (A + b2 x * q) - (B + b2 y * q) := by
  cases x <;> cases y <;> cases c <;> simp [b2] at * <;> omega
theorem SubI.z (P : Int → Int64) (a b to : Int) : SubI P P a b to 0 0 := Box.i fun l _ => by
  rw [lb_0]
  show (0 : Int) - 0 * p2 0 = 0 - 0
  rw [Int.zero_mul]
theorem SubI.st {P Q : Int → Int64} {a b to i : Int} {c : Int64} (h : SubI P Q a b to i c) (h0 : 0 ≤ i) : SubI P (up Q (to + i) (P (a + i) ^^^ P (b + i) ^^^ c)) a b to (i + 1) ((P (a + i) ^^^ Int64.ofNat 18446744073709551615) &&& (P (b + i) ||| c) ||| P (b + i) &&& c) := Box.i fun l hl => by
  rw [lw_upi h0, lw_i _ _ _ h0, lw_i _ _ _ h0, p2_succ h0]
  simp only [lb_xor, lb_and, lb_or, show Int64.ofNat 18446744073709551615 = -1 from rfl, lb_m1 hl, Bool.xor_true]
  exact fs_step _ _ _ (h.o l hl)
theorem SubI.fin {P Q : Int → Int64} {a b to k : Int} {c : Int64} (h : SubI P Q a b to k c) (h0 : 0 ≤ k) : Ln Q to k (fun l => (lw P l a k.toNat - lw P l b k.toNat) % p2 k) := Box.i fun l hl => by
  have r := lw_rngi Q l to h0
  show lw Q l to k.toNat = (lw P l a k.toNat - lw P l b k.toNat) % p2 k
  rw [← h.o l hl, show lw Q l to k.toNat - b2 (lb c l) * p2 k = lw Q l to k.toNat + (-b2 (lb c l)) * p2 k by rw [Int.neg_mul]; omega, Int.add_mul_emod_self_right, Int.emod_eq_of_lt r.1 r.2]
/-- the planes of the lowest bits -/
theorem tLB_all : ∀ j : Nat, j < 6 → ∀ l : Nat, l < 64 → lb (tLB j) l = decide (l / 2 ^ j % 2 = 1) := by decide +kernel

/-! ===== the abstract machine is right: values, the heap's picture, a state's picture ===== -/
def cv (ad : Nat → Nat) : AV → Value
  | .inl x => .int (iw x)
  | .inr (.inl y) => .long y
  | .inr (.inr r) => va_rf (r.map ad)
theorem cv_cat1 (ad : Nat → Nat) (v : AV) (h : cat1 v = true) : (cv ad v).category = 1 := by
  rcases v with x | x | (_ | a) <;> first | rfl | (simp [cat1] at h)
theorem cv_cat2 (ad : Nat → Nat) (v : AV) : ((cv ad v).category == 2) = isJ (some v) := by
  rcases v with x | x | (_ | a) <;> rfl
theorem cv_sum (ad : Nat → Nat) (st : List AV) : ((st.map (cv ad)).map fun v => v.category).sum = catS st := by
  induction st with
  | nil => rfl
  | cons v l ih =>
    simp only [List.map_cons, List.sum_cons, catS]
    rw [ih]
    rcases v with x | x | (_ | a) <;> rfl
def fv (ad : Nat → Nat) (h : Hp) (ci a k : Nat) : Value := match tFT ci k with
  | 1 => .long (hJ h a k)
  | 2 => va_rf ((hR h a k).map ad)
  | _ => .int (iw (hI h a k))
def ent (ad : Nat → Nat) (ca : Nat → ClassId) (h : Hp) (a : Nat) : va_E := match (tGK a).1 with
  | 20 => .inl (ca 0, (tGK a).2.toNat, .inl (fun j => iw (hI h a j)))
  | 21 => .inl (ca 1, (tGK a).2.toNat, .inr (.inl (fun j => hJ h a j)))
  | 22 => .inl (ca 2, (tGK a).2.toNat, .inl (fun j => iw (hI h a j)))
  | 23 => .inl (ca 3, (tGK a).2.toNat, .inr (.inr (.inr (.inr (fun j => (hR h a j).map ad)))))
  | ci => .inr (ci, (List.range (cN ci).2.2).map (fv ad h ci a))
def wo (ad : Nat → Nat) (ca : Nat → ClassId) (h : Hp) : va_W := (List.range (hN h)).map fun a => (ad a, ent ad ca h a)
def vok (N : Nat) : AV → Prop
  | .inl x => Rng x
  | .inr (.inr (some a)) => a < N ∨ 1000 ≤ a
  | _ => True
def hok (h : Hp) : Prop := (∀ a k, Rng (hI h a k)) ∧ (∀ a k b, hR h a k = some b → b < hN h) ∧ hN h ≤ 63
def fixed (h : Hp) : Prop := ∀ a k b, a < hN h → tGF a k = some b → hR h a k = some b ∧ b < hN h
/-- the locals as the kit has them -/
def lp (ad : Nat → Nat) (ls : LSt) : List (Nat × Value) := (List.range ls.length).filterMap fun i => (lget ls i).map fun v => (i, cv ad v)
theorem lget_lt {ls : LSt} {i : Nat} {v : AV} (h : lget ls i = some v) : i < ls.length := by
  induction ls generalizing i with
  | nil => simp [lget] at h
  | cons a l ih =>
    cases i with
    | zero => simp
    | succ i => simp only [lget] at h; simpa using ih h
theorem lp_mem {ad : Nat → Nat} {ls : LSt} {i : Nat} {w : Value} : (i, w) ∈ lp ad ls ↔ ∃ v, lget ls i = some v ∧ w = cv ad v := by
  unfold lp
  rw [List.mem_filterMap]
  constructor
  · rintro ⟨j, hj, h⟩
    cases hg : lget ls j with
    | none => rw [hg] at h; simp at h
    | some v =>
      rw [hg] at h
      simp only [Option.map_some, Option.some.injEq, Prod.mk.injEq] at h
      obtain ⟨rfl, rfl⟩ := h
      exact ⟨v, hg, rfl⟩
  · rintro ⟨v, hg, rfl⟩
    exact ⟨i, List.mem_range.mpr (lget_lt hg), by rw [hg]; rfl⟩
theorem lset1_len (ls : LSt) (i : Nat) (v : AV) : (lset1 ls i v).length = ls.length := by
  induction ls generalizing i with
  | nil => rfl
  | cons a l ih => cases i with
    | zero => rfl
    | succ i => simp only [lset1, List.length_cons]; rw [ih]
theorem lkill_len (ls : LSt) : (lkill ls).length = ls.length := by cases ls <;> rfl
theorem lset2_len (ls : LSt) (i : Nat) (v : AV) : (lset2 ls i v).length = ls.length := by
  induction ls generalizing i with
  | nil => rfl
  | cons a l ih => cases i with
    | zero => simp only [lset2, List.length_cons]; rw [lkill_len]
    | succ i => simp only [lset2, List.length_cons]; rw [ih]
theorem lset1_get {ls : LSt} {i j : Nat} {v w : AV} (h : lget (lset1 ls i v) j = some w) : (j = i ∧ w = v) ∨ (j ≠ i ∧ lget ls j = some w ∧ ¬ (j + 1 = i ∧ isJ (some w) = true)) := by
  induction ls generalizing i j with
  | nil => simp [lset1, lget] at h
  | cons a l ih =>
    cases i with
    | zero =>
      cases j with
      | zero => simp only [lset1, lget, Option.some.injEq] at h; exact Or.inl ⟨rfl, h.symm⟩
      | succ j => simp only [lset1, lget] at h; exact Or.inr ⟨by omega, h, by omega⟩
    | succ i =>
      cases j with
      | zero =>
        simp only [lset1, lget] at h
        cases hc : (Nat.beq i 0 && isJ a) with
        | true => rw [hc] at h; simp at h
        | false =>
          rw [hc] at h
          simp only [cond_false] at h
          refine Or.inr ⟨by omega, h, ?_⟩
          rintro ⟨e, hj⟩
          have : i = 0 := by omega
          subst this
          rw [h, hj] at hc
          simp at hc
      | succ j =>
        simp only [lset1, lget] at h
        rcases ih h with ⟨e, h2⟩ | ⟨e, h2, h3⟩
        · exact Or.inl ⟨by omega, h2⟩
        · exact Or.inr ⟨by omega, h2, fun q => h3 ⟨by omega, q.2⟩⟩
theorem lkill_get {ls : LSt} {j : Nat} {w : AV} (h : lget (lkill ls) j = some w) : j ≠ 0 ∧ lget ls j = some w := by
  cases ls with
  | nil => simp [lkill, lget] at h
  | cons a l => cases j with
    | zero => simp [lkill, lget] at h
    | succ j => exact ⟨by omega, h⟩
theorem lset2_get {ls : LSt} {i j : Nat} {v w : AV} (h : lget (lset2 ls i v) j = some w) : (j = i ∧ w = v) ∨ (j ≠ i ∧ j ≠ i + 1 ∧ lget ls j = some w ∧ ¬ (j + 1 = i ∧ isJ (some w) = true)) := by
  induction ls generalizing i j with
  | nil => simp [lset2, lget] at h
  | cons a l ih =>
    cases i with
    | zero =>
      cases j with
      | zero => simp only [lset2, lget, Option.some.injEq] at h; exact Or.inl ⟨rfl, h.symm⟩
      | succ j =>
        simp only [lset2, lget] at h
        have := lkill_get h
        exact Or.inr ⟨by omega, by omega, this.2, by omega⟩
    | succ i =>
      cases j with
      | zero =>
        simp only [lset2, lget] at h
        cases hc : (Nat.beq i 0 && isJ a) with
        | true => rw [hc] at h; simp at h
        | false =>
          rw [hc] at h
          simp only [cond_false] at h
          refine Or.inr ⟨by omega, by omega, h, ?_⟩
          rintro ⟨e, hj⟩
          have : i = 0 := by omega
          subst this
          rw [h, hj] at hc
          simp at hc
      | succ j =>
        simp only [lset2, lget] at h
        rcases ih h with ⟨e, h2⟩ | ⟨e, e2, h2, h3⟩
        · exact Or.inl ⟨by omega, h2⟩
        · exact Or.inr ⟨by omega, by omega, h2, fun q => h3 ⟨by omega, q.2⟩⟩
theorem lhas_mono {L : Array Slot} {n : Nat} {l l' : List (Nat × Value)} (h : lv_has L n l) (hs : ∀ q ∈ l', q ∈ l) : lv_has L n l' := ⟨h.1, h.2.1, fun q hq => h.2.2 q (hs q hq)⟩
theorem lp_set1 {ad : Nat → Nat} {ls : LSt} {i : Nat} {v : AV} {L : Array Slot} {n : Nat} (h : lv_has L n ((i, cv ad v) :: (lp ad ls).filter (fun q => !(q.1 == i) && !(q.1 + 1 == i && q.2.category == 2)))) : lv_has L n (lp ad (lset1 ls i v)) := by
  refine lhas_mono h ?_
  rintro ⟨j, w⟩ hq
  obtain ⟨u, hu, rfl⟩ := lp_mem.mp hq
  rcases lset1_get hu with ⟨rfl, rfl⟩ | ⟨h1, h2, h3⟩
  · exact List.mem_cons_self
  · refine List.mem_cons_of_mem _ (List.mem_filter.mpr ⟨lp_mem.mpr ⟨u, h2, rfl⟩, ?_⟩)
    rw [cv_cat2]
    by_cases hj : isJ (some u) = true
    · have : j + 1 ≠ i := fun e => h3 ⟨e, hj⟩
      simp [h1, this]
    · simp [h1, hj]
theorem lp_set2 {ad : Nat → Nat} {ls : LSt} {i : Nat} {v : AV} {L : Array Slot} {n : Nat} (h : lv_has L n ((i, cv ad v) :: (lp ad ls).filter (fun q => !(q.1 == i) && (!(q.1 == i + 1) && !(q.1 + 1 == i && q.2.category == 2))))) : lv_has L n (lp ad (lset2 ls i v)) := by
  refine lhas_mono h ?_
  rintro ⟨j, w⟩ hq
  obtain ⟨u, hu, rfl⟩ := lp_mem.mp hq
  rcases lset2_get hu with ⟨rfl, rfl⟩ | ⟨h1, h4, h2, h3⟩
  · exact List.mem_cons_self
  · refine List.mem_cons_of_mem _ (List.mem_filter.mpr ⟨lp_mem.mpr ⟨u, h2, rfl⟩, ?_⟩)
    rw [cv_cat2]
    by_cases hj : isJ (some u) = true
    · have : j + 1 ≠ i := fun e => h3 ⟨e, hj⟩
      simp [h1, h4, this]
    · simp [h1, h4, hj]
def lok (N : Nat) (ls : LSt) : Prop := ∀ i v, lget ls i = some v → vok N v
theorem lok_set1 {N : Nat} {ls : LSt} {i : Nat} {v : AV} (h : lok N ls) (hv : vok N v) : lok N (lset1 ls i v) := by
  intro j w hw
  rcases lset1_get hw with ⟨-, rfl⟩ | ⟨-, h2, -⟩
  · exact hv
  · exact h j w h2
theorem lok_set2 {N : Nat} {ls : LSt} {i : Nat} {v : AV} (h : lok N ls) (hv : vok N v) : lok N (lset2 ls i v) := by
  intro j w hw
  rcases lset2_get hw with ⟨-, rfl⟩ | ⟨-, -, h2, -⟩
  · exact hv
  · exact h j w h2
/-- a state's picture: locals, objects, all in order -/
def Cn (D : va_G) (ca : Nat → ClassId) (A : Nat → Prop) (ad : Nat → Nat) (fx : Bool) (nL : Nat) (ls : LSt) (st : List AV) (h : Hp) (H : Heap) (L : Array Slot) : Prop :=
  lv_has L nL (lp ad ls) ∧ va_P D vwCl (wo ad ca h) H ∧ va_D A (wo ad ca h) ∧ lok (hN h) ls ∧ (∀ v ∈ st, vok (hN h) v) ∧ hok h ∧ (fx = true → fixed h)
theorem rng_of (x : Int32) : Rng x.toInt := by
  have h1 := Int32.le_toInt x
  have h2 := Int32.toInt_lt x
  exact ⟨by omega, by omega⟩
theorem iw_toInt {z : Int} (h : Rng z) : (iw z).toInt = z := by
  have h1 := h.1
  have h2 := h.2
  have h3 : z.bmod (2 ^ 32) = z := by rw [Int.bmod_eq_of_le (by omega) (by omega)]
  exact (Int32.toInt_ofInt).trans h3
theorem iw_of (x : Int32) : iw x.toInt = x := Int32.ofInt_toInt x
theorem iw_inj {x y : Int} (hx : Rng x) (hy : Rng y) : iw x = iw y ↔ x = y := by
  constructor
  · intro e
    rw [← iw_toInt hx, ← iw_toInt hy, e]
  · intro e
    rw [e]
theorem iw_lt {x y : Int} (hx : Rng x) (hy : Rng y) : iw x < iw y ↔ x < y := by rw [Int32.lt_iff_toInt_lt, iw_toInt hx, iw_toInt hy]
theorem iw_le {x y : Int} (hx : Rng x) (hy : Rng y) : iw x ≤ iw y ↔ x ≤ y := by rw [Int32.le_iff_toInt_le, iw_toInt hx, iw_toInt hy]
theorem rng0 : Rng 0 := by constructor <;> decide
theorem iw0 : iw 0 = (0 : Int32) := rfl
theorem iw_add (x y : Int) : iw (x + y) = iw x + iw y := Int32.ofInt_add x y
theorem iw_sub (x y : Int) : iw (x - y) = iw x - iw y := Int32.ofInt_sub x y
theorem iw_mul (x y : Int) : iw (x * y) = iw x * iw y := Int32.ofInt_mul x y
theorem iw_neg (x : Int) : iw (-x) = - iw x := Int32.ofInt_neg x
theorem rng_div {x y : Int} (hx : Rng x) (h0 : 0 ≤ x) (hy : 0 < y) : Rng (x / y) := by
  have h1 := Int.ediv_nonneg h0 (Int.le_of_lt hy)
  have h2 := Int.ediv_le_self y h0
  have h3 := hx.2
  exact ⟨by omega, by omega⟩
theorem rng_mod {x y : Int} (hy1 : Rng y) (hy : 0 < y) : Rng (x % y) := by
  have h1 := Int.emod_nonneg x (show y ≠ 0 by omega)
  have h2 := Int.emod_lt_of_pos x hy
  have h3 := hy1.2
  exact ⟨by omega, by omega⟩
theorem iw_div {x y : Int} (hx : Rng x) (h0 : 0 ≤ x) (hy1 : Rng y) (hy : 0 < y) : iw (x / y) = iw x / iw y := by
  apply Int32.toInt_inj.mp
  rw [iw_toInt (rng_div hx h0 hy), Int32.toInt_div, iw_toInt hx, iw_toInt hy1, Int.tdiv_eq_ediv_of_nonneg h0]
  have h := rng_div hx h0 hy
  have h1 := h.1
  have h2 := h.2
  rw [Int.bmod_eq_of_le (by omega) (by omega)]
theorem iw_mod {x y : Int} (hx : Rng x) (h0 : 0 ≤ x) (hy1 : Rng y) (hy : 0 < y) : iw (x % y) = iw x - iw x / iw y * iw y := by
  rw [← iw_div hx h0 hy1 hy, ← iw_mul, ← iw_sub, Int.emod_def, Int.mul_comm]
theorem iw_cmp (x y : Int64) : iw (cmpL x y) = lg_cmp x y := by
  unfold cmpL lg_cmp
  split
  · rfl
  · split <;> rfl
theorem rng_cmp (x y : Int64) : Rng (cmpL x y) := by
  unfold cmpL
  split
  · constructor <;> decide
  · split <;> constructor <;> decide
theorem iw_in {j n : Int} (hj : Rng j) (hi : inR j n) : vp_in (iw j) n.toNat ∧ (iw j).toNatClampNeg = j.toNat := by
  have h0 := iw_toInt hj
  have h1 := hi.1
  have h2 := hi.2
  refine ⟨vp_in_iff.mpr ⟨by rw [h0]; exact h1, by rw [h0]; omega⟩, ?_⟩
  show (iw j).toInt.toNat = j.toNat
  rw [h0]
theorem iw_nat {j : Int} (hj : Rng j) (h : 0 ≤ j) : ¬ (iw j < 0) ∧ (iw j).toNatClampNeg = j.toNat := by
  have h0 := iw_toInt hj
  refine ⟨fun h2 => ?_, ?_⟩
  · have := (iw_lt hj rng0).mp (by rw [iw0]; exact h2)
    omega
  · show (iw j).toInt.toNat = j.toNat
    rw [h0]
theorem ob_spec {b : Bool} {P : Prop} (h : ob b P) : b = true ∧ P := by
  cases b
  · exact h.elim
  · exact ⟨rfl, h⟩
theorem gk_spec {a : Nat} {g : Nat → Int → Prop} (h : gk a g) : g (tGK a).1 (tGK a).2 := by
  unfold gk at h
  exact h
theorem two_spec {st : List AV} {g : Int → Int → List AV → Prop} (h : two st g) : ∃ x y r, st = .inl y :: .inl x :: r ∧ g x y r := by
  unfold two at h
  split at h
  · exact ⟨_, _, _, rfl, h⟩
  · exact h.elim
theorem twoL_spec {st : List AV} {g : Int64 → Int64 → List AV → Prop} (h : twoL st g) : ∃ x y r, st = .inr (.inl y) :: .inr (.inl x) :: r ∧ g x y r := by
  unfold twoL at h
  split at h
  · exact ⟨_, _, _, rfl, h⟩
  · exact h.elim
theorem shf_spec {st : List AV} {g : Int64 → Int → List AV → Prop} (h : shf st g) : ∃ x y r, st = .inl y :: .inr (.inl x) :: r ∧ g x y r := by
  unfold shf at h
  split at h
  · exact ⟨_, _, _, rfl, h⟩
  · exact h.elim
theorem oneI_spec {st : List AV} {g : Int → List AV → Prop} (h : oneI st g) : ∃ x r, st = .inl x :: r ∧ g x r := by
  unfold oneI at h
  split at h
  · exact ⟨_, _, rfl, h⟩
  · exact h.elim
theorem oneL_spec {st : List AV} {g : Int64 → List AV → Prop} (h : oneL st g) : ∃ x r, st = .inr (.inl x) :: r ∧ g x r := by
  unfold oneL at h
  split at h
  · exact ⟨_, _, rfl, h⟩
  · exact h.elim
theorem oneA_spec {st : List AV} {g : Nat → List AV → Prop} (h : oneA st g) : ∃ x r, st = .inr (.inr (some x)) :: r ∧ g x r := by
  unfold oneA at h
  split at h
  · exact ⟨_, _, rfl, h⟩
  · exact h.elim
theorem oneR_spec {st : List AV} {g : Option Nat → List AV → Prop} (h : oneR st g) : ∃ x r, st = .inr (.inr x) :: r ∧ g x r := by
  unfold oneR at h
  split at h
  · exact ⟨_, _, rfl, h⟩
  · exact h.elim
theorem ixA_spec {st : List AV} {g : Int → Nat → List AV → Prop} (h : ixA st g) : ∃ j x r, st = .inl j :: .inr (.inr (some x)) :: r ∧ g j x r := by
  unfold ixA at h
  split at h
  · exact ⟨_, _, _, rfl, h⟩
  · exact h.elim
theorem ldI_spec {ls : LSt} {n : Nat} {g : AV → Prop} (h : ldI ls n g) : ∃ x, lget ls n = some (.inl x) ∧ g (.inl x) := by
  unfold ldI at h
  split at h
  · exact ⟨_, by assumption, h⟩
  · exact h.elim
theorem ldL_spec {ls : LSt} {n : Nat} {g : AV → Prop} (h : ldL ls n g) : ∃ x, lget ls n = some (.inr (.inl x)) ∧ g (.inr (.inl x)) := by
  unfold ldL at h
  split at h
  · exact ⟨_, by assumption, h⟩
  · exact h.elim
theorem ldA_spec {ls : LSt} {n : Nat} {g : AV → Prop} (h : ldA ls n g) : ∃ x, lget ls n = some (.inr (.inr x)) ∧ g (.inr (.inr x)) := by
  unfold ldA at h
  split at h
  · exact ⟨_, by assumption, h⟩
  · exact h.elim
/-- an instruction's length -/
def il : Instr → Nat
  | .bipush _ | .ldc _ | .iload _ | .lload _ | .aload _ | .istore _ | .lstore _ | .astore _ | .newarray _ => 2
  | .sipush _ | .ldc_w _ | .ldc2_w _ | .iinc _ _ | .goto _ | .ifCond _ _ | .if_icmp _ _ | .ifnonnull _ | .ifnull _ | .getfield _ | .putfield _ | .getstatic _ | .new _ | .anewarray _ | .invokevirtual _ | .invokestatic _ | .invokespecial _ => 3
  | _ => 1
def swOK (pc : Nat) : List Int → List Nat → Bool
  | [], [] => true
  | o :: os, t :: ts => decide ((pc : Int) + o = (t : Int)) && swOK pc os ts
  | _, _ => false
/-- a word of the tables, by its place -/
def crW : Jvm.Cond → Bool
  | .castable .. => true
  | .declares .. => true
  | .fieldLinkNest .. => true
  | .methodLinkNest .. => true
  | .arrayOver (.object _) => true
  | _ => false
def nthO {α : Type} : List α → Nat → Option α
  | [], _ => none
  | x :: _, 0 => some x
  | _ :: l, n + 1 => nthO l n
theorem nthO_mem {α : Type} {l : List α} {n : Nat} {x : α} (h : nthO l n = some x) : x ∈ l := by
  induction l generalizing n with
  | nil => cases h
  | cons a l ih =>
    cases n with
    | zero => cases h; exact List.mem_cons_self
    | succ n => exact List.mem_cons_of_mem _ (ih h)
def selW (q : Option (MethodName × Nat)) : Option Jvm.Cond := match q with
  | some q => some (.selects q.1.cls q.1 q.1)
  | none => none
/-- the i-th word of the tables -/
def tb (i : Nat) : Option Jvm.Cond := cond (Nat.blt i 69) (match i / 16 with
    | 0 => selW (nthO lw_privs_1 (i % 16))
    | 1 => selW (nthO lw_privs_2 (i % 16))
    | 2 => selW (nthO lw_privs_3 (i % 16))
    | 3 => selW (nthO lw_privs_4 (i % 16))
    | _ => selW (nthO lw_privs_5 (i % 16)))
  (match (i - 69) / 240 with
    | 0 => nthO tables_1_1 ((i - 69) % 240)
    | 1 => nthO tables_1_2 ((i - 69) % 240)
    | 2 => nthO tables_1_3 ((i - 69) % 240)
    | 3 => nthO tables_1_4 ((i - 69) % 240)
    | 4 => nthO tables_1_5 ((i - 69) % 240)
    | _ => nthO tables_1_6 ((i - 69) % 240))
theorem selW_mem {l : List (MethodName × Nat)} {n : Nat} {w : Jvm.Cond} (hl : ∀ q ∈ l, q ∈ lw_privs) (h : selW (nthO l n) = some w) : w ∈ lw_tbl := by
  unfold selW at h
  split at h
  · rename_i q hq
    cases h
    exact List.mem_append_left _ (List.mem_map.mpr ⟨q, hl q (nthO_mem hq), rfl⟩)
  · cases h
theorem tb_mem {i : Nat} {w : Jvm.Cond} (h : tb i = some w) : w ∈ lw_tbl := by
  unfold tb at h
  cases hb : Nat.blt i 69 with
  | true =>
    rw [hb] at h
    simp only [cond_true] at h
    split at h
    · exact selW_mem (fun q hq => List.mem_append_left _ hq) h
    · exact selW_mem (fun q hq => List.mem_append_right _ (List.mem_append_left _ hq)) h
    · exact selW_mem (fun q hq => List.mem_append_right _ (List.mem_append_right _ (List.mem_append_left _ hq))) h
    · exact selW_mem (fun q hq => List.mem_append_right _ (List.mem_append_right _ (List.mem_append_right _ (List.mem_append_left _ hq)))) h
    · exact selW_mem (fun q hq => List.mem_append_right _ (List.mem_append_right _ (List.mem_append_right _ (List.mem_append_right _ (hq))))) h
  | false =>
    rw [hb] at h
    simp only [cond_false] at h
    refine List.mem_append_right _ ?_
    split at h
    · exact List.mem_append_left _ (nthO_mem h)
    · exact List.mem_append_right _ (List.mem_append_left _ (nthO_mem h))
    · exact List.mem_append_right _ (List.mem_append_right _ (List.mem_append_left _ (nthO_mem h)))
    · exact List.mem_append_right _ (List.mem_append_right _ (List.mem_append_right _ (List.mem_append_left _ (nthO_mem h))))
    · exact List.mem_append_right _ (List.mem_append_right _ (List.mem_append_right _ (List.mem_append_right _ (List.mem_append_left _ (nthO_mem h)))))
    · exact List.mem_append_right _ (List.mem_append_right _ (List.mem_append_right _ (List.mem_append_right _ (List.mem_append_right _ ((nthO_mem h))))))
def wd (i : Nat) (w : Jvm.Cond) : Bool := decide (tb i = some w) && (goodWord w || crW w)
def dec1 (cc : ByteArray) (pc : Nat) (i : Instr) (nx : Nat) : Bool := decide (decode cc pc = .ok (i, il i)) && Nat.beq nx (pc + il i)
def fldB (own idx ci f ty p ne : Nat) (ax : Int) : Bool := Nat.blt f (cN ci).2.2 && (Nat.blt ci 9 && (Nat.beq ty (tFT ci f) && (decide (ax = f) && cond (Nat.beq ne 0) (wd p (.fieldLink (tNM own) idx ((cN ci).2.1 f).1 ((cN ci).2.1 f).2.1 ((cN ci).2.1 f).2.2.1)) (wd p (.fieldLinkNest (tNM own) idx ((cN ci).2.1 f).1 ((cN ci).2.1 f).2.1 ((cN ci).2.1 f).2.2.1 RX9)))))
/-- a row of code is that of the bytes (constants, locals, jumps, arithmetic) -/
def rowA (own nL : Nat) (cc : ByteArray) (pc : Nat) (i : Instr) (nx : Nat) (ax : Int) (tg : List Nat) : Bool := match i with
  | .tableswitch d lo hi offs => (match tg with
    | t :: ts => decide (decode cc pc = .ok (i, nx - pc)) && (decide ((pc : Int) + d = (t : Int)) && (swOK pc offs.toList ts && decide (hi - lo + 1 = (offs.size : Int))))
    | [] => false)
  | .goto o => dec1 cc pc i nx && decide ((pc : Int) + o = (tg0 tg : Int))
  | .ifCond _ o => dec1 cc pc i nx && decide ((pc : Int) + o = (tg0 tg : Int))
  | .if_icmp _ o => dec1 cc pc i nx && decide ((pc : Int) + o = (tg0 tg : Int))
  | .ifnonnull o => dec1 cc pc i nx && decide ((pc : Int) + o = (tg0 tg : Int))
  | .iconst n => dec1 cc pc i nx && decide (-128 ≤ n ∧ n < 128)
  | .bipush n => dec1 cc pc i nx && decide (-128 ≤ n ∧ n < 128)
  | .sipush n => dec1 cc pc i nx && decide (-32768 ≤ n ∧ n < 32768)
  | .ldc idx => dec1 cc pc i nx && (wd (tg0 tg) (.constant (tNM own) idx (iw ax)) && decide (Rng ax))
  | .ldc_w idx => dec1 cc pc i nx && (wd (tg0 tg) (.constant (tNM own) idx (iw ax)) && decide (Rng ax))
  | .ldc2_w idx => dec1 cc pc i nx && wd (tg1 tg) (.constantLong (tNM own) idx (Int64.ofNat (tg0 tg)))
  | .istore_n n => dec1 cc pc i nx && Nat.blt n nL
  | .istore n => dec1 cc pc i nx && Nat.blt n nL
  | .astore_n n => dec1 cc pc i nx && Nat.blt n nL
  | .astore n => dec1 cc pc i nx && Nat.blt n nL
  | .iinc n _ => dec1 cc pc i nx && Nat.blt n nL
  | .lstore_n n => dec1 cc pc i nx && Nat.blt (n + 1) nL
  | .lstore n => dec1 cc pc i nx && Nat.blt (n + 1) nL
  | i => dec1 cc pc i nx
theorem dec1_spec {cc : ByteArray} {pc : Nat} {i : Instr} {nx : Nat} (h : dec1 cc pc i nx = true) : decode cc pc = .ok (i, il i) ∧ nx = pc + il i := by
  unfold dec1 at h
  rw [Bool.and_eq_true] at h
  exact ⟨of_decide_eq_true h.1, Nat.eq_of_beq_eq_true h.2⟩
theorem blt_spec {a b : Nat} (h : Nat.blt a b = true) : a < b := Nat.le_of_ble_eq_true h
theorem iw_b8 {n : Int} (h : -128 ≤ n ∧ n < 128) : (Int8.ofInt n).toInt32 = iw n ∧ Rng n := by
  have hr : Rng n := ⟨by omega, by omega⟩
  refine ⟨?_, hr⟩
  apply Int32.toInt_inj.mp
  rw [iw_toInt hr, Int8.toInt_toInt32]
  have h3 : n.bmod (2 ^ 8) = n := by rw [Int.bmod_eq_of_le (by omega) (by omega)]
  exact (Int8.toInt_ofInt).trans h3
theorem iw_s16 {n : Int} (h : -32768 ≤ n ∧ n < 32768) : (Int16.ofInt n).toInt32 = iw n ∧ Rng n := by
  have hr : Rng n := ⟨by omega, by omega⟩
  refine ⟨?_, hr⟩
  apply Int32.toInt_inj.mp
  rw [iw_toInt hr, Int16.toInt_toInt32]
  have h3 : n.bmod (2 ^ 16) = n := by rw [Int.bmod_eq_of_le (by omega) (by omega)]
  exact (Int16.toInt_ofInt).trans h3
theorem swt_spec {x lo : Int} {g : Nat → Prop} {l : List Nat} (h : swt x lo g l) {j : Nat} {t : Nat} (hj : l[j]? = some t) (e : x = lo + j) : g t := by
  induction l generalizing lo j with
  | nil => simp at hj
  | cons a l ih =>
    cases j with
    | zero =>
      rw [List.getElem?_cons_zero] at hj
      cases hj
      exact h.1 (by omega)
    | succ j =>
      rw [List.getElem?_cons_succ] at hj
      exact ih h.2 hj (by omega)
theorem swOK_spec {pc : Nat} {os : List Int} {ts : List Nat} (h : swOK pc os ts = true) : os.length = ts.length ∧ ∀ j : Nat, ∀ o : Int, os[j]? = some o → ∃ t, ts[j]? = some t ∧ (pc : Int) + o = (t : Int) := by
  induction os generalizing ts with
  | nil =>
    cases ts with
    | nil => exact ⟨rfl, fun j o h => by simp at h⟩
    | cons t ts => simp [swOK] at h
  | cons o os ih =>
    cases ts with
    | nil => simp [swOK] at h
    | cons t ts =>
      simp only [swOK, Bool.and_eq_true, decide_eq_true_eq] at h
      obtain ⟨h1, h2⟩ := ih h.2
      refine ⟨by rw [List.length_cons, List.length_cons, h1], fun j o' hj => ?_⟩
      cases j with
      | zero =>
        rw [List.getElem?_cons_zero] at hj
        cases hj
        exact ⟨t, rfl, h.1⟩
      | succ j =>
        rw [List.getElem?_cons_succ] at hj
        rw [List.getElem?_cons_succ]
        exact h2 j o' hj

/-! ===== the abstract machine is right: values, the heap's picture, a state's picture ===== -/
def cv (ad : Nat → Nat) : AV → Value
  | .inl x => .int (iw x)
  | .inr (.inl y) => .long y
  | .inr (.inr r) => va_rf (r.map ad)
theorem cv_int (ad : Nat → Nat) (x : Int) : cv ad (.inl x) = .int (iw x) := rfl
theorem cv_long (ad : Nat → Nat) (x : Int64) : cv ad (.inr (.inl x)) = .long x := rfl
theorem cv_ref (ad : Nat → Nat) (a : Nat) : cv ad (.inr (.inr (some a))) = .ref (ad a) := rfl
theorem cv_nul (ad : Nat → Nat) : cv ad (.inr (.inr none)) = .null := rfl
theorem cv_cat1 (ad : Nat → Nat) (v : AV) (h : cat1 v = true) : (cv ad v).category = 1 := by
  rcases v with x | x | (_ | a) <;> first | rfl | (simp [cat1] at h)
theorem cv_cat2 (ad : Nat → Nat) (v : AV) : ((cv ad v).category == 2) = !(cat1 v) := by
  rcases v with x | x | (_ | a) <;> rfl
theorem cv_sum (ad : Nat → Nat) (st : List AV) : ((st.map (cv ad)).map fun v => v.category).sum = catS st := by
  induction st with
  | nil => rfl
  | cons v l ih =>
    simp only [List.map_cons, List.sum_cons, catS]
    rw [ih]
    rcases v with x | x | (_ | a) <;> rfl
def fv (ad : Nat → Nat) (h : Hp) (ci a k : Nat) : Value := match tFT ci k with
  | 1 => .long (hJ h a k)
  | 2 => va_rf ((hR h a k).map ad)
  | _ => .int (iw (hI h a k))
def ent (ad : Nat → Nat) (ca : Nat → ClassId) (h : Hp) (a : Nat) : va_E := match (tGK a).1 with
  | 20 => .inl (ca 0, (tGK a).2, .inl (fun j => iw (hI h a j)))
  | 21 => .inl (ca 1, (tGK a).2, .inr (.inl (fun j => hJ h a j)))
  | 22 => .inl (ca 2, (tGK a).2, .inl (fun j => iw (hI h a j)))
  | 23 => .inl (ca 3, (tGK a).2, .inr (.inr (.inr (.inr (fun j => (hR h a j).map ad)))))
  | ci => .inr (ci, (List.range (tNF ci)).map (fv ad h ci a))
def wo (ad : Nat → Nat) (ca : Nat → ClassId) (h : Hp) : va_W := (List.range (hN h)).map fun a => (ad a, ent ad ca h a)
def vok (N : Nat) : AV → Prop
  | .inl x => Rng x
  | .inr (.inr (some a)) => a < N ∨ 1000 ≤ a
  | _ => True
def hok (h : Hp) : Prop := (∀ a k, Rng (hI h a k)) ∧ (∀ a k b, hR h a k = some b → b < hN h) ∧ hN h ≤ 79
def fixed (h : Hp) : Prop := ∀ a k b, tGF a k = some b → hR h a k = some b
def Cn (D : va_G) (ca : Nat → ClassId) (A : Nat → Prop) (ad : Nat → Nat) (fx : Bool) (nL : Nat) (ls : List (Nat × AV)) (st : List AV) (h : Hp) (H : Heap) (L : Array Slot) : Prop :=
  lv_has L nL (ls.map fun q => (q.1, cv ad q.2)) ∧ va_P D vwCl (wo ad ca h) H ∧ va_D A (wo ad ca h) ∧ (∀ q ∈ ls, vok (hN h) q.2) ∧ (∀ v ∈ st, vok (hN h) v) ∧ hok h ∧ (fx = true → fixed h)
theorem rng_of (x : Int32) : Rng x.toInt := by
  have h1 := Int32.le_toInt x
  have h2 := Int32.toInt_lt x
  exact ⟨by omega, by omega⟩
theorem iw_toInt {z : Int} (h : Rng z) : (iw z).toInt = z := by
  have h1 := h.1
  have h2 := h.2
  have h3 : z.bmod (2 ^ 32) = z := by rw [Int.bmod_eq_of_le (by omega) (by omega)]
  exact (Int32.toInt_ofInt).trans h3
theorem iw_of (x : Int32) : iw x.toInt = x := Int32.ofInt_toInt x
theorem iw_inj {x y : Int} (hx : Rng x) (hy : Rng y) : iw x = iw y ↔ x = y := by
  constructor
  · intro e
    rw [← iw_toInt hx, ← iw_toInt hy, e]
  · intro e
    rw [e]
theorem iw_lt {x y : Int} (hx : Rng x) (hy : Rng y) : iw x < iw y ↔ x < y := by rw [Int32.lt_iff_toInt_lt, iw_toInt hx, iw_toInt hy]
theorem iw_le {x y : Int} (hx : Rng x) (hy : Rng y) : iw x ≤ iw y ↔ x ≤ y := by rw [Int32.le_iff_toInt_le, iw_toInt hx, iw_toInt hy]
theorem rng0 : Rng 0 := by constructor <;> decide
theorem iw0 : iw 0 = (0 : Int32) := rfl
theorem iw_add (x y : Int) : iw (x + y) = iw x + iw y := Int32.ofInt_add x y
theorem iw_sub (x y : Int) : iw (x - y) = iw x - iw y := Int32.ofInt_sub x y
theorem iw_mul (x y : Int) : iw (x * y) = iw x * iw y := Int32.ofInt_mul x y
theorem iw_neg (x : Int) : iw (-x) = - iw x := Int32.ofInt_neg x
theorem rng_div {x y : Int} (hx : Rng x) (h0 : 0 ≤ x) (hy : 0 < y) : Rng (x / y) := by
  have h1 := Int.ediv_nonneg h0 (Int.le_of_lt hy)
  have h2 := Int.ediv_le_self y h0
  have h3 := hx.2
  exact ⟨by omega, by omega⟩
theorem rng_mod {x y : Int} (hy1 : Rng y) (hy : 0 < y) : Rng (x % y) := by
  have h1 := Int.emod_nonneg x (show y ≠ 0 by omega)
  have h2 := Int.emod_lt_of_pos x hy
  have h3 := hy1.2
  exact ⟨by omega, by omega⟩
theorem iw_div {x y : Int} (hx : Rng x) (h0 : 0 ≤ x) (hy1 : Rng y) (hy : 0 < y) : iw (x / y) = iw x / iw y := by
  apply Int32.toInt_inj.mp
  rw [iw_toInt (rng_div hx h0 hy), Int32.toInt_div, iw_toInt hx, iw_toInt hy1, Int.tdiv_eq_ediv_of_nonneg h0]
  have h := rng_div hx h0 hy
  have h1 := h.1
  have h2 := h.2
  rw [Int.bmod_eq_of_le (by omega) (by omega)]
theorem iw_mod {x y : Int} (hx : Rng x) (h0 : 0 ≤ x) (hy1 : Rng y) (hy : 0 < y) : iw (x % y) = iw x - iw x / iw y * iw y := by
  rw [← iw_div hx h0 hy1 hy, ← iw_mul, ← iw_sub, Int.emod_def, Int.mul_comm]
theorem iw_cmp (x y : Int64) : iw (cmpL x y) = lg_cmp x y := by
  unfold cmpL lg_cmp
  split
  · rfl
  · split <;> rfl
theorem rng_cmp (x y : Int64) : Rng (cmpL x y) := by
  unfold cmpL
  split
  · constructor <;> decide
  · split <;> constructor <;> decide
theorem iw_in {j : Int} {n : Nat} (hj : Rng j) (hi : inR j n) : vp_in (iw j) n ∧ (iw j).toNatClampNeg = j.toNat := by
  have h0 := iw_toInt hj
  refine ⟨vp_in_iff.mpr ⟨by rw [h0]; exact hi.1, by rw [h0]; exact hi.2⟩, ?_⟩
  show (iw j).toInt.toNat = j.toNat
  rw [h0]
theorem iw_nat {j : Int} (hj : Rng j) (h : 0 ≤ j) : ¬ (iw j < 0) ∧ (iw j).toNatClampNeg = j.toNat := by
  have h0 := iw_toInt hj
  refine ⟨fun h2 => ?_, ?_⟩
  · have := (iw_lt hj rng0).mp (by rw [iw0]; exact h2)
    omega
  · show (iw j).toInt.toNat = j.toNat
    rw [h0]
theorem ob_spec {b : Bool} {P : Prop} (h : ob b P) : b = true ∧ P := by
  cases b
  · exact h.elim
  · exact ⟨rfl, h⟩
theorem two_spec {st : List AV} {g : Int → Int → List AV → Prop} (h : two st g) : ∃ x y r, st = .inl y :: .inl x :: r ∧ g x y r := by
  unfold two at h
  split at h
  · exact ⟨_, _, _, rfl, h⟩
  · exact h.elim
theorem twoL_spec {st : List AV} {g : Int64 → Int64 → List AV → Prop} (h : twoL st g) : ∃ x y r, st = .inr (.inl y) :: .inr (.inl x) :: r ∧ g x y r := by
  unfold twoL at h
  split at h
  · exact ⟨_, _, _, rfl, h⟩
  · exact h.elim
theorem oneI_spec {st : List AV} {g : Int → List AV → Prop} (h : oneI st g) : ∃ x r, st = .inl x :: r ∧ g x r := by
  unfold oneI at h
  split at h
  · exact ⟨_, _, rfl, h⟩
  · exact h.elim
theorem oneL_spec {st : List AV} {g : Int64 → List AV → Prop} (h : oneL st g) : ∃ x r, st = .inr (.inl x) :: r ∧ g x r := by
  unfold oneL at h
  split at h
  · exact ⟨_, _, rfl, h⟩
  · exact h.elim
theorem oneA_spec {st : List AV} {g : Nat → List AV → Prop} (h : oneA st g) : ∃ x r, st = .inr (.inr (some x)) :: r ∧ g x r := by
  unfold oneA at h
  split at h
  · exact ⟨_, _, rfl, h⟩
  · exact h.elim
theorem lget_mem {ls : List (Nat × AV)} {n : Nat} {v : AV} (h : lget ls n = some v) : (n, v) ∈ ls := by
  induction ls with
  | nil => simp [lget] at h
  | cons q l ih =>
    unfold lget at h
    cases hb : Nat.beq q.1 n with
    | true =>
      rw [hb] at h
      simp only [cond_true, Option.some.injEq] at h
      have := Nat.eq_of_beq_eq_true hb
      obtain ⟨a, b⟩ := q
      simp only at this h
      subst this; subst h
      exact List.mem_cons_self
    | false =>
      rw [hb] at h
      exact List.mem_cons_of_mem _ (ih h)
theorem ldI_spec {ls : List (Nat × AV)} {n : Nat} {g : AV → Prop} (h : ldI ls n g) : ∃ x, (n, .inl x) ∈ ls ∧ g (.inl x) := by
  unfold ldI at h
  split at h
  · exact ⟨_, lget_mem (by assumption), h⟩
  · exact h.elim
theorem ldL_spec {ls : List (Nat × AV)} {n : Nat} {g : AV → Prop} (h : ldL ls n g) : ∃ x, (n, .inr (.inl x)) ∈ ls ∧ g (.inr (.inl x)) := by
  unfold ldL at h
  split at h
  · exact ⟨_, lget_mem (by assumption), h⟩
  · exact h.elim
theorem ldA_spec {ls : List (Nat × AV)} {n : Nat} {g : AV → Prop} (h : ldA ls n g) : ∃ x, (n, .inr (.inr x)) ∈ ls ∧ g (.inr (.inr x)) := by
  unfold ldA at h
  split at h
  · exact ⟨_, lget_mem (by assumption), h⟩
  · exact h.elim
theorem lset1_map (ad : Nat → Nat) (ls : List (Nat × AV)) (i : Nat) (v : AV) : (lset1 ls i v).map (fun q => (q.1, cv ad q.2)) = (i, cv ad v) :: (ls.map fun q => (q.1, cv ad q.2)).filter (fun q => !(q.1 == i) && !(q.1 + 1 == i && q.2.category == 2)) := by
  unfold lset1
  rw [List.map_cons, List.filter_map]
  simp only [Function.comp_def, cv_cat2]
theorem lset2_map (ad : Nat → Nat) (ls : List (Nat × AV)) (i : Nat) (v : AV) : (lset2 ls i v).map (fun q => (q.1, cv ad q.2)) = (i, cv ad v) :: (ls.map fun q => (q.1, cv ad q.2)).filter (fun q => !(q.1 == i) && (!(q.1 == i + 1) && !(q.1 + 1 == i && q.2.category == 2))) := by
  unfold lset2
  rw [List.map_cons, List.filter_map]
  simp only [Function.comp_def, cv_cat2]
theorem lset1_mem {ls : List (Nat × AV)} {i : Nat} {v : AV} {N : Nat} (h : ∀ q ∈ ls, vok N q.2) (hv : vok N v) : ∀ q ∈ lset1 ls i v, vok N q.2 := by
  intro q hq
  rcases List.mem_cons.mp hq with rfl | hq
  · exact hv
  · exact h q (List.mem_filter.mp hq).1
theorem lset2_mem {ls : List (Nat × AV)} {i : Nat} {v : AV} {N : Nat} (h : ∀ q ∈ ls, vok N q.2) (hv : vok N v) : ∀ q ∈ lset2 ls i v, vok N q.2 := by
  intro q hq
  rcases List.mem_cons.mp hq with rfl | hq
  · exact hv
  · exact h q (List.mem_filter.mp hq).1
/-- an instruction's length -/
def il : Instr → Nat
  | .bipush _ | .ldc _ | .iload _ | .lload _ | .aload _ | .istore _ | .lstore _ | .astore _ | .newarray _ => 2
  | .sipush _ | .ldc_w _ | .ldc2_w _ | .iinc _ _ | .goto _ | .ifCond _ _ | .if_icmp _ _ | .ifnonnull _ | .ifnull _ | .getfield _ | .putfield _ | .getstatic _ | .new _ | .anewarray _ | .invokevirtual _ | .invokestatic _ | .invokespecial _ => 3
  | _ => 1
def swOK (pc : Nat) : List Int → List Nat → Bool
  | [], [] => true
  | o :: os, t :: ts => decide ((pc : Int) + o = (t : Int)) && swOK pc os ts
  | _, _ => false
/-- a row of code is that of the bytes -/
def rowB (cc : ByteArray) (pc : Nat) (r : Row) : Bool := match r.1 with
  | .tableswitch d lo hi offs => (match r.2.2 with
    | t :: ts => decide (decode cc pc = .ok (r.1, r.2.1 - pc)) && (decide ((pc : Int) + d = (t : Int)) && (swOK pc offs.toList ts && decide (hi - lo + 1 = (offs.size : Int))))
    | [] => false)
  | .goto o | .ifCond _ o | .if_icmp _ o | .ifnonnull o => decide (decode cc pc = .ok (r.1, il r.1)) && (decide (r.2.1 = pc + il r.1) && decide ((pc : Int) + o = (tg0 r.2.2 : Int)))
  | i => decide (decode cc pc = .ok (i, il i)) && decide (r.2.1 = pc + il i)

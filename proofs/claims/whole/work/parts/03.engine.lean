/-! ===== an abstract machine over numbered objects: values, heap, instructions (a condition for each of them), one method's code ===== -/
abbrev AV : Type := Int ⊕ (Int64 ⊕ Option Nat)
abbrev Hp : Type := Nat × ((Nat → Nat → Int) × ((Nat → Nat → Int64) × (Nat → Nat → Option Nat)))
def hN (h : Hp) : Nat := h.1
def hI (h : Hp) : Nat → Nat → Int := h.2.1
def hJ (h : Hp) : Nat → Nat → Int64 := h.2.2.1
def hR (h : Hp) : Nat → Nat → Option Nat := h.2.2.2
def up2 {α : Type} (f : Nat → Nat → α) (a k : Nat) (x : α) : Nat → Nat → α := fun b j => if b = a ∧ j = k then x else f b j
def setI (h : Hp) (a k : Nat) (x : Int) : Hp := (h.1, up2 h.2.1 a k x, h.2.2)
def setJ (h : Hp) (a k : Nat) (x : Int64) : Hp := (h.1, h.2.1, up2 h.2.2.1 a k x, h.2.2.2)
def setR (h : Hp) (a k : Nat) (x : Option Nat) : Hp := (h.1, h.2.1, h.2.2.1, up2 h.2.2.2 a k x)
/-- a new object or array, all zero -/
def hnew (h : Hp) : Hp := (h.1 + 1, (fun a k => if a = h.1 then 0 else h.2.1 a k), (fun a k => if a = h.1 then 0 else h.2.2.1 a k), (fun a k => if a = h.1 then none else h.2.2.2 a k))
/-- n ints of the row b from q on come into the row a from d on -/
def cpyI (h : Hp) (b q a d n : Nat) : Hp := (h.1, (fun x k => if x = a ∧ d ≤ k ∧ k < d + n then h.2.1 b (q + (k - d)) else h.2.1 x k), h.2.2)
def Rng (x : Int) : Prop := -2147483648 ≤ x ∧ x < 2147483648
abbrev iw (x : Int) : Int32 := Int32.ofInt x
def bAnd (x y : Int) : Int := (iw x &&& iw y).toInt
def bOr (x y : Int) : Int := (iw x ||| iw y).toInt
def bXor (x y : Int) : Int := (iw x ^^^ iw y).toInt
def sShl (x y : Int) : Int := (iw x <<< (iw y &&& 31)).toInt
def sShr (x y : Int) : Int := (iw x >>> (iw y &&& 31)).toInt
def lShl (x : Int64) (y : Int) : Int64 := x <<< ((iw y).toInt64 &&& 63)
def lShr (x : Int64) (y : Int) : Int64 := x >>> ((iw y).toInt64 &&& 63)
def lUshr (x : Int64) (y : Int) : Int64 := (x.toUInt64 >>> ((iw y).toInt64.toUInt64 &&& Int64.toUInt64 63)).toInt64
def i2L (x : Int) : Int64 := (iw x).toInt64
def l2I (x : Int64) : Int := x.toInt32.toInt
def cmpL (x y : Int64) : Int := if x > y then 1 else if x = y then 0 else -1
def cat1 : AV → Bool
  | .inr (.inl _) => false
  | _ => true
def catS : List AV → Nat
  | [] => 0
  | v :: l => (if cat1 v then 1 else 2) + catS l
/-- what a place of the locals holds -/
def lget : List (Nat × AV) → Nat → Option AV
  | [], _ => none
  | q :: l, i => cond (Nat.beq q.1 i) (some q.2) (lget l i)
def lset1 (l : List (Nat × AV)) (i : Nat) (v : AV) : List (Nat × AV) := (i, v) :: l.filter (fun q => !(q.1 == i) && !(q.1 + 1 == i && !(cat1 q.2)))
def lset2 (l : List (Nat × AV)) (i : Nat) (v : AV) : List (Nat × AV) := (i, v) :: l.filter (fun q => !(q.1 == i) && (!(q.1 == i + 1) && !(q.1 + 1 == i && !(cat1 q.2))))
def memb (x : Nat) : List Nat → Bool
  | [] => false
  | y :: l => cond (Nat.beq x y) true (memb x l)
def look {α : Type} : List (Nat × α) → Nat → Option α
  | [], _ => none
  | q :: l, i => cond (Nat.beq q.1 i) (some q.2) (look l i)
/-- a row of code: the place of the next one, the places that it may jump to -/
abbrev Row : Type := Instr × (Nat × List Nat)
abbrev AK : Type := Nat → List (Nat × AV) → List AV → Hp → Nat → Nat → Prop
abbrev Spec : Type := List AV → Hp → (Option AV → Hp → Prop) → (Nat → Hp → Prop) → Prop
/-- what a caller knows of a callee: cells and slots that it may make, what it asks and gives -/
abbrev CS : Type := (List AV → Hp → Nat × Nat) × Spec
def noS : CS := (fun _ _ => (0, 0), fun _ _ _ _ => False)
def zero : List AV → Hp → Nat × Nat := fun _ _ => (0, 0)
def takeA : Nat → List AV → List AV → Option (List AV × List AV)
  | 0, acc, st => some (acc, st)
  | n + 1, acc, v :: st => takeA n (v :: acc) st
  | _ + 1, _, [] => none
def putR (r : Option AV) (st : List AV) : List AV := match r with
  | none => st
  | some v => v :: st
def ob (b : Bool) (P : Prop) : Prop := cond b P False
def hfind (hd : List (Nat × (Nat × (Nat × Nat)))) (pc E : Nat) : Option Nat := match hd with
  | [] => none
  | q :: l => cond (Nat.ble q.1 pc && (Nat.blt pc q.2.1 && Nat.beq q.2.2.1 E)) (some q.2.2.2) (hfind l pc E)
def swt (x lo : Int) (g : Nat → Prop) : List Nat → Prop
  | [] => True
  | t :: l => (x = lo → g t) ∧ swt x (lo + 1) g l
section Stp
variable (fx : Bool) (own rk MC MS : Nat) (S : Nat → CS) (hd : List (Nat × (Nat × (Nat × Nat)))) (Rt : Option AV → Hp → Nat → Nat → Prop) (X : Nat → Hp → Nat → Nat → Prop) (SL : Nat) (SX : Nat → Int) (k : AK)
def ldI (ls : List (Nat × AV)) (n : Nat) (g : AV → Prop) : Prop := match lget ls n with
  | some (.inl x) => g (.inl x)
  | _ => False
def ldL (ls : List (Nat × AV)) (n : Nat) (g : AV → Prop) : Prop := match lget ls n with
  | some (.inr (.inl x)) => g (.inr (.inl x))
  | _ => False
def ldA (ls : List (Nat × AV)) (n : Nat) (g : AV → Prop) : Prop := match lget ls n with
  | some (.inr (.inr x)) => g (.inr (.inr x))
  | _ => False
def two (st : List AV) (g : Int → Int → List AV → Prop) : Prop := match st with
  | .inl y :: .inl x :: r => g x y r
  | _ => False
def twoL (st : List AV) (g : Int64 → Int64 → List AV → Prop) : Prop := match st with
  | .inr (.inl y) :: .inr (.inl x) :: r => g x y r
  | _ => False
def oneI (st : List AV) (g : Int → List AV → Prop) : Prop := match st with
  | .inl x :: r => g x r
  | _ => False
def oneL (st : List AV) (g : Int64 → List AV → Prop) : Prop := match st with
  | .inr (.inl x) :: r => g x r
  | _ => False
def oneA (st : List AV) (g : Nat → List AV → Prop) : Prop := match st with
  | .inr (.inr (some a)) :: r => g a r
  | _ => False
def br (c : ClassFile.Cond) (x y : Int) (A B : Prop) : Prop := match c with
  | .eq => (x = y → A) ∧ (x ≠ y → B)
  | .ne => (x ≠ y → A) ∧ (x = y → B)
  | .lt => (x < y → A) ∧ (y ≤ x → B)
  | .ge => (y ≤ x → A) ∧ (x < y → B)
  | .gt => (y < x → A) ∧ (x ≤ y → B)
  | .le => (x ≤ y → A) ∧ (y < x → B)
def tg0 (tg : List Nat) : Nat := match tg with
  | t :: _ => t
  | [] => 0
/-- constants, locals, the stack, jumps -/
def stpA (pc : Nat) (i : Instr) (nx : Nat) (tg : List Nat) (ls : List (Nat × AV)) (st : List AV) (h : Hp) (c s : Nat) (other : Prop) : Prop := match i with
  | .iconst n => k nx ls (.inl n :: st) h c s
  | .bipush n => k nx ls (.inl n :: st) h c s
  | .sipush n => k nx ls (.inl n :: st) h c s
  | .lconst n => k nx ls (.inr (.inl (Int64.ofNat n)) :: st) h c s
  | .ldc idx => (match look (tCON own) idx with
    | some x => k nx ls (.inl x :: st) h c s
    | none => False)
  | .ldc2_w idx => (match look (tCOL own) idx with
    | some x => k nx ls (.inr (.inl x) :: st) h c s
    | none => False)
  | .aconst_null => k nx ls (.inr (.inr none) :: st) h c s
  | .iload_n n => ldI ls n (fun v => k nx ls (v :: st) h c s)
  | .iload n => ldI ls n (fun v => k nx ls (v :: st) h c s)
  | .lload_n n => ldL ls n (fun v => k nx ls (v :: st) h c s)
  | .lload n => ldL ls n (fun v => k nx ls (v :: st) h c s)
  | .aload_n n => ldA ls n (fun v => k nx ls (v :: st) h c s)
  | .aload n => ldA ls n (fun v => k nx ls (v :: st) h c s)
  | .istore_n n => oneI st (fun x r => k nx (lset1 ls n (.inl x)) r h c s)
  | .istore n => oneI st (fun x r => k nx (lset1 ls n (.inl x)) r h c s)
  | .lstore_n n => oneL st (fun x r => k nx (lset2 ls n (.inr (.inl x))) r h c s)
  | .lstore n => oneL st (fun x r => k nx (lset2 ls n (.inr (.inl x))) r h c s)
  | .astore_n n => oneA st (fun x r => k nx (lset1 ls n (.inr (.inr (some x)))) r h c s)
  | .astore n => oneA st (fun x r => k nx (lset1 ls n (.inr (.inr (some x)))) r h c s)
  | .iinc n d => (match lget ls n with
    | some (.inl x) => Rng (x + d) ∧ k nx (lset1 ls n (.inl (x + d))) st h c s
    | _ => False)
  | .dup => (match st with
    | v :: r => ob (cat1 v) (k nx ls (v :: v :: r) h c s)
    | _ => False)
  | .dup2 => (match st with
    | .inr (.inl x) :: r => k nx ls (.inr (.inl x) :: .inr (.inl x) :: r) h c s
    | v :: w :: r => ob (cat1 v && cat1 w) (k nx ls (v :: w :: v :: w :: r) h c s)
    | _ => False)
  | .pop => (match st with
    | v :: r => ob (cat1 v) (k nx ls r h c s)
    | _ => False)
  | .goto _ => k (tg0 tg) ls st h c s
  | .ifCond q _ => oneI st (fun x r => br q x 0 (k (tg0 tg) ls r h c s) (k nx ls r h c s))
  | .if_icmp q _ => two st (fun x y r => br q x y (k (tg0 tg) ls r h c s) (k nx ls r h c s))
  | .ifnonnull _ => (match st with
    | .inr (.inr v) :: r => (∀ a, v = some a → k (tg0 tg) ls r h c s) ∧ (v = none → k nx ls r h c s)
    | _ => False)
  | .tableswitch _ lo hi _ => oneI st (fun x r => (match tg with
    | d :: l => (x < lo ∨ hi < x → k d ls r h c s) ∧ swt x lo (fun t => k t ls r h c s) l
    | [] => False))
  | _ => other
/-- arithmetic -/
def stpB (i : Instr) (nx : Nat) (ls : List (Nat × AV)) (st : List AV) (h : Hp) (c s : Nat) (other : Prop) : Prop := match i with
  | .iadd => two st (fun x y r => Rng (x + y) ∧ k nx ls (.inl (x + y) :: r) h c s)
  | .isub => two st (fun x y r => Rng (x - y) ∧ k nx ls (.inl (x - y) :: r) h c s)
  | .imul => two st (fun x y r => Rng (x * y) ∧ k nx ls (.inl (x * y) :: r) h c s)
  | .idiv => two st (fun x y r => 0 ≤ x ∧ 0 < y ∧ k nx ls (.inl (x / y) :: r) h c s)
  | .irem => two st (fun x y r => 0 ≤ x ∧ 0 < y ∧ k nx ls (.inl (x % y) :: r) h c s)
  | .iand => two st (fun x y r => k nx ls (.inl (bAnd x y) :: r) h c s)
  | .ior => two st (fun x y r => k nx ls (.inl (bOr x y) :: r) h c s)
  | .ixor => two st (fun x y r => k nx ls (.inl (bXor x y) :: r) h c s)
  | .ishl => two st (fun x y r => k nx ls (.inl (sShl x y) :: r) h c s)
  | .ishr => two st (fun x y r => k nx ls (.inl (sShr x y) :: r) h c s)
  | .ineg => oneI st (fun x r => Rng (-x) ∧ k nx ls (.inl (-x) :: r) h c s)
  | .i2l => oneI st (fun x r => k nx ls (.inr (.inl (i2L x)) :: r) h c s)
  | .l2i => oneL st (fun x r => k nx ls (.inl (l2I x) :: r) h c s)
  | .ladd => twoL st (fun x y r => k nx ls (.inr (.inl (x + y)) :: r) h c s)
  | .lsub => twoL st (fun x y r => k nx ls (.inr (.inl (x - y)) :: r) h c s)
  | .lmul => twoL st (fun x y r => k nx ls (.inr (.inl (x * y)) :: r) h c s)
  | .land => twoL st (fun x y r => k nx ls (.inr (.inl (x &&& y)) :: r) h c s)
  | .lor => twoL st (fun x y r => k nx ls (.inr (.inl (x ||| y)) :: r) h c s)
  | .lxor => twoL st (fun x y r => k nx ls (.inr (.inl (x ^^^ y)) :: r) h c s)
  | .lcmp => twoL st (fun x y r => k nx ls (.inl (cmpL x y) :: r) h c s)
  | .lneg => oneL st (fun x r => k nx ls (.inr (.inl (-x)) :: r) h c s)
  | .lshl => (match st with
    | .inl y :: .inr (.inl x) :: r => k nx ls (.inr (.inl (lShl x y)) :: r) h c s
    | _ => False)
  | .lshr => (match st with
    | .inl y :: .inr (.inl x) :: r => k nx ls (.inr (.inl (lShr x y)) :: r) h c s
    | _ => False)
  | .lushr => (match st with
    | .inl y :: .inr (.inl x) :: r => k nx ls (.inr (.inl (lUshr x y)) :: r) h c s
    | _ => False)
  | _ => other
def inR (i : Int) (n : Nat) : Prop := 0 ≤ i ∧ i < n
/-- fields and arrays -/
def stpC (i : Instr) (nx : Nat) (ls : List (Nat × AV)) (st : List AV) (h : Hp) (c s : Nat) (other : Prop) : Prop := match i with
  | .getfield idx => (match look (tFLD own) idx with
    | some q => oneA st (fun a r => ob (Nat.beq (tGK a).1 q.1) (match tFT q.1 q.2.1 with
      | 1 => k nx ls (.inr (.inl (hJ h a q.2.1)) :: r) h c s
      | 2 => (match tGF a q.2.1 with
        | some b => (cond fx (k nx ls (.inr (.inr (some b)) :: r) h c s) (hR h a q.2.1 = some b ∧ k nx ls (.inr (.inr (some b)) :: r) h c s))
        | none => k nx ls (.inr (.inr (hR h a q.2.1)) :: r) h c s)
      | _ => k nx ls (.inl (hI h a q.2.1) :: r) h c s))
    | none => False)
  | .putfield idx => (match look (tFLD own) idx with
    | some q => (match st with
      | .inl x :: .inr (.inr (some a)) :: r => ob (Nat.beq (tGK a).1 q.1) (match tFT q.1 q.2.1 with
        | 0 => k nx ls r (setI h a q.2.1 x) c s
        | 3 => (x = 0 ∨ x = 1) ∧ k nx ls r (setI h a q.2.1 x) c s
        | _ => False)
      | .inr (.inl x) :: .inr (.inr (some a)) :: r => ob (Nat.beq (tGK a).1 q.1 && Nat.beq (tFT q.1 q.2.1) 1) (k nx ls r (setJ h a q.2.1 x) c s)
      | .inr (.inr (some b)) :: .inr (.inr (some a)) :: r => ob (Nat.beq (tGK a).1 q.1 && (Nat.beq (tFT q.1 q.2.1) 2 && (Nat.blt b 1000 && cond fx ((tGF a q.2.1).isNone) true))) (k nx ls r (setR h a q.2.1 (some b)) c s)
      | _ => False)
    | none => False)
  | .iaload => (match st with
    | .inl j :: .inr (.inr (some a)) :: r => cond (Nat.beq a 1000) (inR j SL ∧ k nx ls (.inl (SX j.toNat) :: r) h c s) (ob (Nat.beq (tGK a).1 20) (inR j (tGK a).2 ∧ k nx ls (.inl (hI h a j.toNat) :: r) h c s))
    | _ => False)
  | .laload => (match st with
    | .inl j :: .inr (.inr (some a)) :: r => cond (Nat.beq a 1001) (inR j 6 ∧ k nx ls (.inr (.inl (tLB j.toNat)) :: r) h c s) (ob (Nat.beq (tGK a).1 21) (inR j (tGK a).2 ∧ k nx ls (.inr (.inl (hJ h a j.toNat)) :: r) h c s))
    | _ => False)
  | .baload => (match st with
    | .inl j :: .inr (.inr (some a)) :: r => ob (Nat.beq (tGK a).1 22) (inR j (tGK a).2 ∧ k nx ls (.inl (hI h a j.toNat) :: r) h c s)
    | _ => False)
  | .aaload => (match st with
    | .inl j :: .inr (.inr (some a)) :: r => ob (Nat.beq (tGK a).1 23) (inR j (tGK a).2 ∧ k nx ls (.inr (.inr (hR h a j.toNat)) :: r) h c s)
    | _ => False)
  | .iastore => (match st with
    | .inl x :: .inl j :: .inr (.inr (some a)) :: r => ob (Nat.beq (tGK a).1 20) (inR j (tGK a).2 ∧ k nx ls r (setI h a j.toNat x) c s)
    | _ => False)
  | .lastore => (match st with
    | .inr (.inl x) :: .inl j :: .inr (.inr (some a)) :: r => ob (Nat.beq (tGK a).1 21) (inR j (tGK a).2 ∧ k nx ls r (setJ h a j.toNat x) c s)
    | _ => False)
  | .bastore => (match st with
    | .inl x :: .inl j :: .inr (.inr (some a)) :: r => ob (Nat.beq (tGK a).1 22) (inR j (tGK a).2 ∧ (x = 0 ∨ x = 1) ∧ k nx ls r (setI h a j.toNat x) c s)
    | _ => False)
  | .aastore => (match st with
    | .inr (.inr (some b)) :: .inl j :: .inr (.inr (some a)) :: r => ob (Nat.beq (tGK a).1 23 && Nat.beq (tGK b).1 5) (inR j (tGK a).2 ∧ b < 1000 ∧ k nx ls r (setR h a j.toNat (some b)) c s)
    | _ => False)
  | .arraylength => oneA st (fun a r => cond (Nat.beq a 1000) (k nx ls (.inl (SL : Int) :: r) h c s) (ob (Nat.ble 20 (tGK a).1) (k nx ls (.inl ((tGK a).2 : Int) :: r) h c s)))
  | .newarray t => (match t, st with
    | .int, .inl n :: r => c + 1 ≤ MC ∧ s + n.toNat ≤ MS ∧ ob (Nat.beq (tGK (hN h)).1 20) (n = (tGK (hN h)).2 ∧ k nx ls (.inr (.inr (some (hN h))) :: r) (hnew h) (c + 1) (s + n.toNat))
    | .long, .inl n :: r => c + 1 ≤ MC ∧ s + n.toNat ≤ MS ∧ ob (Nat.beq (tGK (hN h)).1 21) (n = (tGK (hN h)).2 ∧ k nx ls (.inr (.inr (some (hN h))) :: r) (hnew h) (c + 1) (s + n.toNat))
    | .boolean, .inl n :: r => c + 1 ≤ MC ∧ s + n.toNat ≤ MS ∧ ob (Nat.beq (tGK (hN h)).1 22) (n = (tGK (hN h)).2 ∧ k nx ls (.inr (.inr (some (hN h))) :: r) (hnew h) (c + 1) (s + n.toNat))
    | _, _ => False)
  | .anewarray _ => (match st with
    | .inl n :: r => c + 1 ≤ MC ∧ s + n.toNat ≤ MS ∧ ob (Nat.beq (tGK (hN h)).1 23) (n = (tGK (hN h)).2 ∧ k nx ls (.inr (.inr (some (hN h))) :: r) (hnew h) (c + 1) (s + n.toNat))
    | _ => False)
  | .getstatic _ => k nx ls (.inr (.inr (some 1001)) :: st) h c s
  | _ => other
/-- a call of the method n: its words -/
def doC (pc nx : Nat) (ls : List (Nat × AV)) (h : Hp) (c s : Nat) (n : Nat) (as rest : List AV) : Prop :=
  ob (Nat.ble (catS rest) 8) (c + ((S n).1 as h).1 ≤ MC ∧ s + ((S n).1 as h).2 ≤ MS ∧ (S n).2 as h (fun r h1 => k nx ls (putR r rest) h1 (c + ((S n).1 as h).1) (s + ((S n).1 as h).2))
    (fun E h1 => match hfind hd pc E with
      | some t => k t [] [.inr (.inr (some 1003))] h1 (c + ((S n).1 as h).1) (s + ((S n).1 as h).2)
      | none => X E h1 (c + ((S n).1 as h).1) (s + ((S n).1 as h).2)))
/-- calls, ends, what is made and thrown -/
def stpD (pc : Nat) (i : Instr) (nx : Nat) (tg : List Nat) (ls : List (Nat × AV)) (st : List AV) (h : Hp) (c s : Nat) : Prop := match i with
  | .invokevirtual idx => (match look (tCALL own) idx with
    | some q => (match takeA (tMP q.2.1).1 [] st with
      | some (as, .inr (.inr (some a)) :: rest) => ob (Nat.beq q.1 0 && Nat.beq (tGK a).1 (tMP q.2.1).2) (doC MC MS S hd X k pc nx ls h c s q.2.1 (.inr (.inr (some a)) :: as) rest)
      | _ => False)
    | none => False)
  | .invokestatic idx => (match look (tCALL own) idx with
    | some q => (match takeA (tMP q.2.1).1 [] st with
      | some (as, rest) => ob (Nat.beq q.1 1) (doC MC MS S hd X k pc nx ls h c s q.2.1 as rest)
      | _ => False)
    | none => (match st with
      | .inl n :: .inl d :: .inr (.inr (some a)) :: .inl q :: .inr (.inr (some b)) :: r => ob (Nat.beq (tGK a).1 20 && (Nat.beq (tGK b).1 20 && Nat.ble (catS r) 8)) (0 ≤ n ∧ 0 ≤ d ∧ 0 ≤ q ∧ q + n ≤ (tGK b).2 ∧ d + n ≤ (tGK a).2 ∧ k nx ls r (cpyI h b q.toNat a d.toNat n.toNat) c s)
      | _ => False))
  | .invokespecial idx => (match look (tCALL own) idx with
    | some q => (match takeA (tMP q.2.1).1 [] st with
      | some (as, .inr (.inr (some a)) :: rest) => ob (Nat.beq q.1 2 && Nat.beq (tGK a).1 (tMP q.2.1).2) (doC MC MS S hd X k pc nx ls h c s q.2.1 (.inr (.inr (some a)) :: as) rest)
      | _ => False)
    | none => oneA st (fun _ r => ob (Nat.ble (catS r) 8) (k nx ls r h c s)))
  | .new idx => (match tg with
    | [] => (match look (tNEW own) idx with
      | some q => c + 1 ≤ MC ∧ s + (tNF q) ≤ MS ∧ ob (!fx && Nat.beq (tGK (hN h)).1 q) (k nx ls (.inr (.inr (some (hN h))) :: st) (hnew h) (c + 1) (s + (tNF q)))
      | none => False)
    | E :: _ => c + 1 ≤ MC ∧ s + 6 ≤ MS ∧ ob (Nat.ble (catS st) 8) (X E h (c + 1) (s + 6)))
  | .ireturn => (match st with
    | [.inl x] => (match rk with
      | 1 => Rt (some (.inl x)) h c s
      | 2 => (x = 0 ∨ x = 1) ∧ Rt (some (.inl x)) h c s
      | _ => False)
    | _ => False)
  | .lreturn => (match st with
    | [.inr (.inl x)] => ob (Nat.beq rk 3) (Rt (some (.inr (.inl x))) h c s)
    | _ => False)
  | .areturn => (match st with
    | [.inr (.inr x)] => ob (Nat.beq rk 4) (Rt (some (.inr (.inr x))) h c s)
    | _ => False)
  | .return_ => (match st with
    | [] => ob (Nat.beq rk 0) (Rt none h c s)
    | _ => False)
  | _ => False
def stp (pc : Nat) (i : Instr) (nx : Nat) (tg : List Nat) (ls : List (Nat × AV)) (st : List AV) (h : Hp) (c s : Nat) : Prop :=
  stpA own k pc i nx tg ls st h c s (stpB k i nx ls st h c s (stpC fx own MC MS SL SX k i nx ls st h c s (stpD fx own rk MC MS S hd Rt X k pc i nx tg ls st h c s)))
end Stp
/-- from the place pc on, till the places of cut, where K must hold: the condition that all goes well -/
def aw (fx : Bool) (own rk MC MS : Nat) (S : Nat → CS) (hd : List (Nat × (Nat × (Nat × Nat)))) (Rt : Option AV → Hp → Nat → Nat → Prop) (X : Nat → Hp → Nat → Nat → Prop) (SL : Nat) (SX : Nat → Int) (code : List (Nat × Row)) (cut : List Nat) (K : AK) : Nat → AK
  | 0, _, _, _, _, _, _ => False
  | n + 1, pc, ls, st, h, c, s => match look code pc with
    | none => False
    | some r => stp fx own rk MC MS S hd Rt X SL SX (fun pc1 ls1 st1 h1 c1 s1 => cond (memb pc1 cut) (K pc1 ls1 st1 h1 c1 s1) (aw fx own rk MC MS S hd Rt X SL SX code cut K n pc1 ls1 st1 h1 c1 s1)) pc r.1 r.2.1 r.2.2 ls st h c s

/-! ===== an abstract machine over numbered objects: values, heap, instructions (a condition for each of them), one method's code ===== -/
abbrev AV : Type := Int ⊕ (Int64 ⊕ Option Nat)
/-- the locals, by their places -/
abbrev LSt : Type := List (Option AV)
abbrev Hp : Type := Nat × ((Nat → Int → Int) × ((Nat → Int → Int64) × (Nat → Int → Option Nat)))
def hN (h : Hp) : Nat := h.1
def hI (h : Hp) : Nat → Int → Int := h.2.1
def hJ (h : Hp) : Nat → Int → Int64 := h.2.2.1
def hR (h : Hp) : Nat → Int → Option Nat := h.2.2.2
def up {α : Type} (f : Int → α) (k : Int) (x : α) : Int → α := fun j => if j = k then x else f j
/-- a row anew -/
def rI (h : Hp) (a : Nat) (f : Int → Int) : Hp := (h.1, (fun b => if b = a then f else h.2.1 b), h.2.2)
def rJ (h : Hp) (a : Nat) (f : Int → Int64) : Hp := (h.1, h.2.1, (fun b => if b = a then f else h.2.2.1 b), h.2.2.2)
def rR (h : Hp) (a : Nat) (f : Int → Option Nat) : Hp := (h.1, h.2.1, h.2.2.1, fun b => if b = a then f else h.2.2.2 b)
/-- a new object or array, all zero -/
def hnew (h : Hp) : Hp := (h.1 + 1, (fun a => if a = h.1 then (fun _ => 0) else h.2.1 a), (fun a => if a = h.1 then (fun _ => 0) else h.2.2.1 a), fun a => if a = h.1 then (fun _ => none) else h.2.2.2 a)
/-- n ints of the row b from q on come into the row a from d on -/
def cpyI (h : Hp) (b : Nat) (q : Int) (a : Nat) (d n : Int) : Hp := rI h a (fun k => if d ≤ k ∧ k < d + n then hI h b (q + (k - d)) else hI h a k)
abbrev Rng (x : Int) : Prop := -2147483648 ≤ x ∧ x < 2147483648
abbrev iw (x : Int) : Int32 := Int32.ofInt x
def bAnd (x y : Int) : Int := (iw x &&& iw y).toInt
def bOr (x y : Int) : Int := (iw x ||| iw y).toInt
def bXor (x y : Int) : Int := (iw x ^^^ iw y).toInt
def sShl (x y : Int) : Int := (iw x <<< (iw y &&& 31)).toInt
def sShr (x y : Int) : Int := (iw x >>> (iw y &&& 31)).toInt
def lShl (x : Int64) (y : Int) : Int64 := x <<< ((iw y).toInt64 &&& 63)
def lShr (x : Int64) (y : Int) : Int64 := x >>> ((iw y).toInt64 &&& 63)
def lUshr (x : Int64) (y : Int) : Int64 := (x.toUInt64 >>> ((iw y).toInt64.toUInt64 &&& Int64.toUInt64 63)).toInt64
def i2L (x : Int) : Int64 := (iw x).toInt64
def l2I (x : Int64) : Int := x.toInt32.toInt
def cmpL (x y : Int64) : Int := if x > y then 1 else if x = y then 0 else -1
def cat1 : AV → Bool
  | .inr (.inl _) => false
  | _ => true
def catS : List AV → Nat
  | [] => 0
  | v :: l => (if cat1 v then 1 else 2) + catS l
def isJ : Option AV → Bool
  | some (.inr (.inl _)) => true
  | _ => false
/-- what a place of the locals holds -/
def lget : LSt → Nat → Option AV
  | [], _ => none
  | a :: _, 0 => a
  | _ :: l, n + 1 => lget l n
def lkill : LSt → LSt
  | [] => []
  | _ :: l => none :: l
def lset1 : LSt → Nat → AV → LSt
  | [], _, _ => []
  | _ :: l, 0, v => some v :: l
  | a :: l, n + 1, v => cond (Nat.beq n 0 && isJ a) none a :: lset1 l n v
def lset2 : LSt → Nat → AV → LSt
  | [], _, _ => []
  | _ :: l, 0, v => some v :: lkill l
  | a :: l, n + 1, v => cond (Nat.beq n 0 && isJ a) none a :: lset2 l n v
/-- the locals as a call begins: the arguments, then nothing -/
def lent : List AV → LSt
  | [] => []
  | v :: l => some v :: cond (cat1 v) (lent l) (none :: lent l)
def lpad : LSt → Nat → LSt
  | [], n => List.replicate n none
  | a :: l, n => a :: lpad l (n - 1)
/-- where an exception is caught: what is no object of ours is not held on to -/
def lnear : Option AV → Option AV
  | some (.inr (.inr (some a))) => cond (Nat.blt a 63) (some (.inr (.inr (some a)))) none
  | x => x
def ldrop : LSt → LSt
  | [] => []
  | x :: l => lnear x :: ldrop l
/-- the values of the places that live -/
def lsel (ls : LSt) : List Nat → Option (List AV)
  | [] => some []
  | i :: is => match lget ls i with
    | some v => (match lsel ls is with
      | some l => some (v :: l)
      | none => none)
    | none => none
/-- locals that hold these values at these places alone -/
def lmk (i : Nat) : Nat → List Nat → List AV → LSt
  | 0, _, _ => []
  | n + 1, j :: js, v :: vs => cond (Nat.beq i j) (some v :: lmk (i + 1) n js vs) (none :: lmk (i + 1) n (j :: js) (v :: vs))
  | n + 1, _, _ => none :: lmk (i + 1) n [] []
def look {α : Type} : List (Nat × α) → Nat → Option α
  | [], _ => none
  | q :: l, i => cond (Nat.beq q.1 i) (some q.2) (look l i)
/-- a row of code: the place of the next one, and what is known of it: the places that it may jump to, the field, the method .. -/
abbrev Row : Type := Instr × (Nat × (Int × List Nat))
/-- the code from a place on -/
def seek : List (Nat × Row) → Nat → List (Nat × Row)
  | [], _ => []
  | q :: l, i => cond (Nat.beq q.1 i) (q :: l) (seek l i)
abbrev AK : Type := Nat → LSt → List AV → Hp → Nat → Nat → Prop
abbrev Spec : Type := List AV → Hp → (Option AV → Hp → Prop) → (Nat → Hp → Prop) → Prop
/-- what a caller knows of a callee: cells and slots that it may make, how high it stands; what it asks and gives -/
abbrev CS : Type := (List AV → Hp → Nat × (Nat × Nat)) × Spec
def noS : CS := (fun _ _ => (0, (0, 0)), fun _ _ _ _ => False)
def takeA : Nat → List AV → List AV → Option (List AV × List AV)
  | 0, acc, st => some (acc, st)
  | n + 1, acc, v :: st => takeA n (v :: acc) st
  | _ + 1, _, [] => none
def putR (r : Option AV) (st : List AV) : List AV := match r with
  | none => st
  | some v => v :: st
def ob (b : Bool) (P : Prop) : Prop := cond b P False
def hfind (hd : List (Nat × (Nat × (Nat × Nat)))) (pc E : Nat) : Option Nat := match hd with
  | [] => none
  | q :: l => cond (Nat.ble q.1 pc && (Nat.blt pc q.2.1 && Nat.beq q.2.2.1 E)) (some q.2.2.2) (hfind l pc E)
def swt (x lo : Int) (g : Nat → Prop) : List Nat → Prop
  | [] => True
  | t :: l => (x = lo → g t) ∧ swt x (lo + 1) g l
section Stp
variable (fx : Bool) (rk MC MS HT : Nat) (S : Nat → CS) (hd : List (Nat × (Nat × (Nat × Nat)))) (Rt : Option AV → Hp → Prop) (X : Nat → Hp → Prop) (SL : Option Int) (SX : Int → Int) (k : AK)
def ldI (ls : LSt) (n : Nat) (g : AV → Prop) : Prop := match lget ls n with
  | some (.inl x) => g (.inl x)
  | _ => False
def ldL (ls : LSt) (n : Nat) (g : AV → Prop) : Prop := match lget ls n with
  | some (.inr (.inl x)) => g (.inr (.inl x))
  | _ => False
def ldA (ls : LSt) (n : Nat) (g : AV → Prop) : Prop := match lget ls n with
  | some (.inr (.inr x)) => g (.inr (.inr x))
  | _ => False
def two (st : List AV) (g : Int → Int → List AV → Prop) : Prop := match st with
  | .inl y :: .inl x :: r => g x y r
  | _ => False
def twoL (st : List AV) (g : Int64 → Int64 → List AV → Prop) : Prop := match st with
  | .inr (.inl y) :: .inr (.inl x) :: r => g x y r
  | _ => False
def shf (st : List AV) (g : Int64 → Int → List AV → Prop) : Prop := match st with
  | .inl y :: .inr (.inl x) :: r => g x y r
  | _ => False
def oneI (st : List AV) (g : Int → List AV → Prop) : Prop := match st with
  | .inl x :: r => g x r
  | _ => False
def oneL (st : List AV) (g : Int64 → List AV → Prop) : Prop := match st with
  | .inr (.inl x) :: r => g x r
  | _ => False
def oneA (st : List AV) (g : Nat → List AV → Prop) : Prop := match st with
  | .inr (.inr (some a)) :: r => g a r
  | _ => False
def oneR (st : List AV) (g : Option Nat → List AV → Prop) : Prop := match st with
  | .inr (.inr a) :: r => g a r
  | _ => False
def ixA (st : List AV) (g : Int → Nat → List AV → Prop) : Prop := match st with
  | .inl j :: .inr (.inr (some a)) :: r => g j a r
  | _ => False
def br (c : ClassFile.Cond) (x y : Int) (A B : Prop) : Prop := match c with
  | .eq => (x = y → A) ∧ (x ≠ y → B)
  | .ne => (x ≠ y → A) ∧ (x = y → B)
  | .lt => (x < y → A) ∧ (y ≤ x → B)
  | .ge => (y ≤ x → A) ∧ (x < y → B)
  | .gt => (y < x → A) ∧ (x ≤ y → B)
  | .le => (x ≤ y → A) ∧ (y < x → B)
def tg0 (tg : List Nat) : Nat := match tg with
  | t :: _ => t
  | [] => 0
def tg1 (tg : List Nat) : Nat := match tg with
  | _ :: t :: _ => t
  | _ => 0
/-- constants, locals, the stack, jumps -/
def stpA (i : Instr) (nx : Nat) (ax : Int) (tg : List Nat) (ls : LSt) (st : List AV) (h : Hp) (c s : Nat) (other : Prop) : Prop := match i with
  | .iconst n => k nx ls (.inl n :: st) h c s
  | .bipush n => k nx ls (.inl n :: st) h c s
  | .sipush n => k nx ls (.inl n :: st) h c s
  | .lconst n => cond (Nat.beq n 0) (k nx ls (.inr (.inl 0) :: st) h c s) (k nx ls (.inr (.inl 1) :: st) h c s)
  | .ldc _ => k nx ls (.inl ax :: st) h c s
  | .ldc_w _ => k nx ls (.inl ax :: st) h c s
  | .ldc2_w _ => k nx ls (.inr (.inl (Int64.ofNat (tg0 tg))) :: st) h c s
  | .iload_n n => ldI ls n (fun v => k nx ls (v :: st) h c s)
  | .iload n => ldI ls n (fun v => k nx ls (v :: st) h c s)
  | .lload_n n => ldL ls n (fun v => k nx ls (v :: st) h c s)
  | .lload n => ldL ls n (fun v => k nx ls (v :: st) h c s)
  | .aload_n n => ldA ls n (fun v => k nx ls (v :: st) h c s)
  | .aload n => ldA ls n (fun v => k nx ls (v :: st) h c s)
  | .istore_n n => oneI st (fun x r => k nx (lset1 ls n (.inl x)) r h c s)
  | .istore n => oneI st (fun x r => k nx (lset1 ls n (.inl x)) r h c s)
  | .lstore_n n => oneL st (fun x r => k nx (lset2 ls n (.inr (.inl x))) r h c s)
  | .lstore n => oneL st (fun x r => k nx (lset2 ls n (.inr (.inl x))) r h c s)
  | .astore_n n => oneR st (fun x r => k nx (lset1 ls n (.inr (.inr x))) r h c s)
  | .astore n => oneR st (fun x r => k nx (lset1 ls n (.inr (.inr x))) r h c s)
  | .iinc n d => (match lget ls n with
    | some (.inl x) => Rng (x + d) ∧ k nx (lset1 ls n (.inl (x + d))) st h c s
    | _ => False)
  | .dup => (match st with
    | v :: r => ob (cat1 v) (k nx ls (v :: v :: r) h c s)
    | _ => False)
  | .dup2 => (match st with
    | .inl x :: w :: r => ob (cat1 w) (k nx ls (.inl x :: w :: .inl x :: w :: r) h c s)
    | _ => False)
  | .pop => (match st with
    | v :: r => ob (cat1 v) (k nx ls r h c s)
    | _ => False)
  | .goto _ => k (tg0 tg) ls st h c s
  | .ifCond q _ => oneI st (fun x r => br q x 0 (k (tg0 tg) ls r h c s) (k nx ls r h c s))
  | .if_icmp q _ => two st (fun x y r => br q x y (k (tg0 tg) ls r h c s) (k nx ls r h c s))
  | .ifnonnull _ => (match st with
    | .inr (.inr v) :: r => (v ≠ none → k (tg0 tg) ls r h c s) ∧ (v = none → k nx ls r h c s)
    | _ => False)
  | .tableswitch _ lo hi _ => oneI st (fun x r => (match tg with
    | d :: l => (x < lo ∨ hi < x → k d ls r h c s) ∧ swt x lo (fun t => k t ls r h c s) l
    | [] => False))
  | _ => other
/-- arithmetic -/
def stpB (i : Instr) (nx : Nat) (ls : LSt) (st : List AV) (h : Hp) (c s : Nat) (other : Prop) : Prop := match i with
  | .iadd => two st (fun x y r => Rng (x + y) ∧ k nx ls (.inl (x + y) :: r) h c s)
  | .isub => two st (fun x y r => Rng (x - y) ∧ k nx ls (.inl (x - y) :: r) h c s)
  | .imul => two st (fun x y r => Rng (x * y) ∧ k nx ls (.inl (x * y) :: r) h c s)
  | .idiv => two st (fun x y r => (0 ≤ x ∧ 0 < y) ∧ k nx ls (.inl (x / y) :: r) h c s)
  | .irem => two st (fun x y r => (0 ≤ x ∧ 0 < y) ∧ k nx ls (.inl (x % y) :: r) h c s)
  | .iand => two st (fun x y r => k nx ls (.inl (bAnd x y) :: r) h c s)
  | .ior => two st (fun x y r => k nx ls (.inl (bOr x y) :: r) h c s)
  | .ixor => two st (fun x y r => k nx ls (.inl (bXor x y) :: r) h c s)
  | .ishl => two st (fun x y r => k nx ls (.inl (sShl x y) :: r) h c s)
  | .ishr => two st (fun x y r => k nx ls (.inl (sShr x y) :: r) h c s)
  | .ineg => oneI st (fun x r => Rng (-x) ∧ k nx ls (.inl (-x) :: r) h c s)
  | .i2l => oneI st (fun x r => k nx ls (.inr (.inl (i2L x)) :: r) h c s)
  | .l2i => oneL st (fun x r => k nx ls (.inl (l2I x) :: r) h c s)
  | .ladd => twoL st (fun x y r => k nx ls (.inr (.inl (x + y)) :: r) h c s)
  | .lsub => twoL st (fun x y r => k nx ls (.inr (.inl (x - y)) :: r) h c s)
  | .lmul => twoL st (fun x y r => k nx ls (.inr (.inl (x * y)) :: r) h c s)
  | .land => twoL st (fun x y r => k nx ls (.inr (.inl (x &&& y)) :: r) h c s)
  | .lor => twoL st (fun x y r => k nx ls (.inr (.inl (x ||| y)) :: r) h c s)
  | .lxor => twoL st (fun x y r => k nx ls (.inr (.inl (x ^^^ y)) :: r) h c s)
  | .lcmp => twoL st (fun x y r => k nx ls (.inl (cmpL x y) :: r) h c s)
  | .lneg => oneL st (fun x r => k nx ls (.inr (.inl (-x)) :: r) h c s)
  | .lshl => shf st (fun x y r => k nx ls (.inr (.inl (lShl x y)) :: r) h c s)
  | .lshr => shf st (fun x y r => k nx ls (.inr (.inl (lShr x y)) :: r) h c s)
  | .lushr => shf st (fun x y r => k nx ls (.inr (.inl (lUshr x y)) :: r) h c s)
  | _ => other
abbrev inR (i n : Int) : Prop := 0 ≤ i ∧ i < n
def gk (a : Nat) (g : Nat → Int → Prop) : Prop := match tGK a with
  | (kd, len) => g kd len
/-- fields -/
def stpF (i : Instr) (nx : Nat) (ax : Int) (tg : List Nat) (ls : LSt) (st : List AV) (h : Hp) (c s : Nat) (other : Prop) : Prop := match i with
  | .getfield _ => (match tg with
    | ci :: f :: ty :: _ => oneA st (fun a r => ob (Nat.beq (tGK a).1 ci) (match ty with
      | 1 => k nx ls (.inr (.inl (hJ h a ax)) :: r) h c s
      | 2 => (match fx, tGF a f with
        | true, some b => k nx ls (.inr (.inr (some b)) :: r) h c s
        | _, _ => k nx ls (.inr (.inr (hR h a ax)) :: r) h c s)
      | _ => k nx ls (.inl (hI h a ax) :: r) h c s))
    | _ => False)
  | .putfield _ => (match tg with
    | ci :: f :: ty :: _ => (match st with
      | .inl x :: .inr (.inr (some a)) :: r => ob (Nat.beq (tGK a).1 ci) (match ty with
        | 0 => k nx ls r (rI h a (up (hI h a) ax x)) c s
        | 3 => (x = 0 ∨ x = 1) ∧ k nx ls r (rI h a (up (hI h a) ax x)) c s
        | _ => False)
      | .inr (.inl x) :: .inr (.inr (some a)) :: r => ob (Nat.beq (tGK a).1 ci && Nat.beq ty 1) (k nx ls r (rJ h a (up (hJ h a) ax x)) c s)
      | .inr (.inr (some b)) :: .inr (.inr (some a)) :: r => ob (Nat.beq (tGK a).1 ci && (Nat.beq ty 2 && (Nat.blt b 1000 && cond fx ((tGF a f).isNone) true))) (k nx ls r (rR h a (up (hR h a) ax (some b))) c s)
      | _ => False)
    | _ => False)
  | .getstatic _ => k nx ls (.inr (.inr (some 1001)) :: st) h c s
  | _ => other
/-- arrays -/
def stpC (i : Instr) (nx : Nat) (ls : LSt) (st : List AV) (h : Hp) (c s : Nat) (other : Prop) : Prop := match i with
  | .iaload => ixA st (fun j a r => cond (Nat.beq a 1000) (match SL with
    | some n => inR j n ∧ k nx ls (.inl (SX j) :: r) h c s
    | none => False) (gk a (fun kd len => ob (Nat.beq kd 20) (inR j len ∧ k nx ls (.inl (hI h a j) :: r) h c s))))
  | .laload => ixA st (fun j a r => cond (Nat.beq a 1001) (inR j 6 ∧ k nx ls (.inr (.inl (tLB j.toNat)) :: r) h c s) (gk a (fun kd len => ob (Nat.beq kd 21) (inR j len ∧ k nx ls (.inr (.inl (hJ h a j)) :: r) h c s))))
  | .baload => ixA st (fun j a r => gk a (fun kd len => ob (Nat.beq kd 22) (inR j len ∧ k nx ls (.inl (hI h a j) :: r) h c s)))
  | .aaload => ixA st (fun j a r => gk a (fun kd len => ob (Nat.beq kd 23) (inR j len ∧ k nx ls (.inr (.inr (hR h a j)) :: r) h c s)))
  | .iastore => oneI st (fun x q => ixA q (fun j a r => gk a (fun kd len => ob (Nat.beq kd 20) (inR j len ∧ k nx ls r (rI h a (up (hI h a) j x)) c s))))
  | .lastore => oneL st (fun x q => ixA q (fun j a r => gk a (fun kd len => ob (Nat.beq kd 21) (inR j len ∧ k nx ls r (rJ h a (up (hJ h a) j x)) c s))))
  | .bastore => oneI st (fun x q => ixA q (fun j a r => gk a (fun kd len => ob (Nat.beq kd 22) (inR j len ∧ (x = 0 ∨ x = 1) ∧ k nx ls r (rI h a (up (hI h a) j x)) c s))))
  | .aastore => oneA st (fun b q => ixA q (fun j a r => gk a (fun kd len => ob (Nat.beq kd 23 && Nat.beq (tGK b).1 5) (inR j len ∧ k nx ls r (rR h a (up (hR h a) j (some b))) c s))))
  | .arraylength => oneA st (fun a r => cond (Nat.beq a 1000) (match SL with
    | some n => k nx ls (.inl n :: r) h c s
    | none => False) (gk a (fun kd len => ob (Nat.ble 20 kd && Nat.ble kd 23) (k nx ls (.inl len :: r) h c s))))
  | .newarray t => oneI st (fun n r => ob (Nat.blt c MC && (Nat.ble (s + (tGK (hN h)).2.toNat) MS && (match t with
    | .int => Nat.beq (tGK (hN h)).1 20
    | .long => Nat.beq (tGK (hN h)).1 21
    | .boolean => Nat.beq (tGK (hN h)).1 22
    | _ => false))) (n = (tGK (hN h)).2 ∧ k nx ls (.inr (.inr (some (hN h))) :: r) (hnew h) (c + 1) (s + (tGK (hN h)).2.toNat)))
  | .anewarray _ => oneI st (fun n r => ob (Nat.blt c MC && (Nat.ble (s + (tGK (hN h)).2.toNat) MS && Nat.beq (tGK (hN h)).1 23)) (n = (tGK (hN h)).2 ∧ k nx ls (.inr (.inr (some (hN h))) :: r) (hnew h) (c + 1) (s + (tGK (hN h)).2.toNat)))
  | _ => other
/-- a call of the method n: its words -/
def doC (pc nx : Nat) (ls : LSt) (h : Hp) (c s : Nat) (n : Nat) (as rest : List AV) : Prop :=
  ob (Nat.ble (catS rest) 8 && (Nat.ble (c + ((S n).1 as h).1) MC && (Nat.ble (s + ((S n).1 as h).2.1) MS && Nat.blt ((S n).1 as h).2.2 HT))) ((S n).2 as h (fun r h1 => k nx ls (putR r rest) h1 (c + ((S n).1 as h).1) (s + ((S n).1 as h).2.1))
    (fun E h1 => match hfind hd pc E with
      | some t => k t (ldrop ls) [.inr (.inr (some 1003))] h1 (c + ((S n).1 as h).1) (s + ((S n).1 as h).2.1)
      | none => ob hd.isEmpty (X E h1)))
/-- calls, ends, what is made and thrown -/
def stpD (pc : Nat) (i : Instr) (nx : Nat) (tg : List Nat) (ls : LSt) (st : List AV) (h : Hp) (c s : Nat) (other : Prop) : Prop := match i with
  | .invokevirtual _ => (match tg with
    | _ :: n :: np :: rc :: _ => (match takeA np [] st with
      | some (as, .inr (.inr (some a)) :: rest) => ob (Nat.beq (tGK a).1 rc) (doC MC MS HT S hd X k pc nx ls h c s n (.inr (.inr (some a)) :: as) rest)
      | _ => False)
    | _ => False)
  | .invokestatic _ => (match tg with
    | _ :: n :: np :: _ => (match takeA np [] st with
      | some (as, rest) => doC MC MS HT S hd X k pc nx ls h c s n as rest
      | _ => False)
    | [q, _] => two st (fun x y r => ob (Nat.ble (catS r) 8 && (Nat.ble c MC && Nat.ble s MS)) (cond (Nat.beq q 0) ((x < y → k nx ls (.inl y :: r) h c s) ∧ (y ≤ x → k nx ls (.inl x :: r) h c s)) ((y < x → k nx ls (.inl y :: r) h c s) ∧ (x ≤ y → k nx ls (.inl x :: r) h c s))))
    | [_] => (match st with
      | .inl n :: .inl d :: .inr (.inr (some a)) :: .inl q :: .inr (.inr (some b)) :: r => gk a (fun kd len => gk b (fun kd2 len2 => ob (Nat.beq kd 20 && (Nat.beq kd2 20 && Nat.ble (catS r) 8)) ((0 ≤ n ∧ 0 ≤ d ∧ 0 ≤ q ∧ q + n ≤ len2 ∧ d + n ≤ len) ∧ k nx ls r (cpyI h b q a d n) c s)))
      | _ => False)
    | _ => False)
  | .invokespecial _ => (match tg with
    | _ :: n :: np :: rc :: _ => (match takeA np [] st with
      | some (as, .inr (.inr (some a)) :: rest) => ob (Nat.beq (tGK a).1 rc) (doC MC MS HT S hd X k pc nx ls h c s n (.inr (.inr (some a)) :: as) rest)
      | _ => False)
    | [_] => oneA st (fun _ r => ob (Nat.ble (catS r) 8) (k nx ls r h c s))
    | _ => False)
  | .new _ => (match tg with
    | [q, _] => ob (Nat.blt c MC && (Nat.ble (s + (cN q).2.2) MS && (!fx && Nat.beq (tGK (hN h)).1 q))) (k nx ls (.inr (.inr (some (hN h))) :: st) (hnew h) (c + 1) (s + (cN q).2.2))
    | _ => other)
  | _ => other
/-- ends, what is thrown -/
def stpE (i : Instr) (tg : List Nat) (st : List AV) (h : Hp) (c s : Nat) : Prop := match i with
  | .new _ => (match tg with
    | E :: _ :: _ :: _ => ob (hd.isEmpty && (Nat.blt c MC && (Nat.ble (s + 6) MS && Nat.ble (catS st) 8))) (X E h)
    | _ => False)
  | .ireturn => (match st with
    | [.inl x] => ob (Nat.ble c MC && Nat.ble s MS) (match rk with
      | 1 => Rt (some (.inl x)) h
      | 2 => (x = 0 ∨ x = 1) ∧ Rt (some (.inl x)) h
      | _ => False)
    | _ => False)
  | .lreturn => (match st with
    | [.inr (.inl x)] => ob (Nat.beq rk 3 && (Nat.ble c MC && Nat.ble s MS)) (Rt (some (.inr (.inl x))) h)
    | _ => False)
  | .areturn => (match st with
    | [.inr (.inr (some x))] => ob (Nat.blt x 63 && (Nat.beq rk 4 && (Nat.ble c MC && Nat.ble s MS))) (Rt (some (.inr (.inr (some x)))) h)
    | _ => False)
  | .return_ => (match st with
    | [] => ob (Nat.beq rk 0 && (Nat.ble c MC && Nat.ble s MS)) (Rt none h)
    | _ => False)
  | _ => False
/-- a cell of the law's script asked for: it may be any int -/
def stpS (i : Instr) (nx : Nat) (tg : List Nat) (ls : LSt) (st : List AV) (h : Hp) (c s : Nat) (other : Prop) : Prop := match i with
  | .invokestatic _ => (match tg with
    | [_, _, _] => (match st with
      | .inl j :: .inr (.inr (some a)) :: r => ob (Nat.beq a 1000 && (Nat.ble (catS r) 8 && (Nat.ble c MC && (Nat.ble s MS && Nat.blt 0 HT)))) (match SL with
        | some _ => 0 ≤ j ∧ ∀ x, Rng x → k nx ls (.inl x :: r) h c s
        | none => False)
      | _ => False)
    | _ => other)
  | _ => other
def stp (pc : Nat) (i : Instr) (nx : Nat) (ax : Int) (tg : List Nat) (ls : LSt) (st : List AV) (h : Hp) (c s : Nat) : Prop :=
  stpA k i nx ax tg ls st h c s (stpB k i nx ls st h c s (stpF fx k i nx ax tg ls st h c s (stpC MC MS SL SX k i nx ls st h c s (stpS MC MS HT SL k i nx tg ls st h c s (stpD fx MC MS HT S hd X k pc i nx tg ls st h c s (stpE rk MC MS hd Rt X i tg st h c s))))))
end Stp
abbrev AKK : Type := Nat → List AV → Hp → Nat → Nat → Prop
/-- at a cut: the values that live, nothing on the stack -/
def atcut (K : AKK) (live : List Nat) (pc : Nat) (ls : LSt) (st : List AV) (h : Hp) (c s : Nat) : Prop := match st, lsel ls live with
  | [], some vs => K pc vs h c s
  | _, _ => False
/-- from the place pc on, till the places of cut, where K must hold: the condition that all goes well -/
def aw (fx : Bool) (rk MC MS HT : Nat) (S : Nat → CS) (hd : List (Nat × (Nat × (Nat × Nat)))) (Rt : Option AV → Hp → Prop) (X : Nat → Hp → Prop) (SL : Option Int) (SX : Int → Int) (code : List (Nat × Row)) (cut : List (Nat × List Nat)) (K : AKK) : Nat → List (Nat × Row) → AK
  | 0, _, _, _, _, _, _, _ => False
  | n + 1, cur, pc, ls, st, h, c, s => match seek cur pc with
    | (_, (i, (nx, (ax, tg)))) :: tl => stp fx rk MC MS HT S hd Rt X SL SX (fun pc1 ls1 st1 h1 c1 s1 => match look cut pc1 with
      | some live => atcut K live pc1 ls1 st1 h1 c1 s1
      | none => aw fx rk MC MS HT S hd Rt X SL SX code cut K n tl pc1 ls1 st1 h1 c1 s1) pc i nx ax tg ls st h c s
    | [] => match seek code pc with
      | (_, (i, (nx, (ax, tg)))) :: tl => stp fx rk MC MS HT S hd Rt X SL SX (fun pc1 ls1 st1 h1 c1 s1 => match look cut pc1 with
        | some live => atcut K live pc1 ls1 st1 h1 c1 s1
        | none => aw fx rk MC MS HT S hd Rt X SL SX code cut K n tl pc1 ls1 st1 h1 c1 s1) pc i nx ax tg ls st h c s
      | [] => False

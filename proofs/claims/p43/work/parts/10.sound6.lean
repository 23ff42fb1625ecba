/-! ===== the abstract machine is right: calls, what is made and thrown, ends ===== -/
def kl0 : List Nat := [0, 1, 2, 3, 4, 5, 6, 7, 8, 9, 10, 11, 12, 13, 14]
def kl1 : List Nat := [15, 16, 17, 18, 19, 20, 21, 22, 23, 24, 25, 26, 27, 28, 29]
def kl2 : List Nat := [30, 31, 32, 33, 34, 35, 36, 37, 38, 39, 40, 41, 42, 43, 44]
def kl3 : List Nat := [45, 46, 47, 48, 49, 50, 51, 52, 53, 54, 55, 56, 57, 58, 59]
def kl4 : List Nat := [60, 61, 62, 63, 64, 65, 66, 67, 68, 69, 70, 71, 72, 73, 74]
def kl5 : List Nat := [75, 76, 77, 78, 79, 80, 81, 82, 83, 84, 85, 86, 87, 88, 89]
def kl6 : List Nat := [90, 91, 92, 93, 94, 95, 96, 97, 98, 99, 100, 101, 102, 103, 104]
def kl7 : List Nat := [105, 106, 107, 108, 109, 110, 111, 112, 113, 114, 115, 116, 117, 118, 119]
def kl8 : List Nat := [120, 121, 122, 123, 124, 125, 126, 127, 128, 129, 130, 131, 132, 133, 134]
def kl9 : List Nat := [135, 136, 137, 138, 139, 140, 141, 142, 143, 144, 145, 146, 147, 148, 149]
def kl10 : List Nat := [150, 151, 152, 153, 154, 155, 156, 157, 158, 159, 160, 161, 162, 163, 164]
def kl11 : List Nat := [166, 167, 169, 170, 171, 172, 173, 174, 175, 176, 177, 178, 179, 180, 181]
def kl12 : List Nat := [182, 183, 184, 185, 186, 187, 188, 288, 289, 290, 302, 303, 304, 306, 308]
def kl13 : List Nat := [310, 312, 314, 317, 320, 323, 325, 329, 334, 335, 336, 337, 338, 339, 340]
def kl14 : List Nat := [341, 342, 343, 344, 345]
theorem anyB {l : List Nat} {n : Nat} (h : l.any (Nat.beq n) = true) : n ∈ l := by
  obtain ⟨k, hk, e⟩ := List.any_eq_true.mp h
  rw [Nat.eq_of_beq_eq_true e]
  exact hk
def knows (n : Nat) : Bool := (kl0.any (Nat.beq n) || (kl1.any (Nat.beq n) || (kl2.any (Nat.beq n) || (kl3.any (Nat.beq n) || (kl4.any (Nat.beq n) || (kl5.any (Nat.beq n) || (kl6.any (Nat.beq n) || (kl7.any (Nat.beq n) || (kl8.any (Nat.beq n) || (kl9.any (Nat.beq n) || (kl10.any (Nat.beq n) || (kl11.any (Nat.beq n) || (kl12.any (Nat.beq n) || (kl13.any (Nat.beq n) || kl14.any (Nat.beq n)))))))))))))))
/-- what the tables say of a method -/
def mrB (n : Nat) : Bool :=
  (goodWord (codeW (tMR n)) && (wd (nth (mI (tMR n)) 3 0) (.initialized (mY (tMR n)).cls) && ((match nth (mI (tMR n)) 0 9 with
    | 0 => wd (nth (mI (tMR n)) 1 0) (.instanceMethod (mY (tMR n))) && (wd (nth (mI (tMR n)) 2 0) (.selects (mY (tMR n)).cls (mY (tMR n)) (mY (tMR n))) && (decide ((cN (nth (mI (tMR n)) 6 0)).1 = (mY (tMR n)).cls) && (Nat.blt (nth (mI (tMR n)) 6 0) 9 && (mH (tMR n)).isEmpty)))
    | 1 => wd (nth (mI (tMR n)) 1 0) (.static (mY (tMR n)))
    | 2 => wd (nth (mI (tMR n)) 1 0) (.instanceMethod (mY (tMR n))) && (decide ((mY (tMR n)).name = "<init>") && ((mR (tMR n)).isNone && (mH (tMR n)).isEmpty))
    | _ => false) && (decide ((mY (tMR n)).cls ≠ "java/lang/invoke/MethodHandle" ∧ (mY (tMR n)).cls ≠ "java/lang/invoke/VarHandle") && (decide ((parseMethodDescriptor (mY (tMR n)).desc).map (fun d => d.parameters.length) = some (nth (mI (tMR n)) 5 99)) && (plainName (mY (tMR n)).cls && Nat.ble (mL (tMR n)) 40))))))
def callB (own idx kind n np rc p ne : Nat) : Bool :=
  knows n && (Nat.beq kind (nth (mI (tMR n)) 0 9) && (Nat.beq np (nth (mI (tMR n)) 5 99) && (Nat.beq rc (nth (mI (tMR n)) 6 0) && cond (Nat.beq ne 0) (wd p (.methodLink (tNM own) idx (mY (tMR n)))) (wd p (.methodLinkNest (tNM own) idx (mY (tMR n)) RX9) && (mH (tMR n)).isEmpty))))
def exn : List String := ["java/lang/RuntimeException", "java/lang/Exception"]
/-- calls, what is made and thrown -/
def rowD (own : Nat) (cc : ByteArray) (pc : Nat) (i : Instr) (nx : Nat) (ax : Int) (tg : List Nat) : Bool := match i with
  | .invokevirtual idx => dec1 cc pc i nx && (match tg with
    | kind :: n :: np :: rc :: p :: ne :: _ => Nat.beq kind 0 && callB own idx kind n np rc p ne
    | _ => false)
  | .invokestatic idx => dec1 cc pc i nx && (match tg with
    | kind :: n :: np :: rc :: p :: ne :: _ => Nat.beq kind 1 && callB own idx kind n np rc p ne
    | [q, p] => wd p (.methodLink (tNM own) idx (cond (Nat.beq q 0) Lib.Math.max.name Lib.Math.min.name))
    | [p] => wd p (.methodLink (tNM own) idx arraycopyName)
    | _ => false)
  | .invokespecial idx => dec1 cc pc i nx && (match tg with
    | kind :: n :: np :: rc :: p :: ne :: _ => Nat.beq kind 2 && callB own idx kind n np rc p ne
    | [p] => wd p (.methodLink (tNM own) idx objectInit)
    | _ => false)
  | .new idx => (match tg with
    | [ci, p] => dec1 cc pc i nx && (Nat.blt ci 9 && wd p (.classLink (tNM own) idx (cN ci).1))
    | [E, p, is, ic, w] => decide (decode cc pc = .ok (.new idx, 3)) && (decide (decode cc (pc + 3) = .ok (.dup, 1)) && (Nat.beq own 8 && (Nat.blt E 3 && (wd p (.classLink (tNM own) idx (tEX E)) && (Nat.beq ic (tIC E) && (((look tSTR is).isSome) && cond (Nat.beq w 0)
      (decide (decode cc (pc + 4) = .ok (.ldc is, 2)) && (decide (decode cc (pc + 6) = .ok (.invokespecial ic, 3)) && decide (decode cc (pc + 9) = .ok (.athrow, 1))))
      (decide (decode cc (pc + 4) = .ok (.ldc_w is, 3)) && (decide (decode cc (pc + 7) = .ok (.invokespecial ic, 3)) && decide (decode cc (pc + 10) = .ok (.athrow, 1))))))))))
    | _ => false)
  | i => dec1 cc pc i nx
def hdB (own : Nat) : List (Nat × Nat × Nat × Nat) → List (Nat × (Nat × (Nat × Nat))) → List Nat → Bool
  | [], [], [] => true
  | q :: hh, d :: hd, p :: ps => decide (q.1 = d.1 ∧ q.2.1 = d.2.1 ∧ q.2.2.1 = d.2.2.2 ∧ q.2.2.2 ≠ 0 ∧ d.2.2.1 < 3) && (wd p (.classLink (tNM own) q.2.2.2 (tEX d.2.2.1)) && hdB own hh hd ps)
  | _, _, _ => false
theorem look_mem {α : Type} {l : List (Nat × α)} {i : Nat} {x : α} (h : look l i = some x) : (i, x) ∈ l := by
  induction l with
  | nil => simp [look] at h
  | cons q l ih =>
    unfold look at h
    cases hb : Nat.beq q.1 i with
    | true =>
      rw [hb] at h
      simp only [cond_true, Option.some.injEq] at h
      have := Nat.eq_of_beq_eq_true hb
      obtain ⟨a, b⟩ := q
      simp only at this h
      subst this; subst h
      exact List.mem_cons_self
    | false =>
      rw [hb] at h
      exact List.mem_cons_of_mem _ (ih h)
theorem mem_tbl {w : Jvm.Cond} (h : decide (w ∈ lw_tbl) = true) : w ∈ lw_tbl := of_decide_eq_true h
theorem cast_in : ∀ E, E < 3 → Jvm.Cond.castable (tEX E) (tEX E) ∈ lw_tbl := by decide +kernel
theorem init_in : ∀ E, E < 3 → Jvm.Cond.initialized (tEX E) ∈ lw_tbl := by decide +kernel
theorem thr_in : ∀ E, E < 3 → (vx_atS RX9 (tIC E) (tEX E) exn).all (fun w => decide (w ∈ lw_tbl) && (goodWord w || crW w)) = true := by decide +kernel
theorem thr_ot : ∀ E, E < 3 → (Jvm.Cond.initialized (tEX E) :: vx_atS RX9 (tIC E) (tEX E) exn).all (fun w => vx_ot w) = true := by decide +kernel
theorem thr_fit : ∀ E, E < 3 → Bundle.fit (tEX E) = true := by decide +kernel
theorem exn_fit : ∀ n ∈ exn, Bundle.fit n = true := by decide +kernel
theorem obj_in : Jvm.Cond.instanceMethod objectInit ∈ lw_tbl ∧ Jvm.Cond.code objectInit ⟨#[0xb1]⟩ 1 none ∈ lw_tbl := by decide +kernel
theorem copy_in : Jvm.Cond.native arraycopyName ∈ lw_tbl ∧ Jvm.Cond.static arraycopyName ∈ lw_tbl ∧ Jvm.Cond.initialized "java/lang/System" ∈ lw_tbl := by decide +kernel
theorem math_in : (Jvm.Cond.static Lib.Math.max.name ∈ lw_tbl ∧ Jvm.Cond.static Lib.Math.min.name ∈ lw_tbl) ∧ Jvm.Cond.initialized "java/lang/Math" ∈ lw_tbl ∧ Jvm.Cond.code Lib.Math.max.name Lib.Math.max.code 2 (some .int) ∈ lw_tbl ∧ Jvm.Cond.code Lib.Math.min.name Lib.Math.min.code 2 (some .int) ∈ lw_tbl := by decide +kernel
theorem math_good : goodWord (.static Lib.Math.max.name) = true ∧ goodWord (.static Lib.Math.min.name) = true ∧ goodWord (.initialized "java/lang/Math") = true ∧ goodWord (.code Lib.Math.max.name Lib.Math.max.code 2 (some .int)) = true ∧ goodWord (.code Lib.Math.min.name Lib.Math.min.code 2 (some .int)) = true := by decide +kernel
theorem new_in : ∀ ci, ci < 9 → Jvm.Cond.instantiable (cN ci).1 (cN ci).2.2 ∈ lw_tbl ∧ Jvm.Cond.initialized (cN ci).1 ∈ lw_tbl := by decide +kernel
theorem u_in : ∀ ci, ci < 9 → (u_ws (cN ci).1 (cN ci).2.1 (cN ci).2.2).all (fun w => decide (w ∈ lw_tbl) && goodWord w) = true := by decide +kernel
theorem some_good : goodWord (.instanceMethod objectInit) = true ∧ goodWord (.code objectInit ⟨#[0xb1]⟩ 1 none) = true ∧ goodWord (.native arraycopyName) = true ∧ goodWord (.static arraycopyName) = true ∧ goodWord (.initialized "java/lang/System") = true := by decide +kernel

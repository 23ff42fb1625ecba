/-! ===== the abstract machine is right: fields and arrays ===== -/
theorem cN_ok {ci : Nat} (h : ci < 9) : vwCl[ci]? = some (cN ci) := by
  match ci, h with
  | 0, _ | 1, _ | 2, _ | 3, _ | 4, _ | 5, _ | 6, _ | 7, _ | 8, _ => rfl
theorem tTY_ok {ci : Nat} (h : ci < 9) : ∀ k, k < (cN ci).2.2 → parseFieldDescriptor ((cN ci).2.1 k).2.2.1 = some (tTY ci k) := by
  match ci, h with
  | 0, _ => exact tyX0_ok
  | 1, _ => exact tyX1_ok
  | 2, _ => exact tyX3_ok
  | 3, _ => exact tyX4_ok
  | 4, _ => exact tyX5_ok
  | 5, _ => exact tyX6_ok
  | 6, _ => exact tyX7_ok
  | 7, _ => exact tyX8_ok
  | 8, _ => exact tyX9_ok
theorem nm_ok {ci : Nat} (h : ci < 9) : ∀ a, a < (cN ci).2.2 → ∀ b, b < (cN ci).2.2 → a ≠ b → ((cN ci).2.1 a).2.1 ≠ ((cN ci).2.1 b).2.1 := by
  match ci, h with
  | 0, _ => exact nmX0
  | 1, _ => exact nmX1
  | 2, _ => exact nmX3
  | 3, _ => exact nmX4
  | 4, _ => exact nmX5
  | 5, _ => exact nmX6
  | 6, _ => exact nmX7
  | 7, _ => exact nmX8
  | 8, _ => exact nmX9
def tyOK (f : Nat) (ty : FieldType) : Bool := match f, ty with
  | 0, .int => true
  | 1, .long => true
  | 3, .boolean => true
  | 2, .object _ => true
  | 2, .array _ => true
  | _, _ => false
theorem tFT_all : (List.range 9).all (fun ci => (List.range (cN ci).2.2).all fun k => tyOK (tFT ci k) (tTY ci k)) = true := by decide +kernel
theorem tFT_ok {ci k : Nat} (h : ci < 9) (hk : k < (cN ci).2.2) : tyOK (tFT ci k) (tTY ci k) = true :=
  List.all_eq_true.mp (List.all_eq_true.mp tFT_all ci (List.mem_range.mpr h)) k (List.mem_range.mpr hk)
theorem tGK_lt {a : Nat} (h : (tGK a).1 < 99) : a < 63 := by
  by_cases ha : a < 63
  · exact ha
  · exfalso
    have : ∀ (l : List (Nat × Int)) (n : Nat) (d : Nat × Int), l.length ≤ n → nth l n d = d := by
      intro l
      induction l with
      | nil => intro n d _; rfl
      | cons x l ih =>
        intro n d hn
        cases n with
        | zero => simp at hn
        | succ n => exact ih n d (by simpa using hn)
    have h2 := this oGK a (99, 0) (by show 63 ≤ a; omega)
    rw [show tGK a = (99, 0) from h2] at h
    exact absurd h (by decide)
theorem wo_at {ad : Nat → Nat} {ca : Nat → ClassId} {h : Hp} {a : Nat} (ha : a < hN h) : (wo ad ca h)[a]? = some (ad a, ent ad ca h a) := by
  unfold wo
  rw [List.getElem?_map, List.getElem?_range ha]
  rfl
theorem wo_len {ad : Nat → Nat} {ca : Nat → ClassId} {h : Hp} : (wo ad ca h).length = hN h := by
  unfold wo
  rw [List.length_map, List.length_range]
theorem ent_obj {ad : Nat → Nat} {ca : Nat → ClassId} {h : Hp} {a ci : Nat} (hc : (tGK a).1 = ci) (hl : ci < 9) : ent ad ca h a = .inr (ci, (List.range (cN ci).2.2).map (fv ad h ci a)) := by
  unfold ent
  match ci, hl with
  | 0, _ | 1, _ | 2, _ | 3, _ | 4, _ | 5, _ | 6, _ | 7, _ | 8, _ | 9, _ => rw [hc]; rfl
theorem ent_20 {ad : Nat → Nat} {ca : Nat → ClassId} {h : Hp} {a : Nat} (hc : (tGK a).1 = 20) : ent ad ca h a = .inl (ca 0, (tGK a).2.toNat, .inl (fun j => iw (hI h a j))) := by
  unfold ent
  rw [hc]
  rfl
theorem ent_21 {ad : Nat → Nat} {ca : Nat → ClassId} {h : Hp} {a : Nat} (hc : (tGK a).1 = 21) : ent ad ca h a = .inl (ca 1, (tGK a).2.toNat, .inr (.inl (fun j => hJ h a j))) := by
  unfold ent
  rw [hc]
  rfl
theorem ent_22 {ad : Nat → Nat} {ca : Nat → ClassId} {h : Hp} {a : Nat} (hc : (tGK a).1 = 22) : ent ad ca h a = .inl (ca 2, (tGK a).2.toNat, .inl (fun j => iw (hI h a j))) := by
  unfold ent
  rw [hc]
  rfl
theorem ent_23 {ad : Nat → Nat} {ca : Nat → ClassId} {h : Hp} {a : Nat} (hc : (tGK a).1 = 23) : ent ad ca h a = .inl (ca 3, (tGK a).2.toNat, .inr (.inr (.inr (.inr (fun j => (hR h a j).map ad))))) := by
  unfold ent
  rw [hc]
  rfl
theorem ent_same {ad : Nat → Nat} {ca : Nat → ClassId} {h h' : Hp} {a : Nat} (h1 : hI h' a = hI h a) (h2 : hJ h' a = hJ h a) (h3 : hR h' a = hR h a) : ent ad ca h' a = ent ad ca h a := by
  unfold ent fv
  rw [h1, h2, h3]
theorem hI_rI (h : Hp) (a b : Nat) (f : Int → Int) : hI (rI h a f) b = if b = a then f else hI h b := rfl
theorem hJ_rI (h : Hp) (a : Nat) (f : Int → Int) : hJ (rI h a f) = hJ h := rfl
theorem hR_rI (h : Hp) (a : Nat) (f : Int → Int) : hR (rI h a f) = hR h := rfl
theorem hN_rI (h : Hp) (a : Nat) (f : Int → Int) : hN (rI h a f) = hN h := rfl
theorem hI_rJ (h : Hp) (a : Nat) (f : Int → Int64) : hI (rJ h a f) = hI h := rfl
theorem hJ_rJ (h : Hp) (a b : Nat) (f : Int → Int64) : hJ (rJ h a f) b = if b = a then f else hJ h b := rfl
theorem hR_rJ (h : Hp) (a : Nat) (f : Int → Int64) : hR (rJ h a f) = hR h := rfl
theorem hN_rJ (h : Hp) (a : Nat) (f : Int → Int64) : hN (rJ h a f) = hN h := rfl
theorem hI_rR (h : Hp) (a : Nat) (f : Int → Option Nat) : hI (rR h a f) = hI h := rfl
theorem hJ_rR (h : Hp) (a : Nat) (f : Int → Option Nat) : hJ (rR h a f) = hJ h := rfl
theorem hR_rR (h : Hp) (a b : Nat) (f : Int → Option Nat) : hR (rR h a f) b = if b = a then f else hR h b := rfl
theorem hN_rR (h : Hp) (a : Nat) (f : Int → Option Nat) : hN (rR h a f) = hN h := rfl
theorem hok_rI {h : Hp} {a : Nat} {f : Int → Int} (hh : hok h) (hf : ∀ j, Rng (f j)) : hok (rI h a f) := by
  refine ⟨fun b k => ?_, hh.2.1, hh.2.2⟩
  rw [hI_rI]
  split
  · exact hf k
  · exact hh.1 b k
theorem rng_up {h : Hp} {a : Nat} {j x : Int} (hh : hok h) (hx : Rng x) : ∀ k, Rng (up (hI h a) j x k) := by
  intro k
  unfold up
  split
  · exact hx
  · exact hh.1 a k
theorem hok_rJ {h : Hp} {a : Nat} {f : Int → Int64} (hh : hok h) : hok (rJ h a f) := hh
theorem hok_rR {h : Hp} {a b : Nat} {j : Int} (hh : hok h) (hb : b < hN h) : hok (rR h a (up (hR h a) j (some b))) := by
  refine ⟨hh.1, fun c k d hd => ?_, hh.2.2⟩
  rw [hR_rR] at hd
  split at hd
  · unfold up at hd
    split at hd
    · cases hd
      exact hb
    · exact hh.2.1 _ _ _ hd
  · exact hh.2.1 _ _ _ hd
theorem set_of {ad : Nat → Nat} {ca : Nat → ClassId} {h h' : Hp} {a : Nat} {x : va_E} (hN' : hN h' = hN h) (hx : ent ad ca h' a = x) (ho : ∀ b, b ≠ a → hI h' b = hI h b ∧ hJ h' b = hJ h b ∧ hR h' b = hR h b) (ha : a < hN h) : (wo ad ca h).set a (ad a, x) = wo ad ca h' := by
  refine List.ext_getElem? fun b => ?_
  rw [List.getElem?_set]
  by_cases hb : b < hN h
  · rw [wo_at (h := h') (by rw [hN']; exact hb)]
    by_cases e : a = b
    · subst e
      rw [if_pos rfl, if_pos (by rw [wo_len]; exact hb), hx]
    · rw [if_neg e, wo_at hb]
      obtain ⟨h1, h2, h3⟩ := ho b (fun q => e q.symm)
      rw [ent_same h1 h2 h3]
  · have e : ¬ a = b := by omega
    rw [if_neg e, List.getElem?_eq_none (by rw [wo_len]; omega), List.getElem?_eq_none (by rw [wo_len, hN']; omega)]
theorem map_set {ad : Nat → Nat} {h h' : Hp} {ci a k N : Nat} {v : Value} (hv : fv ad h' ci a k = v) (ho : ∀ j : Nat, j ≠ k → fv ad h' ci a j = fv ad h ci a j) : ((List.range N).map (fv ad h ci a)).set k v = (List.range N).map (fv ad h' ci a) := by
  refine List.ext_getElem? fun j => ?_
  rw [List.getElem?_set, List.getElem?_map, List.getElem?_map]
  by_cases hj : j < N
  · rw [List.getElem?_range hj]
    by_cases e : k = j
    · subst e
      rw [if_pos rfl, if_pos (by simpa using hj)]
      show some v = some (fv ad h' ci a k)
      rw [hv]
    · rw [if_neg e]
      show some _ = some _
      rw [ho j (fun q => e q.symm)]
  · by_cases e : k = j
    · subst e
      rw [if_pos rfl, if_neg (by simpa using hj), List.getElem?_eq_none (by simpa using hj)]
      rfl
    · rw [if_neg e]
      rw [List.getElem?_eq_none (l := List.range N) (by simpa using hj)]
      rfl
theorem rows_off {h : Hp} {a : Nat} {f : Int → Int} : ∀ b, b ≠ a → hI (rI h a f) b = hI h b ∧ hJ (rI h a f) b = hJ h b ∧ hR (rI h a f) b = hR h b := fun b hb => ⟨by rw [hI_rI, if_neg hb], rfl, rfl⟩
theorem rows_offJ {h : Hp} {a : Nat} {f : Int → Int64} : ∀ b, b ≠ a → hI (rJ h a f) b = hI h b ∧ hJ (rJ h a f) b = hJ h b ∧ hR (rJ h a f) b = hR h b := fun b hb => ⟨rfl, by rw [hJ_rJ, if_neg hb], rfl⟩
theorem rows_offR {h : Hp} {a : Nat} {f : Int → Option Nat} : ∀ b, b ≠ a → hI (rR h a f) b = hI h b ∧ hJ (rR h a f) b = hJ h b ∧ hR (rR h a f) b = hR h b := fun b hb => ⟨rfl, rfl, by rw [hR_rR, if_neg hb]⟩
theorem up_cast {α : Type} (f : Int → α) (k : Nat) (x : α) (j : Nat) (hj : j ≠ k) : up f (k : Int) x (j : Int) = f j := by
  unfold up
  rw [if_neg (by omega)]
theorem up_self {α : Type} (f : Int → α) (k : Int) (x : α) : up f k x k = x := by
  unfold up
  rw [if_pos rfl]
theorem upd_iw {f : Int → Int} {j : Int} {x : Int} (h0 : 0 ≤ j) : upd (fun k : Nat => iw (f k)) j.toNat (iw x) = fun k : Nat => iw (up f j x k) := by
  funext k
  unfold upd up
  by_cases e : k = j.toNat
  · rw [if_pos e, if_pos (by omega)]
  · rw [if_neg e, if_neg (by omega)]
theorem upd_gen {α β : Type} (g : α → β) {f : Int → α} {j : Int} {x : α} (h0 : 0 ≤ j) : (fun k : Nat => if k = j.toNat then g x else g (f k)) = fun k : Nat => g (up f j x k) := by
  funext k
  unfold up
  by_cases e : k = j.toNat
  · rw [if_pos e, if_pos (by omega)]
  · rw [if_neg e, if_neg (by omega)]
theorem fixed_rI {h : Hp} {a : Nat} {f : Int → Int} (hf : fixed h) : fixed (rI h a f) := hf
theorem fixed_rJ {h : Hp} {a : Nat} {f : Int → Int64} (hf : fixed h) : fixed (rJ h a f) := hf
theorem fixed_rR {h : Hp} {a b k : Nat} (hf : fixed h) (hk : tGF a k = none) : fixed (rR h a (up (hR h a) (k : Int) (some b))) := by
  intro c j d hc hd
  obtain ⟨h1, h2⟩ := hf c j d hc hd
  refine ⟨?_, h2⟩
  rw [hR_rR]
  split
  · rename_i e
    subst e
    have : j ≠ k := fun e => by rw [e, hk] at hd; cases hd
    rw [up_cast _ _ _ _ this]
    exact h1
  · exact h1
/-- what the rows of fields and arrays say -/
def rowF (own : Nat) (mi : Bool) (cc : ByteArray) (pc : Nat) (i : Instr) (nx : Nat) (ax : Int) (tg : List Nat) : Bool := match i with
  | .getfield idx => dec1 cc pc i nx && (match tg with
    | ci :: f :: ty :: p :: ne :: _ => fldB own idx ci f ty p ne ax
    | _ => false)
  | .putfield idx => dec1 cc pc i nx && (match tg with
    | ci :: f :: ty :: p :: ne :: _ => fldB own idx ci f ty p ne ax && cond ((cN ci).2.1 f).2.2.2 (mi && (Nat.beq ne 0 && decide (((cN ci).2.1 f).1 = tNM own))) true
    | _ => false)
  | .getstatic idx => dec1 cc pc i nx && wd (tg0 tg) (.fieldLink (tNM own) idx "WordSolver$Lanes" "LOW_BITS" "[J")
  | .newarray t => dec1 cc pc i nx && wd (tg0 tg) (.arrayClass (newarray.typeOf t))
  | .anewarray idx => dec1 cc pc i nx && (wd (tg0 tg) (.classLink (tNM own) idx RX6) && wd (tg1 tg) (.arrayOver (.object RX6)))
  | i => dec1 cc pc i nx
theorem fldB_spec {own idx ci f ty p ne : Nat} {ax : Int} (h : fldB own idx ci f ty p ne ax = true) : f < (cN ci).2.2 ∧ ci < 9 ∧ ty = tFT ci f ∧ ax = (f : Int) ∧ ((ne = 0 ∧ wd p (.fieldLink (tNM own) idx ((cN ci).2.1 f).1 ((cN ci).2.1 f).2.1 ((cN ci).2.1 f).2.2.1) = true) ∨ (ne ≠ 0 ∧ wd p (.fieldLinkNest (tNM own) idx ((cN ci).2.1 f).1 ((cN ci).2.1 f).2.1 ((cN ci).2.1 f).2.2.1 RX9) = true)) := by
  unfold fldB at h
  simp only [Bool.and_eq_true, decide_eq_true_eq] at h
  obtain ⟨h1, h2, h3, h4, h5⟩ := h
  refine ⟨blt_spec h1, blt_spec h2, Nat.eq_of_beq_eq_true h3, h4, ?_⟩
  cases hb : Nat.beq ne 0 with
  | true => rw [hb] at h5; exact Or.inl ⟨Nat.eq_of_beq_eq_true hb, h5⟩
  | false => rw [hb] at h5; exact Or.inr ⟨fun e => (by rw [e] at hb; cases hb), h5⟩
section Ctx
variable {p : Program} {l : Launch} {e : Env} {R : Room} {s : State} {m : MethodId} {ag : Array Value} {below : List Frame} {meth : Method} {c : Code} {Q : State → Prop} {cc : ByteArray} {nL : Nat} {D : va_G} {ca : Nat → ClassId} {A : Nat → Prop} {b0 : B0} {lb : Nat} {fx : Bool}
theorem Cn.obj {ad : Nat → Nat} {ls : LSt} {st : List AV} {h : Hp} {H : Heap} {L : Array Slot} (C : Cn D ca A ad fx nL ls st h H L) {a : Nat} (hv : vok (hN h) (.inr (.inr (some a)))) (hk : (tGK a).1 < 99) : a < hN h := by
  rcases hv with h1 | h1
  · exact h1
  · have := tGK_lt hk
    omega
theorem fvget {ad : Nat → Nat} {h : Hp} {ci a f : Nat} {N : Nat} (hf : f < N) : ((List.range N).map (fv ad h ci a))[f]? = some (fv ad h ci a f) := by
  rw [List.getElem?_map, List.getElem?_range hf]
  rfl
theorem fv1 {ad : Nat → Nat} {h : Hp} {ci a f : Nat} (e : tFT ci f = 1) : fv ad h ci a f = .long (hJ h a f) := by
  unfold fv
  rw [e]
  rfl
theorem fv2 {ad : Nat → Nat} {h : Hp} {ci a f : Nat} (e : tFT ci f = 2) : fv ad h ci a f = va_rf ((hR h a f).map ad) := by
  unfold fv
  rw [e]
  rfl
theorem fv0 {ad : Nat → Nat} {h : Hp} {ci a f : Nat} (e1 : tFT ci f ≠ 1) (e2 : tFT ci f ≠ 2) : fv ad h ci a f = .int (iw (hI h a f)) := by
  unfold fv
  split
  · rename_i e; exact absurd e e1
  · rename_i e; exact absurd e e2
  · rfl
theorem stpF_sound (hx : p.tables.exec = Jvm.exec) (hb : c.code = cc) {own : Nat} (hown : s.vm.findClass (tNM own) = some m.cls) (htw : ∀ i w, wd i w = true → w.before ag s = true)
    (hU : ∀ ci, ci < 9 → ∀ w ∈ u_ws (cN ci).1 (cN ci).2.1 (cN ci).2.2, w.before ag s = true) (hK : va_K D vwCl [(ca 0, .int), (ca 1, .long), (ca 2, .boolean), (ca 3, .object RX6)] s)
    (hZ : va_Z "WordSolver$Lanes" "LOW_BITS" "[J" (.ref lb) A s s.heap) {mi : Bool} (hmi : mi = true → meth.name = "<init>")
    {k : AK} (hk : ∀ pc1 ls1 st1 h1 u1 v1, k pc1 ls1 st1 h1 u1 v1 → AW p l e R s m ag below meth c Q nL D ca A b0 lb fx pc1 ls1 st1 h1 u1 v1)
    {pc : Nat} {i : Instr} {nx : Nat} {ax : Int} {tg : List Nat} {ls : LSt} {st : List AV} {h : Hp} {u v : Nat} {other : Prop} (ho : other → AW p l e R s m ag below meth c Q nL D ca A b0 lb fx pc ls st h u v)
    (hrow : rowF own mi cc pc i nx ax tg = true) (hs : stpF fx k i nx ax tg ls st h u v other) : AW p l e R s m ag below meth c Q nL D ca A b0 lb fx pc ls st h u v := by
  unfold stpF at hs
  split at hs
  · rename_i idx
    split at hs
    · rename_i ci f ty tl
      obtain ⟨a, r, rfl, hs1⟩ := oneA_spec hs
      obtain ⟨hgk0, hs2⟩ := ob_spec hs1
      clear hs hs1
      have hgk := Nat.eq_of_beq_eq_true hgk0
      unfold rowF at hrow
      rw [Bool.and_eq_true] at hrow
      obtain ⟨hd0, hrow⟩ := hrow
      obtain ⟨hd, rfl⟩ := dec1_spec hd0
      split at hrow
      · rename_i _ ci2 f2 ty2 pp ne tl2 heq
        cases heq
        obtain ⟨hf, hci, hty, rfl, hl⟩ := fldB_spec hrow
        intro ad H locs L C e0 e1 hS
        obtain ⟨hva, h2⟩ := vok1 C.st
        have ha : a < hN h := C.obj hva (by omega)
        have he : (wo ad ca h)[a]? = some (ad a, .inr (ci, (List.range (cN ci).2.2).map (fv ad h ci a))) := by rw [wo_at ha, ent_obj hgk hci]
        have go : ∀ x : AV, vok (hN h) x → fv ad h ci a f = cv ad x → k (pc + il (.getfield idx)) ls (x :: r) h u v → W p l e R s m ag below meth c H locs u v Q (F0 m pc L ((.inr (.inr (some a)) :: r : List AV).map (cv ad))) := by
          intro x hv9 hx9 hk9
          have g := hk _ _ _ _ _ _ hk9 ad H locs L (C.stk (vokc hv9 h2)) e0 e1 hS
          rw [List.map_cons, ← hx9] at g
          rcases hl with ⟨-, hl⟩ | ⟨-, hl⟩
          · exact va_get hx hb (hU ci hci) (fun _ q => q) hown hK C.2.1 a he (cN_ok hci) f hf (htw _ _ hl) (fun _ q => q) (fvget hf) hd g
          · exact va_getN hx hb (hU ci hci) (fun _ q => q) hown hK C.2.1 a he (cN_ok hci) f hf (htw _ _ hl) (fun _ q => q) (fvget hf) hd g
        split at hs2
        · exact go (.inr (.inl (hJ h a f))) trivial (fv1 hty.symm) hs2
        · split at hs2
          · rename_i b hb9
            obtain ⟨hfix, hlt⟩ := C.2.2.2.2.2.2 rfl a f b ha hb9
            refine go (.inr (.inr (some b))) (Or.inl hlt) ?_ hs2
            rw [fv2 hty.symm, hfix]
            rfl
          · refine go (.inr (.inr (hR h a f))) ?_ (fv2 hty.symm) hs2
            cases hq : hR h a f with
            | none => trivial
            | some b => exact Or.inl (C.2.2.2.2.2.1.2.1 _ _ _ hq)
        · rename_i n1 n2
          exact go (.inl (hI h a f)) (C.2.2.2.2.2.1.1 a f) (fv0 (fun e => n1 (hty.trans e)) (fun e => n2 (hty.trans e))) hs2
      · cases hrow
    · exact hs.elim
  · rename_i idx
    split at hs
    · rename_i ci f ty tl
      unfold rowF at hrow
      rw [Bool.and_eq_true] at hrow
      obtain ⟨hd0, hrow⟩ := hrow
      obtain ⟨hd, rfl⟩ := dec1_spec hd0
      split at hrow
      · rename_i _ ci2 f2 ty2 pp ne tl2 heq
        cases heq
        rw [Bool.and_eq_true] at hrow
        obtain ⟨hrow, hfin⟩ := hrow
        obtain ⟨hf, hci, hty, rfl, hl⟩ := fldB_spec hrow
        have go : ∀ (a : Nat) (x : AV) (r : List AV) (h' : Hp), st = x :: .inr (.inr (some a)) :: r → (tGK a).1 = ci → (∀ ad : Nat → Nat, narrow (tTY ci f) (cv ad x) = cv ad x ∧ fits (tTY ci f) (cv ad x) = true) → hN h' = hN h → (hok h → vok (hN h) x → hok h') → (fx = true → fixed h → fixed h') → (∀ ad, fv ad h' ci a f = cv ad x) → (∀ ad, ∀ j : Nat, j ≠ f → fv ad h' ci a j = fv ad h ci a j) → (∀ b, b ≠ a → hI h' b = hI h b ∧ hJ h' b = hJ h b ∧ hR h' b = hR h b) → k (pc + il (.putfield idx)) ls r h' u v → AW p l e R s m ag below meth c Q nL D ca A b0 lb fx pc ls st h u v := by
          intro a x r h' hst hgk hnf hN' hok' hfix' hv1 hv2 hoff hk9 ad H locs L C e0 e1 hS
          subst hst
          obtain ⟨hvx, hva, h2⟩ := vok2 C.st
          have ha : a < hN h := C.obj hva (by omega)
          have he : (wo ad ca h)[a]? = some (ad a, .inr (ci, (List.range (cN ci).2.2).map (fv ad h ci a))) := by rw [wo_at ha, ent_obj hgk hci]
          have hset : (wo ad ca h).set a (ad a, .inr (ci, ((List.range (cN ci).2.2).map (fv ad h ci a)).set f (cv ad x))) = wo ad ca h' := by
            refine set_of hN' ?_ hoff ha
            rw [ent_obj hgk hci, map_set (hv1 ad) (hv2 ad)]
          have kk : ∀ (H1 : Heap) (locs1 : List Loc), va_P D vwCl ((wo ad ca h).set a (ad a, .inr (ci, ((List.range (cN ci).2.2).map (fv ad h ci a)).set f (cv ad x)))) H1 → va_D A ((wo ad ca h).set a (ad a, .inr (ci, ((List.range (cN ci).2.2).map (fv ad h ci a)).set f (cv ad x)))) → va_S A s.heap H1 locs1 → W p l e R s m ag below meth c H1 locs1 u v Q (F0 m (pc + 3) L (r.map (cv ad))) := by
            intro H1 locs1 hP hD hS1
            rw [hset] at hP hD
            exact hk _ _ _ _ _ _ hk9 ad H1 locs1 L ⟨C.1, hP, hD, by rw [hN']; exact C.2.2.2.1, by rw [hN']; exact h2, hok' C.2.2.2.2.2.1 hvx, fun q => hfix' q (C.2.2.2.2.2.2 q)⟩ ⟨e0.1, e0.2.1, by rw [hN']; exact e0.2.2⟩ e1 hS1
          have hlen : f < ((List.range (cN ci).2.2).map (fv ad h ci a)).length := by simpa using hf
          obtain ⟨hn1, hn2⟩ := hnf ad
          cases hb9 : ((cN ci).2.1 f).2.2.2 with
          | true =>
            rw [hb9] at hfin
            simp only [cond_true, Bool.and_eq_true, decide_eq_true_eq] at hfin
            obtain ⟨f1, f2, f3⟩ := hfin
            rcases hl with ⟨-, hl⟩ | ⟨q, -⟩
            · exact va_putF hx hb (hU ci hci) (fun _ q => q) (tTY ci) (tTY_ok hci) (nm_ok hci) hown hK C.2.1 C.2.2.1 hS a he (cN_ok hci) f hf (htw _ _ hl) (fun _ q => q) hb9 (hmi f1) f3 (tTY_ok hci f hf) hn1 hn2 hlen hd kk
            · exact absurd (Nat.eq_of_beq_eq_true f2) q
          | false =>
            rcases hl with ⟨-, hl⟩ | ⟨-, hl⟩
            · exact va_put hx hb (hU ci hci) (fun _ q => q) (tTY ci) (tTY_ok hci) (nm_ok hci) hown hK C.2.1 C.2.2.1 hS a he (cN_ok hci) f hf (htw _ _ hl) (fun _ q => q) hb9 (tTY_ok hci f hf) hn1 hn2 hlen hd kk
            · exact va_putN hx hb (hU ci hci) (fun _ q => q) (tTY ci) (tTY_ok hci) (nm_ok hci) hown hK C.2.1 C.2.2.1 hS a he (cN_ok hci) f hf (htw _ _ hl) (fun _ q => q) hb9 (tTY_ok hci f hf) hn1 hn2 hlen hd kk
        have hty2 := tFT_ok hci hf
        rw [← hty] at hty2
        split at hs
        · rename_i x a r
          obtain ⟨hgk0, hs2⟩ := ob_spec hs
          clear hs
          have hgk := Nat.eq_of_beq_eq_true hgk0
          have h01 : ∀ (x : Int) (e0 : tFT ci f ≠ 1) (e2 : tFT ci f ≠ 2) (ad : Nat → Nat), fv ad (rI h a (up (hI h a) f x)) ci a f = cv ad (.inl x) := by
            intro x e1 e2 ad
            rw [fv0 e1 e2, hI_rI, if_pos rfl, up_self]
            rfl
          have h02 : ∀ (x : Int) (ad : Nat → Nat) (j : Nat), j ≠ f → fv ad (rI h a (up (hI h a) f x)) ci a j = fv ad h ci a j := by
            intro x ad j hj
            unfold fv
            rw [hI_rI, if_pos rfl, up_cast _ _ _ _ hj]
            rfl
          split at hs2
          · have ht : tTY ci f = .int := by
              cases hq : tTY ci f <;> rw [hq] at hty2 <;> first | rfl | cases hty2
            exact go a (.inl x) r (rI h a (up (hI h a) f x)) rfl hgk (fun ad => by rw [ht]; exact ⟨rfl, rfl⟩) rfl (fun hh hv => hok_rI hh (rng_up hh hv)) (fun _ => fixed_rI) (h01 x (by omega) (by omega)) (h02 x) rows_off hs2
          · have ht : tTY ci f = .boolean := by
              cases hq : tTY ci f <;> rw [hq] at hty2 <;> first | rfl | cases hty2
            refine go a (.inl x) r (rI h a (up (hI h a) f x)) rfl hgk (fun ad => ?_) rfl (fun hh hv => hok_rI hh (rng_up hh hv)) (fun _ => fixed_rI) (h01 x (by omega) (by omega)) (h02 x) rows_off hs2.2
            rw [ht]
            rcases hs2.1 with rfl | rfl <;> exact ⟨rfl, rfl⟩
          · exact hs2.elim
        · rename_i x a r
          obtain ⟨hgk, hs2⟩ := ob_spec hs
          clear hs
          rw [Bool.and_eq_true] at hgk
          have hgk1 := Nat.eq_of_beq_eq_true hgk.1
          have e1 := Nat.eq_of_beq_eq_true hgk.2
          subst e1
          have ht : tTY ci f = .long := by
              cases hq : tTY ci f <;> rw [hq] at hty2 <;> first | rfl | cases hty2
          refine go a (.inr (.inl x)) r (rJ h a (up (hJ h a) f x)) rfl hgk1 (fun ad => by rw [ht]; exact ⟨rfl, rfl⟩) rfl (fun hh hv => hok_rJ hh) (fun _ => fixed_rJ) (fun ad => ?_) (fun ad j hj => ?_) rows_offJ hs2
          · rw [fv1 hty.symm, hJ_rJ, if_pos rfl, up_self]
            rfl
          · unfold fv
            rw [hJ_rJ, if_pos rfl, up_cast _ _ _ _ hj]
            rfl
        · rename_i b a r
          obtain ⟨hgk, hs2⟩ := ob_spec hs
          clear hs
          simp only [Bool.and_eq_true] at hgk
          obtain ⟨g1, g2, g3, g4⟩ := hgk
          have hgk1 := Nat.eq_of_beq_eq_true g1
          have e1 := Nat.eq_of_beq_eq_true g2
          have g3 := blt_spec g3
          subst e1
          refine go a (.inr (.inr (some b))) r (rR h a (up (hR h a) f (some b))) rfl hgk1 (fun ad => ?_) rfl (fun hh hv => hok_rR hh ?_) (fun hfx hfix => ?_) (fun ad => ?_) (fun ad j hj => ?_) rows_offR hs2
          · cases hq : tTY ci f <;> rw [hq] at hty2 <;> first | exact ⟨rfl, rfl⟩ | cases hty2
          · rcases hv with hv | hv
            · exact hv
            · omega
          · rw [hfx] at g4
            refine fixed_rR hfix ?_
            exact Option.isNone_iff_eq_none.mp g4
          · rw [fv2 hty.symm, hR_rR, if_pos rfl, up_self]
            rfl
          · unfold fv
            rw [hR_rR, if_pos rfl, up_cast _ _ _ _ hj]
            rfl
        · exact hs.elim
      · cases hrow
    · exact hs.elim
  · unfold rowF at hrow
    rw [Bool.and_eq_true] at hrow
    obtain ⟨hd0, hl⟩ := hrow
    obtain ⟨hd, rfl⟩ := dec1_spec hd0
    intro ad H locs L C e0 e1 hS
    refine va_gets hx hb hZ hS hown (htw _ _ hl) (fun _ q => q) hd ?_
    have g := hk _ _ _ _ _ _ hs ad H locs L (C.stk (vokc (show vok (hN h) (.inr (.inr (some 1001))) from Or.inr (by omega)) C.st)) e0 e1 hS
    rw [List.map_cons, show cv ad (.inr (.inr (some 1001))) = .ref lb from by rw [← e1]; rfl] at g
    exact g
  · exact ho hs
end Ctx

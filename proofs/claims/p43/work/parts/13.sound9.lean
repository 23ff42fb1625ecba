/-! ===== ends, what is thrown; a whole method ===== -/
theorem wo_congr {ad ad1 : Nat → Nat} {ca : Nat → ClassId} {h : Hp} (hh : hok h) (ha : ∀ a, a < 63 → ad1 a = ad a) : wo ad1 ca h = wo ad ca h := by
  unfold wo
  refine List.map_congr_left fun a hm => ?_
  have hm := List.mem_range.mp hm
  have hN9 := hh.2.2
  have e5 : ∀ k, (hR h a k).map ad1 = (hR h a k).map ad := by
    intro k
    cases hr : hR h a k with
    | none => rfl
    | some b =>
      have := hh.2.1 _ _ _ hr
      show some (ad1 b) = some (ad b)
      rw [ha b (by omega)]
  rw [ha a (by omega)]
  unfold ent fv
  simp only [e5]
def rkOK (rk : Nat) (ret : Option FieldType) : Bool := match rk, ret with
  | 0, none => true
  | 1, some .int => true
  | 2, some .boolean => true
  | 3, some .long => true
  | 4, some (.array _) => true
  | _, _ => false
theorem rk0 {r : Option FieldType} (h : rkOK 0 r = true) : r = none := by
  cases r with
  | none => rfl
  | some t => cases t <;> cases h
theorem rk1 {r : Option FieldType} (h : rkOK 1 r = true) : r = some .int := by
  cases r with
  | none => cases h
  | some t => cases t <;> first | rfl | cases h
theorem rk2 {r : Option FieldType} (h : rkOK 2 r = true) : r = some .boolean := by
  cases r with
  | none => cases h
  | some t => cases t <;> first | rfl | cases h
theorem rk3 {r : Option FieldType} (h : rkOK 3 r = true) : r = some .long := by
  cases r with
  | none => cases h
  | some t => cases t <;> first | rfl | cases h
theorem rk4 {r : Option FieldType} (h : rkOK 4 r = true) : ∃ t, r = some (.array t) := by
  cases r with
  | none => cases h
  | some t => cases t <;> first | exact ⟨_, rfl⟩ | cases h
def adZ (ad0 ad : Nat → Nat) : Nat → Nat := fun a => if a < 63 then ad a else ad0 a
theorem lmk_get {js : List Nat} {vs : List AV} {i n k : Nat} {v : AV} (h : lget (lmk i n js vs) k = some v) : ∃ x : Nat, js[x]? = some (i + k) ∧ vs[x]? = some v := by
  induction n generalizing i k js vs with
  | zero => simp [lmk, lget] at h
  | succ n ih =>
    cases js with
    | nil =>
      simp only [lmk] at h
      cases k with
      | zero => simp [lget] at h
      | succ k =>
        simp only [lget] at h
        obtain ⟨x, h1, h2⟩ := ih h
        simp at h1
    | cons j js =>
      cases vs with
      | nil =>
        simp only [lmk] at h
        cases k with
        | zero => simp [lget] at h
        | succ k =>
          simp only [lget] at h
          obtain ⟨x, h1, h2⟩ := ih h
          simp at h1
      | cons v0 vs =>
        simp only [lmk] at h
        cases hb : Nat.beq i j with
        | true =>
          rw [hb] at h
          have e := Nat.eq_of_beq_eq_true hb
          subst e
          cases k with
          | zero =>
            simp only [cond_true, lget, Option.some.injEq] at h
            exact ⟨0, rfl, by rw [h]; rfl⟩
          | succ k =>
            simp only [cond_true, lget] at h
            obtain ⟨x, h1, h2⟩ := ih h
            exact ⟨x + 1, by rw [List.getElem?_cons_succ, h1]; congr 1; omega, h2⟩
        | false =>
          rw [hb] at h
          cases k with
          | zero => simp [lget] at h
          | succ k =>
            simp only [cond_false, lget] at h
            obtain ⟨x, h1, h2⟩ := ih h
            exact ⟨x, by rw [h1]; congr 1; omega, h2⟩
theorem lsel_get {ls : LSt} {js : List Nat} {vs : List AV} (h : lsel ls js = some vs) {x j : Nat} {v : AV} (h1 : js[x]? = some j) (h2 : vs[x]? = some v) : lget ls j = some v := by
  induction js generalizing vs x with
  | nil => simp at h1
  | cons j0 js ih =>
    unfold lsel at h
    split at h
    · rename_i w hw
      split at h
      · rename_i l hl
        cases h
        cases x with
        | zero =>
          rw [List.getElem?_cons_zero] at h1 h2
          cases h1; cases h2
          exact hw
        | succ x =>
          rw [List.getElem?_cons_succ] at h1 h2
          exact ih hl h1 h2
      · cases h
    · cases h
theorem lsel_mem {ls : LSt} {js : List Nat} {vs : List AV} (h : lsel ls js = some vs) {v : AV} (hv : v ∈ vs) : ∃ j, lget ls j = some v := by
  induction js generalizing vs with
  | nil => simp only [lsel, Option.some.injEq] at h; subst h; cases hv
  | cons j0 js ih =>
    unfold lsel at h
    split at h
    · rename_i w hw
      split at h
      · rename_i l hl
        cases h
        rcases List.mem_cons.mp hv with rfl | hv
        · exact ⟨_, hw⟩
        · exact ih hl hv
      · cases h
    · cases h
theorem seek_spec {l : List (Nat × Row)} {i : Nat} {q : Nat × Row} {tl : List (Nat × Row)} (h : seek l i = q :: tl) : q ∈ l ∧ q.1 = i ∧ ∀ r ∈ tl, r ∈ l := by
  induction l with
  | nil => cases h
  | cons a l ih =>
    unfold seek at h
    cases hb : Nat.beq a.1 i with
    | true =>
      rw [hb] at h
      cases h
      exact ⟨List.mem_cons_self, Nat.eq_of_beq_eq_true hb, fun r hr => List.mem_cons_of_mem _ hr⟩
    | false =>
      rw [hb] at h
      obtain ⟨h1, h2, h3⟩ := ih h
      exact ⟨List.mem_cons_of_mem _ h1, h2, fun r hr => List.mem_cons_of_mem _ (h3 r hr)⟩
def isSw : Instr → Bool
  | .tableswitch _ _ _ _ => true
  | _ => false
def rowB (own nL : Nat) (mi : Bool) (cc : ByteArray) (q : Nat × Row) : Bool := rowA own nL cc q.1 q.2.1 q.2.2.1 q.2.2.2.1 q.2.2.2.2 && cond (isSw q.2.1) true (rowF own mi cc q.1 q.2.1 q.2.2.1 q.2.2.2.1 q.2.2.2.2 && cond (isCl q.2.1 q.2.2.2.2) (rowS own cc q.1 q.2.1 q.2.2.1 q.2.2.2.2) (rowD own cc q.1 q.2.1 q.2.2.1 q.2.2.2.1 q.2.2.2.2))
theorem lent_get {ad : Nat → Nat} {as : List AV} {i k : Nat} {v : AV} (h : lget (lent as) i = some v) : (k + i, cv ad v) ∈ lv_args k (as.map (cv ad)) := by
  induction as generalizing i k with
  | nil => simp [lent, lget] at h
  | cons a as ih =>
    simp only [lent] at h
    rw [List.map_cons]
    unfold lv_args
    cases i with
    | zero =>
      simp only [lget, Option.some.injEq] at h
      subst h
      exact List.mem_cons_self
    | succ i =>
      refine List.mem_cons_of_mem _ ?_
      simp only [lget] at h
      cases hc : cat1 a with
      | true =>
        rw [hc] at h
        have h2 := ih (k := k + 1) h
        rw [show (cv ad a).category = 1 from cv_cat1 ad a hc]
        rw [show k + (i + 1) = k + 1 + i from by omega]
        exact h2
      | false =>
        rw [hc] at h
        simp only [cond_false] at h
        have e2 : (cv ad a).category = 2 := by
          rcases a with x | x | (_ | x) <;> first | (simp [cat1] at hc; done) | rfl
        rw [e2]
        cases i with
        | zero => simp [lget] at h
        | succ i =>
          simp only [lget] at h
          have h2 := ih (k := k + 2) h
          rw [show k + (i + 1 + 1) = k + 2 + i from by omega]
          exact h2
theorem lpad_get {ls : LSt} {n i : Nat} {v : AV} (h : lget (lpad ls n) i = some v) : lget ls i = some v := by
  induction ls generalizing n i with
  | nil =>
    simp only [lpad] at h
    exfalso
    induction n generalizing i with
    | zero => simp [lget] at h
    | succ n ih =>
      rw [List.replicate_succ] at h
      cases i with
      | zero => simp [lget] at h
      | succ i => exact ih h
  | cons a l ih =>
    cases i with
    | zero => exact h
    | succ i => exact ih h
theorem sl_len (ad : Nat → Nat) (as : List AV) : (lg_sl (as.map (cv ad))).length = catS as := by
  induction as with
  | nil => rfl
  | cons a as ih =>
    rw [List.map_cons]
    unfold lg_sl at ih ⊢
    rw [List.flatMap_cons, List.length_append, ih]
    rw [show catS (a :: as) = (if cat1 a then 1 else 2) + catS as from rfl]
    rcases a with x | x | (_ | x) <;> rfl
section Ctx
variable {p : Program} {l : Launch} {e : Env} {R : Room} {s : State} {m : MethodId} {ag : Array Value} {below : List Frame} {meth : Method} {c : Code} {Q : State → Prop} {cc : ByteArray} {nL : Nat} {D : va_G} {ca : Nat → ClassId} {A : Nat → Prop} {b0 : B0} {lb sa sv : Nat} {fx : Bool}
theorem stpE_sound {own MC MS HT : Nat} (K : Kn p l R s m ag c cc nL D ca A lb sa sv own MC MS HT) (hl : l.stackTraces = false) {hd : List (Nat × (Nat × (Nat × Nat)))} (htab : hd = [] → c.exceptionTable.toList = []) {rk : Nat} (hrk : rkOK rk meth.sig.returnType = true) (hlocks : meth.locks = false) {ad0 : Nat → Nat} {h0 : Hp} (hb0 : b0.2 = (hN h0, ad0)) {Rt : Option AV → Hp → Prop} {X : Nat → Hp → Prop} (hHT : 1 ≤ HT)
    {pc : Nat} {i : Instr} {nx : Nat} {ax : Int} {tg : List Nat} {ls : LSt} {st : List AV} {h : Hp} {u v : Nat}
    (hrow : rowD own cc pc i nx ax tg = true) (hs : stpE rk MC MS hd Rt X i tg st h u v) : AW p l e R s m ag below meth c (vx_MQ below (QQ D ca fx A ad0 h0 Rt) (XQ D ca fx A ad0 h0 X) ag s MC MS A) nL D ca A b0 lb fx pc ls st h u v := by
  obtain ⟨hx, hb, hml, hown, htw, hpay, hF, hV, hA, hMC, hMS, hRf, hRl⟩ := K
  have hbb : ∀ {ad : Nat → Nat} {H : Heap} {L : Array Slot}, Cn D ca A ad fx nL ls st h H L → E0 b0 ad h → BB D ca fx A ad0 h0 (adZ ad0 ad) h H := by
    intro ad H L C e0
    have hN9 := C.2.2.2.2.2.1.2.2
    have hwo : wo (adZ ad0 ad) ca h = wo ad ca h := wo_congr C.2.2.2.2.2.1 (fun a ha => by unfold adZ; rw [if_pos ha])
    obtain ⟨z1, z2, z3⟩ := e0
    rw [hb0] at z2 z3
    refine ⟨fun a ha => ?_, by rw [hwo]; exact C.2.1, by rw [hwo]; exact C.2.2.1, C.2.2.2.2.2.1, C.2.2.2.2.2.2, z3⟩
    unfold adZ
    split
    · rcases ha with ha | ha
      · exact z2 a ha
      · omega
    · rfl
  unfold stpE at hs
  split at hs
  · -- throw
    rename_i idx
    split at hs
    · rename_i E p1 p2 tl
      obtain ⟨hq, hX⟩ := ob_spec hs
      simp only [Bool.and_eq_true] at hq
      obtain ⟨q1, q2, q3, q4⟩ := hq
      have q1 := htab (List.isEmpty_iff.mp q1)
      have q2 := blt_spec q2
      have q3 := Nat.le_of_ble_eq_true q3
      have q4 := Nat.le_of_ble_eq_true q4
      unfold rowD at hrow
      dsimp only at hrow
      split at hrow
      · rename_i heq; cases heq
      · rename_i E2 p12 is ic w heq
        cases heq
        simp only [Bool.and_eq_true, decide_eq_true_eq] at hrow
        obtain ⟨d0, d3, r1, r2, r3, r4, r5, r6⟩ := hrow
        have r1 := Nat.eq_of_beq_eq_true r1
        have r2 := blt_spec r2
        have r4 := Nat.eq_of_beq_eq_true r4
        subst r1; subst r4
        obtain ⟨tx, htx⟩ := Option.isSome_iff_exists.mp r5
        obtain ⟨sa9, hsa⟩ := hV.2.2.2.1 _ (look_mem htx)
        have hw1 := htw _ _ r3
        have hat : ∀ w ∈ vx_atS RX9 (tIC E) (tEX E) exn, w.before ag s = true := by
          intro w9 hw9
          have := List.all_eq_true.mp (thr_in E r2) w9 hw9
          simp only [Bool.and_eq_true, Bool.or_eq_true] at this
          obtain ⟨t1, t2⟩ := this
          rcases t2 with t2 | t2
          · exact wsg_before hpay (of_decide_eq_true t1) t2
          · exact cr_use t2 (hV.2.1 _ (of_decide_eq_true t1) t2)
        have hot : ∀ w ∈ Jvm.Cond.classLink RX9 idx (tEX E) :: Jvm.Cond.initialized (tEX E) :: vx_atS RX9 (tIC E) (tEX E) exn, vx_ot w = true := by
          intro w9 hw9
          rcases List.mem_cons.mp hw9 with rfl | hw9
          · rfl
          · exact List.all_eq_true.mp (thr_ot E r2) w9 hw9
        intro ad H locs L C e0 e1 hS
        have hxq : ∀ t : State, s.vm.Alike t.vm → H.size ≤ t.heap.size → (∀ q : Nat, q < H.size → t.heap[q]? = H[q]?) → XQ D ca fx A ad0 h0 X (tEX E) s t := by
          intro t _ hz hq
          have b := hbb C e0
          refine ⟨⟨E, h, adZ ad0 ad, r2, rfl, hX, b.1, b.2.1.kept (fun k9 q9 hk9 => hq q9.1 (b.2.1 k9 q9 hk9).lt), b.2.2.1, b.2.2.2.1, b.2.2.2.2.1, b.2.2.2.2.2⟩, ⟨Nat.le_trans hS.1 hz, fun q h1 h2 => by rw [hq q (Nat.lt_of_lt_of_le h1 hS.1)]; exact hS.2.1 q h1 h2⟩⟩
        have hno : ∀ k9, ∀ x ∈ c.exceptionTable.toList, covers x k9 = false := by
          intro k9 x hx9
          rw [q1] at hx9
          cases hx9
        have hcat : ((st.map (cv ad)).map fun v => v.category).sum ≤ 8 := by rw [cv_sum]; exact q4
        cases hb9 : Nat.beq w 0 with
        | true =>
          rw [hb9] at r6
          simp only [cond_true, Bool.and_eq_true, decide_eq_true_eq] at r6
          obtain ⟨d4, d6, d9⟩ := r6
          exact vx_throwS hx hb hl hown (thr_fit E r2) exn_fit hw1 (wsg_before hpay (init_in E r2) rfl) hsa hat hot hF.2.2.1 hF.2.2.2.1 hS (by rw [hml]; exact C.1.1) d0 d3 d4 d6 d9 (hno _) (by show 2 + 3 < R.frames; omega) (by show _ + (13 * (2 + 1) + 43) ≤ R.locals; omega) (by omega) (by omega) hlocks hxq hS.2.2 (by omega) (by omega)
        | false =>
          rw [hb9] at r6
          simp only [cond_false, Bool.and_eq_true, decide_eq_true_eq] at r6
          obtain ⟨d4, d6, d9⟩ := r6
          exact vx_throwSW hx hb hl hown (thr_fit E r2) exn_fit hw1 (wsg_before hpay (init_in E r2) rfl) hsa hat hot hF.2.2.1 hF.2.2.2.1 hS (by rw [hml]; exact C.1.1) d0 d3 d4 d6 d9 (hno _) (by show 2 + 3 < R.frames; omega) (by show _ + (13 * (2 + 1) + 43) ≤ R.locals; omega) (by omega) (by omega) hlocks hxq hS.2.2 (by omega) (by omega)
      · cases hrow
    · exact hs.elim
  · -- ireturn
    obtain ⟨hd, rfl⟩ := dec1_spec hrow
    split at hs
    · rename_i x
      obtain ⟨hq, hs1⟩ := ob_spec hs
      rw [Bool.and_eq_true] at hq
      have q1 := Nat.le_of_ble_eq_true hq.1
      have q2 := Nat.le_of_ble_eq_true hq.2
      intro ad H locs L C e0 e1 hS
      have hqq : Rt (some (.inl x)) h → ∀ t : State, t.heap = H → s.WarmedH t.vm → QQ D ca fx A ad0 h0 Rt ag s (.returned (some (.int (iw x)))) t := by
        intro hr t ht _
        exact ⟨⟨some (.inl x), h, adZ ad0 ad, rfl, hr, fun w hw => (by cases hw; exact C.st _ List.mem_cons_self), by rw [ht]; exact hbb C e0⟩, hS.F ht⟩
      refine W.widen (k := MC) (n := MS) q1 q2 ?_
      split at hs1
      · have hr9 : meth.sig.returnType = some .int := rk1 hrk
        exact vx_ret (W.iret (v := iw x) hx hb hr9 (hqq hs1) hS.2.2 hd hlocks)
      · have hr9 : meth.sig.returnType = some .boolean := rk2 hrk
        exact vx_ret (W.zret (v := iw x) hx hb hr9 (by rcases hs1.1 with rfl | rfl <;> rfl) (hqq hs1.2) hS.2.2 hd hlocks)
      · exact hs1.elim
    · exact hs.elim
  · -- lreturn
    obtain ⟨hd, rfl⟩ := dec1_spec hrow
    split at hs
    · rename_i x
      obtain ⟨hq, hs1⟩ := ob_spec hs
      simp only [Bool.and_eq_true] at hq
      obtain ⟨q0, q1, q2⟩ := hq
      have q0 := Nat.eq_of_beq_eq_true q0
      have q1 := Nat.le_of_ble_eq_true q1
      have q2 := Nat.le_of_ble_eq_true q2
      intro ad H locs L C e0 e1 hS
      refine W.widen (k := MC) (n := MS) q1 q2 ?_
      have hr9 : meth.sig.returnType = some .long := by subst q0; exact rk3 hrk
      exact vx_ret (W.lret (v := x) hx hb hr9 (fun t ht _ => ⟨⟨some (.inr (.inl x)), h, adZ ad0 ad, rfl, hs1, fun w hw => (by cases hw; trivial), by rw [ht]; exact hbb C e0⟩, hS.F ht⟩) hS.2.2 hd hlocks)
    · exact hs.elim
  · -- areturn
    obtain ⟨hd, rfl⟩ := dec1_spec hrow
    split at hs
    · rename_i x
      obtain ⟨hq, hs1⟩ := ob_spec hs
      simp only [Bool.and_eq_true] at hq
      obtain ⟨q9, q0, q1, q2⟩ := hq
      have q9 := blt_spec q9
      have q0 := Nat.eq_of_beq_eq_true q0
      have q1 := Nat.le_of_ble_eq_true q1
      have q2 := Nat.le_of_ble_eq_true q2
      intro ad H locs L C e0 e1 hS
      refine W.widen (k := MC) (n := MS) q1 q2 ?_
      have hr9 : ∃ t9, meth.sig.returnType = some (.array t9) := by subst q0; exact rk4 hrk
      obtain ⟨t9, hr9⟩ := hr9
      refine vx_ret (W.aret (v := .ref (ad x)) hx hb hr9 (Or.inr ⟨t9, rfl⟩) (Or.inr ⟨_, rfl⟩) (fun t ht _ => ⟨⟨some (.inr (.inr (some x))), h, adZ ad0 ad, ?_, hs1, fun w hw => (by cases hw; exact C.st _ List.mem_cons_self), by rw [ht]; exact hbb C e0⟩, hS.F ht⟩) hS.2.2 hd hlocks)
      show _ = Outcome.returned (some (Value.ref (adZ ad0 ad x)))
      unfold adZ
      rw [if_pos q9]
    · exact hs.elim
  · -- return
    obtain ⟨hd, rfl⟩ := dec1_spec hrow
    split at hs
    · obtain ⟨hq, hs1⟩ := ob_spec hs
      simp only [Bool.and_eq_true] at hq
      obtain ⟨q0, q1, q2⟩ := hq
      have q0 := Nat.eq_of_beq_eq_true q0
      have q1 := Nat.le_of_ble_eq_true q1
      have q2 := Nat.le_of_ble_eq_true q2
      intro ad H locs L C e0 e1 hS
      refine W.widen (k := MC) (n := MS) q1 q2 ?_
      have hr9 : meth.sig.returnType = none := by subst q0; exact rk0 hrk
      exact vx_ret (W.vret hx hb hr9 (fun t ht _ => ⟨⟨none, h, adZ ad0 ad, rfl, hs1, fun w hw => (by cases hw), by rw [ht]; exact hbb C e0⟩, hS.F ht⟩) hS.2.2 hd hlocks)
    · exact hs.elim
  · exact hs.elim
end Ctx

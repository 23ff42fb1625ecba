/-! ===== the abstract machine is right: arrays, what is made ===== -/
def adN (ad : Nat → Nat) (n q : Nat) : Nat → Nat := fun a => if a = n then q else ad a
theorem hI_new (h : Hp) (a : Nat) : hI (hnew h) a = if a = hN h then (fun _ => 0) else hI h a := rfl
theorem hJ_new (h : Hp) (a : Nat) : hJ (hnew h) a = if a = hN h then (fun _ => 0) else hJ h a := rfl
theorem hR_new (h : Hp) (a : Nat) : hR (hnew h) a = if a = hN h then (fun _ => none) else hR h a := rfl
theorem hN_new (h : Hp) : hN (hnew h) = hN h + 1 := rfl
theorem map_adN {ad : Nat → Nat} {n q : Nat} {r : Option Nat} (h : ∀ b, r = some b → b < n ∨ 1000 ≤ b) (hn : n < 1000) : r.map (adN ad n q) = r.map ad := by
  cases r with
  | none => rfl
  | some b =>
    have := h b rfl
    show some (adN ad n q b) = some (ad b)
    unfold adN
    rw [if_neg (by omega)]
theorem cv_adN {ad : Nat → Nat} {n q : Nat} {v : AV} (h : vok n v) (hn : n < 1000) : cv (adN ad n q) v = cv ad v := by
  rcases v with x | x | r
  · rfl
  · rfl
  · show va_rf (r.map (adN ad n q)) = va_rf (r.map ad)
    rw [map_adN (fun b e => by subst e; exact h) hn]
theorem lp_adN {ad : Nat → Nat} {n q : Nat} {ls : LSt} (h : lok n ls) (hn : n < 1000) {L : Array Slot} {nL : Nat} (hl : lv_has L nL (lp ad ls)) : lv_has L nL (lp (adN ad n q) ls) := by
  refine lhas_mono hl ?_
  rintro ⟨j, w⟩ hq
  obtain ⟨u, hu, rfl⟩ := lp_mem.mp hq
  exact lp_mem.mpr ⟨u, hu, cv_adN (h j u hu) hn⟩
theorem st_adN {ad : Nat → Nat} {n q : Nat} {st : List AV} (h : ∀ v ∈ st, vok n v) (hn : n < 1000) : st.map (cv (adN ad n q)) = st.map (cv ad) := List.map_congr_left fun v hv => cv_adN (h v hv) hn
theorem vok_up {n k : Nat} {v : AV} (h : vok n v) (hk : n ≤ k) : vok k v := by
  rcases v with x | x | (_ | a)
  · exact h
  · trivial
  · trivial
  · rcases h with h | h
    · exact Or.inl (by omega)
    · exact Or.inr h
theorem wo_new {ad : Nat → Nat} {ca : Nat → ClassId} {h : Hp} {q : Nat} {x : va_E} (hh : hok h) (hlt : hN h < 63) (hx : ent (adN ad (hN h) q) ca (hnew h) (hN h) = x) : wo ad ca h ++ [(q, x)] = wo (adN ad (hN h) q) ca (hnew h) := by
  unfold wo
  rw [hN_new, List.range_succ, List.map_append]
  congr 1
  · refine List.map_congr_left fun a ha => ?_
    have ha := List.mem_range.mp ha
    have e1 : adN ad (hN h) q a = ad a := by unfold adN; rw [if_neg (by omega)]
    rw [e1]
    congr 1
    have e2 : hI (hnew h) a = hI h a := by rw [hI_new, if_neg (by omega)]
    have e3 : hJ (hnew h) a = hJ h a := by rw [hJ_new, if_neg (by omega)]
    have e4 : hR (hnew h) a = hR h a := by rw [hR_new, if_neg (by omega)]
    have e5 : ∀ k, (hR h a k).map (adN ad (hN h) q) = (hR h a k).map ad := fun k => map_adN (fun b e => Or.inl (hh.2.1 a k b e)) (by omega)
    unfold ent fv
    rw [e2, e3, e4]
    simp only [e5]
  · rw [List.map_cons, List.map_nil, hx]
    have e1 : adN ad (hN h) q (hN h) = q := by unfold adN; rw [if_pos rfl]
    rw [e1]
theorem hok_new {h : Hp} (hh : hok h) (hlt : hN h < 63) : hok (hnew h) := by
  refine ⟨fun a k => ?_, fun a k b hb => ?_, by rw [hN_new]; omega⟩
  · rw [hI_new]
    split
    · exact rng0
    · exact hh.1 a k
  · rw [hR_new] at hb
    split at hb
    · cases hb
    · have := hh.2.1 a k b hb
      rw [hN_new]; omega
theorem gf_arr : ∀ a, a < 63 → 20 ≤ (tGK a).1 → nth oGF a [] = [] := by decide +kernel
theorem fixed_newA {h : Hp} (hf : fixed h) (hlt : hN h < 63) (hk : 20 ≤ (tGK (hN h)).1) : fixed (hnew h) := by
  intro a k b ha hb
  rw [hN_new] at ha
  by_cases e : a = hN h
  · subst e
    unfold tGF at hb
    rw [gf_arr _ hlt hk] at hb
    cases hb
  · obtain ⟨h1, h2⟩ := hf a k b (by omega) hb
    exact ⟨by rw [hR_new, if_neg e]; exact h1, by rw [hN_new]; omega⟩
/-- what is left of a picture where a new object or array has come -/
theorem Cn.new {D : va_G} {ca : Nat → ClassId} {A : Nat → Prop} {fx : Bool} {nL : Nat} {ad : Nat → Nat} {ls : LSt} {st r : List AV} {h : Hp} {H H1 : Heap} {L : Array Slot} (C : Cn D ca A ad fx nL ls st h H L) (hlt : hN h < 63) {q : Nat} {x : va_E} (hx : ent (adN ad (hN h) q) ca (hnew h) (hN h) = x) (hP : va_P D vwCl (wo ad ca h ++ [(q, x)]) H1) (hD : va_D A (wo ad ca h ++ [(q, x)])) (hr : ∀ v ∈ r, vok (hN h) v) (hfx : fx = true → fixed (hnew h)) :
    Cn D ca A (adN ad (hN h) q) fx nL ls (.inr (.inr (some (hN h))) :: r) (hnew h) H1 L ∧ (.inr (.inr (some (hN h))) :: r : List AV).map (cv (adN ad (hN h) q)) = .ref q :: r.map (cv ad) := by
  rw [wo_new C.2.2.2.2.2.1 hlt hx] at hP hD
  refine ⟨⟨lp_adN C.2.2.2.1 (by omega) C.1, hP, hD, fun i v hv => vok_up (C.2.2.2.1 i v hv) (by rw [hN_new]; omega), ?_, hok_new C.2.2.2.2.2.1 hlt, hfx⟩, ?_⟩
  · exact vokc (Or.inl (by rw [hN_new]; omega)) (fun v hv => vok_up (hr v hv) (by rw [hN_new]; omega))
  · rw [List.map_cons, st_adN hr (by omega)]
    congr 1
    show va_rf (some (adN ad (hN h) q (hN h))) = _
    unfold adN
    rw [if_pos rfl]
    rfl
theorem adN_far {ad : Nat → Nat} {n q k : Nat} (hn : n < 63) (hk : 63 ≤ k) : adN ad n q k = ad k := by
  unfold adN
  rw [if_neg (by omega)]
theorem E0.new {b : B0} {ad : Nat → Nat} {h : Hp} {q : Nat} (e : E0 b ad h) (hn : hN h < 63) : E0 b (adN ad (hN h) q) (hnew h) := by
  obtain ⟨e1, e2, e3⟩ := e
  refine ⟨by rw [adN_far hn (by omega)]; exact e1, fun a ha => ?_, by rw [hN_new]; omega⟩
  unfold adN
  rw [if_neg (by omega)]
  exact e2 a ha
theorem len_all : (List.range 63).all (fun a => cond (Nat.ble 20 (tGK a).1) (decide (0 ≤ (tGK a).2 ∧ (tGK a).2 < 1000000)) true) = true := by decide +kernel
theorem len_ok {a : Nat} (h : a < 63) (hk : 20 ≤ (tGK a).1) : 0 ≤ (tGK a).2 ∧ (tGK a).2 < 1000000 := by
  have := List.all_eq_true.mp len_all a (List.mem_range.mpr h)
  rw [Nat.ble_eq_true_of_le hk] at this
  exact of_decide_eq_true this
theorem ca_eq {D : va_G} {s : State} {cA cB : ClassId} {ty : FieldType} {t4 : List (ClassId × FieldType)} {i : Nat} (hK : va_K D vwCl (t4 ++ [(cA, ty)]) s) (hi : t4[i]? = some (cB, ty)) (hf : ∀ c, va_RA s c ty → s.vm.findClass ("[" ++ ty.toString) = some c) : cA = cB := by
  have h1 := (hK.2 t4.length (cA, ty) (by simp)).2
  have h2 := (hK.2 i (cB, ty) (by rw [List.getElem?_append_left (List.getElem?_eq_some_iff.mp hi).1]; exact hi)).2
  have := (hf _ h1).symm.trans (hf _ h2)
  exact Option.some.inj this
section Ctx
variable {p : Program} {l : Launch} {e : Env} {R : Room} {s : State} {m : MethodId} {ag : Array Value} {below : List Frame} {meth : Method} {c : Code} {Q : State → Prop} {cc : ByteArray} {nL : Nat} {D : va_G} {ca : Nat → ClassId} {A : Nat → Prop} {b0 : B0} {lb : Nat} {fx : Bool}
theorem stpC_sound (hx : p.tables.exec = Jvm.exec) (hb : c.code = cc) {own : Nat} (hown : s.vm.findClass (tNM own) = some m.cls) (htw : ∀ i w, wd i w = true → w.before ag s = true)
    (hK : va_K D vwCl [(ca 0, .int), (ca 1, .long), (ca 2, .boolean), (ca 3, .object RX6)] s) {MC MS : Nat} (hMC : MC ≤ R.cells) (hMS : MS ≤ R.slots) {SL : Option Int} {SX : Int → Int}
    (hT : va_T .long lb 6 (fun j => .long (tLB j)) A s s.heap) (hscr : ∀ n, SL = some n → 0 ≤ n ∧ Rng n ∧ (∀ j, Rng (SX j)) ∧ va_X b0.1 n.toNat (fun j => iw (SX j)) s s.heap ∧ b0.1 < s.heap.size ∧ ¬ A b0.1) (hA : ∀ q, s.heap.size ≤ q → A q) {mi : Bool}
    {k : AK} (hk : ∀ pc1 ls1 st1 h1 u1 v1, k pc1 ls1 st1 h1 u1 v1 → AW p l e R s m ag below meth c Q nL D ca A b0 lb fx pc1 ls1 st1 h1 u1 v1)
    {pc : Nat} {i : Instr} {nx : Nat} {ax : Int} {tg : List Nat} {ls : LSt} {st : List AV} {h : Hp} {u v : Nat} {other : Prop} (ho : other → AW p l e R s m ag below meth c Q nL D ca A b0 lb fx pc ls st h u v)
    (hrow : rowF own mi cc pc i nx ax tg = true) (hs : stpC MC MS SL SX k i nx ls st h u v other) : AW p l e R s m ag below meth c Q nL D ca A b0 lb fx pc ls st h u v := by
  unfold stpC at hs
  split at hs
  · -- iaload
    obtain ⟨hd, rfl⟩ := dec1_spec hrow
    obtain ⟨j, a, r, rfl, hs1⟩ := ixA_spec hs
    clear hs
    intro ad H locs L C e0 e1 hS
    obtain ⟨hj, hva, h2⟩ := vok2 C.st
    have hj : Rng j := hj
    cases hb9 : Nat.beq a 1000 with
    | true =>
      rw [hb9] at hs1
      have ea := Nat.eq_of_beq_eq_true hb9
      subst ea
      simp only [cond_true] at hs1
      split at hs1
      · rename_i n
        obtain ⟨hi, hs2⟩ := hs1
        obtain ⟨z0, z1, z2, z3, z4, z5⟩ := hscr n rfl
        obtain ⟨i1, i2⟩ := iw_in hj hi
        have g := hk _ _ _ _ _ _ hs2 ad H locs L (C.stk (vokc (z2 j) h2)) e0 e1 hS
        rw [List.map_cons, List.map_cons, show cv ad (.inr (.inr (some 1000))) = .ref b0.1 from by rw [← e0.1]; rfl]
        refine va_sld hx hb z3 z4 z5 hS i1 hd ?_
        show W p l e R s m ag below meth c H locs u v Q (F0 m (pc + 1) L (.int (iw (SX ((iw j).toNatClampNeg : Nat))) :: r.map (cv ad)))
        rw [i2, show ((j.toNat : Nat) : Int) = j from by have := hi.1; omega]
        exact g
      · exact hs1.elim
    | false =>
      rw [hb9] at hs1
      simp only [cond_false] at hs1
      obtain ⟨hkd, hi, hs2⟩ := ob_spec (gk_spec hs1)
      have hkd := Nat.eq_of_beq_eq_true hkd
      have ha : a < hN h := C.obj hva (by omega)
      obtain ⟨i1, i2⟩ := iw_in hj hi
      have g := hk _ _ _ _ _ _ hs2 ad H locs L (C.stk (vokc (C.2.2.2.2.2.1.1 a j) h2)) e0 e1 hS
      refine va_iald hx hb hK C.2.1 a 0 (by rw [wo_at ha, ent_20 hkd]) rfl i1 hd ?_
      show W p l e R s m ag below meth c H locs u v Q (F0 m (pc + 1) L (.int (iw (hI h a ((iw j).toNatClampNeg : Nat))) :: r.map (cv ad)))
      rw [i2, show ((j.toNat : Nat) : Int) = j from by have := hi.1; omega]
      exact g
  · -- laload
    obtain ⟨hd, rfl⟩ := dec1_spec hrow
    obtain ⟨j, a, r, rfl, hs1⟩ := ixA_spec hs
    clear hs
    intro ad H locs L C e0 e1 hS
    obtain ⟨hj, hva, h2⟩ := vok2 C.st
    have hj : Rng j := hj
    cases hb9 : Nat.beq a 1001 with
    | true =>
      rw [hb9] at hs1
      have ea := Nat.eq_of_beq_eq_true hb9
      subst ea
      obtain ⟨hi, hs2⟩ := hs1
      obtain ⟨i1, i2⟩ := iw_in hj hi
      have g := hk _ _ _ _ _ _ hs2 ad H locs L (C.stk (vokc trivial h2)) e0 e1 hS
      rw [List.map_cons, List.map_cons, show cv ad (.inr (.inr (some 1001))) = .ref lb from by rw [← e1]; rfl]
      exact va_tl hx hb hT hS i1 (by rw [i2]; rfl) hd g
    | false =>
      rw [hb9] at hs1
      simp only [cond_false] at hs1
      obtain ⟨hkd, hi, hs2⟩ := ob_spec (gk_spec hs1)
      have hkd := Nat.eq_of_beq_eq_true hkd
      have ha : a < hN h := C.obj hva (by omega)
      obtain ⟨i1, i2⟩ := iw_in hj hi
      have g := hk _ _ _ _ _ _ hs2 ad H locs L (C.stk (vokc trivial h2)) e0 e1 hS
      refine va_lald hx hb hK C.2.1 a 1 (by rw [wo_at ha, ent_21 hkd]) rfl i1 hd ?_
      show W p l e R s m ag below meth c H locs u v Q (F0 m (pc + 1) L (.long (hJ h a ((iw j).toNatClampNeg : Nat)) :: r.map (cv ad)))
      rw [i2, show ((j.toNat : Nat) : Int) = j from by have := hi.1; omega]
      exact g
  · -- baload
    obtain ⟨hd, rfl⟩ := dec1_spec hrow
    obtain ⟨j, a, r, rfl, hs1⟩ := ixA_spec hs
    clear hs
    intro ad H locs L C e0 e1 hS
    obtain ⟨hj, hva, h2⟩ := vok2 C.st
    have hj : Rng j := hj
    obtain ⟨hkd, hi, hs2⟩ := ob_spec (gk_spec hs1)
    have hkd := Nat.eq_of_beq_eq_true hkd
    have ha : a < hN h := C.obj hva (by omega)
    obtain ⟨i1, i2⟩ := iw_in hj hi
    have g := hk _ _ _ _ _ _ hs2 ad H locs L (C.stk (vokc (C.2.2.2.2.2.1.1 a j) h2)) e0 e1 hS
    refine va_zald hx hb hK C.2.1 a 2 (by rw [wo_at ha, ent_22 hkd]) rfl i1 hd ?_
    show W p l e R s m ag below meth c H locs u v Q (F0 m (pc + 1) L (.int (iw (hI h a ((iw j).toNatClampNeg : Nat))) :: r.map (cv ad)))
    rw [i2, show ((j.toNat : Nat) : Int) = j from by have := hi.1; omega]
    exact g
  · -- aaload
    obtain ⟨hd, rfl⟩ := dec1_spec hrow
    obtain ⟨j, a, r, rfl, hs1⟩ := ixA_spec hs
    clear hs
    intro ad H locs L C e0 e1 hS
    obtain ⟨hj, hva, h2⟩ := vok2 C.st
    have hj : Rng j := hj
    obtain ⟨hkd, hi, hs2⟩ := ob_spec (gk_spec hs1)
    have hkd := Nat.eq_of_beq_eq_true hkd
    have ha : a < hN h := C.obj hva (by omega)
    obtain ⟨i1, i2⟩ := iw_in hj hi
    have hv9 : vok (hN h) (.inr (.inr (hR h a j))) := by
      cases hq : hR h a j with
      | none => trivial
      | some b => exact Or.inl (C.2.2.2.2.2.1.2.1 _ _ _ hq)
    have g := hk _ _ _ _ _ _ hs2 ad H locs L (C.stk (vokc hv9 h2)) e0 e1 hS
    refine va_aldq hx hb hK C.2.1 a 3 (by rw [wo_at ha, ent_23 hkd]) rfl i1 hd ?_
    show W p l e R s m ag below meth c H locs u v Q (F0 m (pc + 1) L (va_rf ((hR h a ((iw j).toNatClampNeg : Nat)).map ad) :: r.map (cv ad)))
    rw [i2, show ((j.toNat : Nat) : Int) = j from by have := hi.1; omega]
    exact g
  · -- iastore
    obtain ⟨hd, rfl⟩ := dec1_spec hrow
    obtain ⟨x, q9, rfl, hs0⟩ := oneI_spec hs
    obtain ⟨j, a, r, rfl, hs1⟩ := ixA_spec hs0
    clear hs hs0
    intro ad H locs L C e0 e1 hS
    obtain ⟨hxx, hj, h3⟩ := vok2 C.st
    obtain ⟨hva, h2⟩ := vok1 h3
    have hj : Rng j := hj
    obtain ⟨hkd, hi, hs2⟩ := ob_spec (gk_spec hs1)
    have hkd := Nat.eq_of_beq_eq_true hkd
    have ha : a < hN h := C.obj hva (by omega)
    obtain ⟨i1, i2⟩ := iw_in hj hi
    refine va_iast hx hb hK C.2.1 C.2.2.1 hS a 0 (by rw [wo_at ha, ent_20 hkd]) rfl i1 hd (fun H1 locs1 hP hD hS1 => ?_)
    have hset : (wo ad ca h).set a (ad a, .inl (ca 0, (tGK a).2.toNat, .inl (fun k : Nat => iw (up (hI h a) j x k)))) = wo ad ca (rI h a (up (hI h a) j x)) := set_of rfl (by rw [ent_20 hkd, hI_rI, if_pos rfl]) rows_off ha
    rw [i2, upd_iw hi.1, hset] at hP hD
    exact hk _ _ _ _ _ _ hs2 ad H1 locs1 L ⟨C.1, hP, hD, C.2.2.2.1, h2, hok_rI C.2.2.2.2.2.1 (rng_up C.2.2.2.2.2.1 hxx), fun q => fixed_rI (C.2.2.2.2.2.2 q)⟩ e0 e1 hS1
  · -- lastore
    obtain ⟨hd, rfl⟩ := dec1_spec hrow
    obtain ⟨x, q9, rfl, hs0⟩ := oneL_spec hs
    obtain ⟨j, a, r, rfl, hs1⟩ := ixA_spec hs0
    clear hs hs0
    intro ad H locs L C e0 e1 hS
    obtain ⟨hxx, hj, h3⟩ := vok2 C.st
    obtain ⟨hva, h2⟩ := vok1 h3
    have hj : Rng j := hj
    obtain ⟨hkd, hi, hs2⟩ := ob_spec (gk_spec hs1)
    have hkd := Nat.eq_of_beq_eq_true hkd
    have ha : a < hN h := C.obj hva (by omega)
    obtain ⟨i1, i2⟩ := iw_in hj hi
    refine va_last hx hb hK C.2.1 C.2.2.1 hS a 1 (by rw [wo_at ha, ent_21 hkd]) rfl i1 hd (fun H1 locs1 hP hD hS1 => ?_)
    have hset : (wo ad ca h).set a (ad a, .inl (ca 1, (tGK a).2.toNat, .inr (.inl (fun k : Nat => if k = j.toNat then x else hJ h a k)))) = wo ad ca (rJ h a (up (hJ h a) j x)) := by
      refine set_of rfl ?_ rows_offJ ha
      rw [ent_21 hkd, hJ_rJ, if_pos rfl]
      exact congrArg (fun z => Sum.inl (ca 1, (tGK a).2.toNat, Sum.inr (Sum.inl z))) (upd_gen (g := fun z : Int64 => z) hi.1).symm
    rw [i2] at hP hD
    replace hP : va_P D vwCl ((wo ad ca h).set a (ad a, .inl (ca 1, (tGK a).2.toNat, .inr (.inl (fun k : Nat => if k = j.toNat then x else hJ h a k))))) H1 := hP
    replace hD : va_D A ((wo ad ca h).set a (ad a, .inl (ca 1, (tGK a).2.toNat, .inr (.inl (fun k : Nat => if k = j.toNat then x else hJ h a k))))) := hD
    rw [hset] at hP hD
    exact hk _ _ _ _ _ _ hs2 ad H1 locs1 L ⟨C.1, hP, hD, C.2.2.2.1, h2, hok_rJ C.2.2.2.2.2.1, fun q => fixed_rJ (C.2.2.2.2.2.2 q)⟩ e0 e1 hS1
  · -- bastore
    obtain ⟨hd, rfl⟩ := dec1_spec hrow
    obtain ⟨x, q9, rfl, hs0⟩ := oneI_spec hs
    obtain ⟨j, a, r, rfl, hs1⟩ := ixA_spec hs0
    clear hs hs0
    intro ad H locs L C e0 e1 hS
    obtain ⟨hxx, hj, h3⟩ := vok2 C.st
    obtain ⟨hva, h2⟩ := vok1 h3
    have hj : Rng j := hj
    obtain ⟨hkd, hi, h01, hs2⟩ := ob_spec (gk_spec hs1)
    have hkd := Nat.eq_of_beq_eq_true hkd
    have ha : a < hN h := C.obj hva (by omega)
    obtain ⟨i1, i2⟩ := iw_in hj hi
    refine va_zast hx hb hK C.2.1 C.2.2.1 hS a 2 (by rw [wo_at ha, ent_22 hkd]) rfl i1 hd (fun H1 locs1 hP hD hS1 => ?_)
    have hn9 : vp_nar .boolean (iw x) = iw x := by rcases h01 with rfl | rfl <;> rfl
    have hset : (wo ad ca h).set a (ad a, .inl (ca 2, (tGK a).2.toNat, .inl (fun k : Nat => iw (up (hI h a) j x k)))) = wo ad ca (rI h a (up (hI h a) j x)) := set_of rfl (by rw [ent_22 hkd, hI_rI, if_pos rfl]) rows_off ha
    rw [i2, hn9, upd_iw hi.1, hset] at hP hD
    exact hk _ _ _ _ _ _ hs2 ad H1 locs1 L ⟨C.1, hP, hD, C.2.2.2.1, h2, hok_rI C.2.2.2.2.2.1 (rng_up C.2.2.2.2.2.1 hxx), fun q => fixed_rI (C.2.2.2.2.2.2 q)⟩ e0 e1 hS1
  · -- aastore
    obtain ⟨hd, rfl⟩ := dec1_spec hrow
    obtain ⟨b, q9, rfl, hs0⟩ := oneA_spec hs
    obtain ⟨j, a, r, rfl, hs1⟩ := ixA_spec hs0
    clear hs hs0
    intro ad H locs L C e0 e1 hS
    obtain ⟨hvb, hj, h3⟩ := vok2 C.st
    obtain ⟨hva, h2⟩ := vok1 h3
    have hj : Rng j := hj
    obtain ⟨hkd, hi, hs2⟩ := ob_spec (gk_spec hs1)
    rw [Bool.and_eq_true] at hkd
    have hkd1 := Nat.eq_of_beq_eq_true hkd.1
    have hkd2 := Nat.eq_of_beq_eq_true hkd.2
    have ha : a < hN h := C.obj hva (by omega)
    have hbb : b < hN h := C.obj hvb (by omega)
    obtain ⟨i1, i2⟩ := iw_in hj hi
    refine va_astq (r := cN 5) hx hb hK C.2.1 C.2.2.1 hS a 3 b 5 (by rw [wo_at ha, ent_23 hkd1]) rfl (by rw [wo_at hbb, ent_obj hkd2 (by omega)]) rfl i1 hd (fun H1 locs1 hP hD hS1 => ?_)
    have hset : (wo ad ca h).set a (ad a, .inl (ca 3, (tGK a).2.toNat, .inr (.inr (.inr (.inr (va_up (fun j => (hR h a j).map ad) (iw j).toNatClampNeg (some (ad b)))))))) = wo ad ca (rR h a (up (hR h a) j (some b))) := by
      refine set_of rfl ?_ rows_offR ha
      rw [ent_23 hkd1, hR_rR, if_pos rfl, i2]
      exact congrArg (fun z => Sum.inl (ca 3, (tGK a).2.toNat, Sum.inr (Sum.inr (Sum.inr (Sum.inr z))))) (upd_gen (g := fun z : Option Nat => z.map ad) (x := some b) hi.1).symm
    rw [hset] at hP hD
    refine hk _ _ _ _ _ _ hs2 ad H1 locs1 L ⟨C.1, hP, hD, C.2.2.2.1, h2, hok_rR C.2.2.2.2.2.1 hbb, fun q => ?_⟩ e0 e1 hS1
    intro c9 k9 d9 hc9 hd9
    obtain ⟨f1, f2⟩ := C.2.2.2.2.2.2 q c9 k9 d9 hc9 hd9
    refine ⟨?_, f2⟩
    rw [hR_rR]
    split
    · rename_i e9
      subst e9
      unfold tGF at hd9
      rw [gf_arr _ (by have := C.2.2.2.2.2.1.2.2; omega) (by omega)] at hd9
      cases hd9
    · exact f1
  · -- arraylength
    obtain ⟨hd, rfl⟩ := dec1_spec hrow
    obtain ⟨a, r, rfl, hs1⟩ := oneA_spec hs
    clear hs
    intro ad H locs L C e0 e1 hS
    obtain ⟨hva, h2⟩ := vok1 C.st
    cases hb9 : Nat.beq a 1000 with
    | true =>
      rw [hb9] at hs1
      have ea := Nat.eq_of_beq_eq_true hb9
      subst ea
      simp only [cond_true] at hs1
      split at hs1
      · rename_i n
        obtain ⟨z0, z1, z2, z3, z4, z5⟩ := hscr n rfl
        have g := hk _ _ _ _ _ _ hs1 ad H locs L (C.stk (vokc (show Rng n from z1) h2)) e0 e1 hS
        rw [List.map_cons, show cv ad (.inr (.inr (some 1000))) = .ref b0.1 from by rw [← e0.1]; rfl]
        refine va_slen hx hb z3 z4 z5 hS hd ?_
        have e9 : Int32.ofNat n.toNat = iw n := by
          show Int32.ofNat n.toNat = Int32.ofInt n
          rw [← Int32.ofInt_eq_ofNat, show ((n.toNat : Nat) : Int) = n from by omega]
        rw [e9]
        exact g
      · exact hs1.elim
    | false =>
      rw [hb9] at hs1
      simp only [cond_false] at hs1
      obtain ⟨hkd, hs2⟩ := ob_spec (gk_spec hs1)
      rw [Bool.and_eq_true] at hkd
      have k1 := Nat.le_of_ble_eq_true hkd.1
      have k2 := Nat.le_of_ble_eq_true hkd.2
      have ha : a < hN h := C.obj hva (by omega)
      obtain ⟨l1, l2⟩ := len_ok (by have := C.2.2.2.2.2.1.2.2; omega) k1
      have g := hk _ _ _ _ _ _ hs2 ad H locs L (C.stk (vokc (show Rng (tGK a).2 from ⟨by omega, by omega⟩) h2)) e0 e1 hS
      have e9 : Int32.ofNat (tGK a).2.toNat = iw (tGK a).2 := by
        show Int32.ofNat (tGK a).2.toNat = Int32.ofInt (tGK a).2
        rw [← Int32.ofInt_eq_ofNat, show (((tGK a).2.toNat : Nat) : Int) = (tGK a).2 from by omega]
      have hcases : (tGK a).1 = 20 ∨ (tGK a).1 = 21 ∨ (tGK a).1 = 22 ∨ (tGK a).1 = 23 := by omega
      rcases hcases with q | q | q | q
      · exact va_alen hx hb hK C.2.1 a 0 (by rw [wo_at ha, ent_20 q]) rfl e9 hd g
      · exact va_alen hx hb hK C.2.1 a 1 (by rw [wo_at ha, ent_21 q]) rfl e9 hd g
      · exact va_alen hx hb hK C.2.1 a 2 (by rw [wo_at ha, ent_22 q]) rfl e9 hd g
      · exact va_alen hx hb hK C.2.1 a 3 (by rw [wo_at ha, ent_23 q]) rfl e9 hd g
  · -- newarray
    unfold rowF at hrow
    rw [Bool.and_eq_true] at hrow
    obtain ⟨hd0, hw⟩ := hrow
    obtain ⟨hd, rfl⟩ := dec1_spec hd0
    obtain ⟨n, r, rfl, hs0⟩ := oneI_spec hs
    obtain ⟨hq, hn, hs1⟩ := ob_spec hs0
    clear hs hs0
    simp only [Bool.and_eq_true] at hq
    obtain ⟨q1, q2, q3⟩ := hq
    have q1 := blt_spec q1
    have q2 := Nat.le_of_ble_eq_true q2
    intro ad H locs L C e0 e1 hS
    obtain ⟨hnn, h2⟩ := vok1 C.st
    have hnn : Rng n := hnn
    have hk9 : (tGK (hN h)).1 = 20 ∨ (tGK (hN h)).1 = 21 ∨ (tGK (hN h)).1 = 22 := by
      split at q3
      · exact Or.inl (Nat.eq_of_beq_eq_true q3)
      · exact Or.inr (Or.inl (Nat.eq_of_beq_eq_true q3))
      · exact Or.inr (Or.inr (Nat.eq_of_beq_eq_true q3))
      · cases q3
    have hlt : hN h < 63 := tGK_lt (by omega)
    obtain ⟨l1, l2⟩ := len_ok hlt (by omega)
    obtain ⟨n1, n2⟩ := iw_nat hnn (by omega)
    have hz : hI (hnew h) (hN h) = fun _ => 0 := by rw [hI_new, if_pos rfl]
    have hzJ : hJ (hnew h) (hN h) = fun _ => 0 := by rw [hJ_new, if_pos rfl]
    have hfx : fx = true → fixed (hnew h) := fun q => fixed_newA (C.2.2.2.2.2.2 q) hlt (by omega)
    split at q3
    · have q3 := Nat.eq_of_beq_eq_true q3
      refine va_newa (ty := .int) (atype := .int) (a0 := ((tGK (hN h)).2.toNat, .inl (fun _ => 0))) hx hb (htw _ _ hw) rfl hK C.2.1 C.2.2.1 hS hA (fun _ => rfl) n1 (by rw [n2, hn]) (by show (tGK (hN h)).2.toNat * 4 ≤ 536870912; omega) (by omega) (by omega) hd (fun q cA H1 hK1 hP hD hS1 => ?_)
      have e9 : cA = ca 0 := ca_eq (i := 0) hK1 rfl (fun _ z => z)
      subst e9
      obtain ⟨C1, em⟩ := C.new hlt (q := q) (x := .inl (ca 0, ((tGK (hN h)).2.toNat, .inl (fun _ => 0)))) (by rw [ent_20 q3, hz]; rfl) hP hD h2 hfx
      have g := hk _ _ _ _ _ _ hs1 _ H1 locs L C1 (e0.new hlt) (by rw [adN_far hlt (by omega)]; exact e1) hS1
      rw [em] at g
      exact g
    · have q3 := Nat.eq_of_beq_eq_true q3
      refine va_newa (ty := .long) (atype := .long) (a0 := ((tGK (hN h)).2.toNat, .inr (.inl (fun _ => 0)))) hx hb (htw _ _ hw) rfl hK C.2.1 C.2.2.1 hS hA (fun _ => rfl) n1 (by rw [n2, hn]) (by show (tGK (hN h)).2.toNat * 8 ≤ 536870912; omega) (by omega) (by omega) hd (fun q cA H1 hK1 hP hD hS1 => ?_)
      have e9 : cA = ca 1 := ca_eq (i := 1) hK1 rfl (fun _ z => z)
      subst e9
      obtain ⟨C1, em⟩ := C.new hlt (q := q) (x := .inl (ca 1, ((tGK (hN h)).2.toNat, .inr (.inl (fun _ => 0))))) (by rw [ent_21 q3, hzJ]) hP hD h2 hfx
      have g := hk _ _ _ _ _ _ hs1 _ H1 locs L C1 (e0.new hlt) (by rw [adN_far hlt (by omega)]; exact e1) hS1
      rw [em] at g
      exact g
    · have q3 := Nat.eq_of_beq_eq_true q3
      refine va_newa (ty := .boolean) (atype := .boolean) (a0 := ((tGK (hN h)).2.toNat, .inl (fun _ => 0))) hx hb (htw _ _ hw) rfl hK C.2.1 C.2.2.1 hS hA (fun _ => rfl) n1 (by rw [n2, hn]) (by show (tGK (hN h)).2.toNat * 1 ≤ 536870912; omega) (by omega) (by omega) hd (fun q cA H1 hK1 hP hD hS1 => ?_)
      have e9 : cA = ca 2 := ca_eq (i := 2) hK1 rfl (fun _ z => z)
      subst e9
      obtain ⟨C1, em⟩ := C.new hlt (q := q) (x := .inl (ca 2, ((tGK (hN h)).2.toNat, .inl (fun _ => 0)))) (by rw [ent_22 q3, hz]; rfl) hP hD h2 hfx
      have g := hk _ _ _ _ _ _ hs1 _ H1 locs L C1 (e0.new hlt) (by rw [adN_far hlt (by omega)]; exact e1) hS1
      rw [em] at g
      exact g
    · cases q3
  · -- anewarray
    unfold rowF at hrow
    simp only [Bool.and_eq_true] at hrow
    obtain ⟨hd0, hw1, hw2⟩ := hrow
    obtain ⟨hd, rfl⟩ := dec1_spec hd0
    obtain ⟨n, r, rfl, hs0⟩ := oneI_spec hs
    obtain ⟨hq, hn, hs1⟩ := ob_spec hs0
    clear hs hs0
    simp only [Bool.and_eq_true] at hq
    obtain ⟨q1, q2, q3⟩ := hq
    have q1 := blt_spec q1
    have q2 := Nat.le_of_ble_eq_true q2
    have q3 := Nat.eq_of_beq_eq_true q3
    intro ad H locs L C e0 e1 hS
    obtain ⟨hnn, h2⟩ := vok1 C.st
    have hnn : Rng n := hnn
    have hlt : hN h < 63 := tGK_lt (by omega)
    obtain ⟨l1, l2⟩ := len_ok hlt (by omega)
    obtain ⟨n1, n2⟩ := iw_nat hnn (by omega)
    have hzR : hR (hnew h) (hN h) = fun _ => none := by rw [hR_new, if_pos rfl]
    have hfx : fx = true → fixed (hnew h) := fun q => fixed_newA (C.2.2.2.2.2.2 q) hlt (by omega)
    refine va_newq hx hb hown (htw _ _ hw1) (va_AO.of (htw _ _ hw2)) hK C.2.1 C.2.2.1 hS hA (N' := (tGK (hN h)).2.toNat) n1 (by rw [n2, hn]) (by omega) (by omega) (by omega) hd (fun q cA H1 hK1 hP hD hS1 => ?_)
    have e9 : cA = ca 3 := ca_eq (i := 3) hK1 rfl (fun c9 z => by
      obtain ⟨_, _, -, -, -, z4⟩ := z
      exact z4)
    subst e9
    obtain ⟨C1, em⟩ := C.new hlt (q := q) (x := .inl (ca 3, ((tGK (hN h)).2.toNat, .inr (.inr (.inr (.inr (fun _ => none))))))) (by rw [ent_23 q3, hzR]; rfl) hP hD h2 hfx
    have g := hk _ _ _ _ _ _ hs1 _ H1 locs L C1 (e0.new hlt) (by rw [adN_far hlt (by omega)]; exact e1) hS1
    rw [em] at g
    exact g
  · exact ho hs
end Ctx

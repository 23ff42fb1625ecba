section Ctx
variable {p : Program} {l : Launch} {e : Env} {R : Room} {s : State} {m : MethodId} {ag : Array Value} {below : List Frame} {meth : Method} {c : Code} {Q : State → Prop} {cc : ByteArray} {nL : Nat} {D : va_G} {ca : Nat → ClassId} {A : Nat → Prop} {b0 : B0} {lb sa sv : Nat} {fx : Bool}
theorem codeW_cases (mr : MR) : (mH mr = [] ∧ codeW mr = .code (mY mr) (mB mr) (mL mr) (mR mr)) ∨ codeW mr = .codeWith (mY mr) (mB mr) (mL mr) (mR mr) (mH mr) := by
  unfold codeW
  split
  · rename_i h9
    exact Or.inl ⟨h9, rfl⟩
  · exact Or.inr rfl
theorem ldrop_get {ls : LSt} {i : Nat} {v : AV} (h : lget (ldrop ls) i = some v) : lget ls i = some v ∧ ∀ a, v = .inr (.inr (some a)) → a < 63 := by
  induction ls generalizing i with
  | nil => simp [ldrop, lget] at h
  | cons x l ih =>
    cases i with
    | zero =>
      simp only [ldrop, lget] at h
      unfold lnear at h
      split at h
      · rename_i a
        cases hb : Nat.blt a 63 with
        | true =>
          rw [hb] at h
          simp only [cond_true] at h
          refine ⟨h, fun b e => ?_⟩
          rw [e] at h
          cases h
          exact blt_spec hb
        | false => rw [hb] at h; simp at h
      · rename_i n1
        refine ⟨h, fun b e => ?_⟩
        rw [e] at h
        exact absurd h (n1 b)
    | succ i => exact ih h
theorem catch_of {own : Nat} (htw : ∀ i w, wd i w = true → w.before ag s = true) (hnc : ∀ i j, i < 3 → j < 3 → i ≠ j → va_Nc (tEX i) (tEX j) s) {pc E t : Nat} (hE : E < 3) :
    ∀ {hh : List (Nat × Nat × Nat × Nat)} {hd : List (Nat × (Nat × (Nat × Nat)))} {ps : List Nat}, hdB own hh hd ps = true → hfind hd pc E = some t →
      ∃ (pre : List ExceptionTableEntry) (x : ExceptionTableEntry) (suf : List ExceptionTableEntry), tableOf hh = pre ++ x :: suf ∧ (∀ z ∈ pre, covers z pc = false ∨ (z.catchType ≠ 0 ∧ ∃ nm : String, (Cond.classLink (tNM own) z.catchType nm).before ag s = true ∧ va_Nc (tEX E) nm s)) ∧ covers x pc = true ∧ x.catchType ≠ 0 ∧ (Cond.classLink (tNM own) x.catchType (tEX E)).before ag s = true ∧ x.handlerPc = t := by
  intro hh
  induction hh with
  | nil =>
    intro hd ps h hf
    cases hd with
    | nil => simp [hfind] at hf
    | cons d hd => simp [hdB] at h
  | cons q hh ih =>
    intro hd ps h hf
    cases hd with
    | nil => simp [hdB] at h
    | cons d hd =>
      cases ps with
      | nil => simp [hdB] at h
      | cons p9 ps =>
        simp only [hdB, Bool.and_eq_true, decide_eq_true_eq] at h
        obtain ⟨⟨e1, e2, e3, e4, e5⟩, hw, hr⟩ := h
        unfold hfind at hf
        cases hb : (Nat.ble d.1 pc && (Nat.blt pc d.2.1 && Nat.beq d.2.2.1 E)) with
        | true =>
          rw [hb] at hf
          simp only [Bool.and_eq_true] at hb
          obtain ⟨c1, c2, c3⟩ := hb
          have c1 := Nat.le_of_ble_eq_true c1
          have c2 := blt_spec c2
          have c3 := Nat.eq_of_beq_eq_true c3
          simp only [cond_true, Option.some.injEq] at hf
          refine ⟨[], ⟨q.1, q.2.1, q.2.2.1, q.2.2.2⟩, tableOf hh, rfl, fun z hz => absurd hz List.not_mem_nil, ?_, e4, ?_, ?_⟩
          · show (decide (q.1 ≤ pc) && decide (pc < q.2.1)) = true
            rw [e1, e2, decide_eq_true c1, decide_eq_true c2]
            rfl
          · rw [← c3]
            exact htw _ _ hw
          · show q.2.2.1 = t
            rw [e3]; exact hf
        | false =>
          rw [hb] at hf
          obtain ⟨pre, x, suf, g1, g2, g3⟩ := ih hr hf
          refine ⟨⟨q.1, q.2.1, q.2.2.1, q.2.2.2⟩ :: pre, x, suf, by show _ :: tableOf hh = _; rw [g1]; rfl, fun z hz => ?_, g3⟩
          rcases List.mem_cons.mp hz with rfl | hz
          · by_cases hcov : covers ⟨q.1, q.2.1, q.2.2.1, q.2.2.2⟩ pc = true
            · refine Or.inr ⟨e4, tEX d.2.2.1, htw _ _ hw, ?_⟩
              refine hnc E d.2.2.1 hE e5 (fun e9 => ?_)
              have hcov : (decide (q.1 ≤ pc) && decide (pc < q.2.1)) = true := hcov
              simp only [Bool.and_eq_true, decide_eq_true_eq] at hcov
              rw [← e9, Nat.ble_eq_true_of_le (by omega), show Nat.blt pc d.2.1 = true from Nat.ble_eq_true_of_le (by omega), Nat.beq_refl] at hb
              cases hb
            · exact Or.inl (by simpa using hcov)
          · exact g2 z hz
/-- what the calls of a method rest on -/
def Kn (p : Program) (l : Launch) (R : Room) (s : State) (m : MethodId) (ag : Array Value) (c : Code) (cc : ByteArray) (nL : Nat) (D : va_G) (ca : Nat → ClassId) (A : Nat → Prop) (lb sa sv own MC MS HT : Nat) : Prop :=
  p.tables.exec = Jvm.exec ∧ c.code = cc ∧ c.maxLocals = nL ∧ s.vm.findClass (tNM own) = some m.cls ∧ (∀ i w, wd i w = true → w.before ag s = true) ∧ (∀ w ∈ WSG, ∀ (a' : Array Value) (U : State), s.WarmedH U.vm → w.before a' U = true) ∧ SFh lb sa sv A s s.heap ∧ SFv D ca sa s ∧ (∀ q, s.heap.size ≤ q → A q) ∧ MC ≤ R.cells ∧ MS ≤ R.slots ∧ 10 + HT ≤ R.frames ∧ 300 + 64 * HT ≤ R.locals
theorem wsg_before {w : Jvm.Cond} (hp : ∀ w ∈ WSG, ∀ (a' : Array Value) (U : State), s.WarmedH U.vm → w.before a' U = true) (h : w ∈ lw_tbl) (hg : goodWord w = true) : w.before ag s = true :=
  hp w (List.mem_filter.mpr ⟨h, hg⟩) ag s (State.WarmedH.refl s)
theorem mrB_spec {n : Nat} (h : mrB n = true ∧ tb (nth (mI (tMR n)) 4 0) = some (codeW (tMR n))) : wd (nth (mI (tMR n)) 4 0) (codeW (tMR n)) = true ∧ goodWord (codeW (tMR n)) = true ∧ wd (nth (mI (tMR n)) 3 0) (.initialized (mY (tMR n)).cls) = true ∧ ((mY (tMR n)).cls ≠ "java/lang/invoke/MethodHandle" ∧ (mY (tMR n)).cls ≠ "java/lang/invoke/VarHandle") ∧ (parseMethodDescriptor (mY (tMR n)).desc).map (fun d => d.parameters.length) = some (nth (mI (tMR n)) 5 99) ∧ plainName (mY (tMR n)).cls = true ∧ mL (tMR n) ≤ 40 ∧
    ((nth (mI (tMR n)) 0 9 = 0 ∧ wd (nth (mI (tMR n)) 1 0) (.instanceMethod (mY (tMR n))) = true ∧ wd (nth (mI (tMR n)) 2 0) (.selects (mY (tMR n)).cls (mY (tMR n)) (mY (tMR n))) = true ∧ (cN (nth (mI (tMR n)) 6 0)).1 = (mY (tMR n)).cls ∧ nth (mI (tMR n)) 6 0 < 9 ∧ mH (tMR n) = []) ∨
      (nth (mI (tMR n)) 0 9 = 1 ∧ wd (nth (mI (tMR n)) 1 0) (.static (mY (tMR n))) = true) ∨
      (nth (mI (tMR n)) 0 9 = 2 ∧ wd (nth (mI (tMR n)) 1 0) (.instanceMethod (mY (tMR n))) = true ∧ (mY (tMR n)).name = "<init>" ∧ mR (tMR n) = none ∧ mH (tMR n) = [])) := by
  obtain ⟨h, h1⟩ := h
  unfold mrB at h
  simp only [Bool.and_eq_true] at h
  obtain ⟨h2, h3, h4, h5, h6, h7, h8⟩ := h
  have h1 : wd (nth (mI (tMR n)) 4 0) (codeW (tMR n)) = true := by
    unfold wd
    rw [h1, h2]
    simp
  refine ⟨h1, h2, h3, of_decide_eq_true h5, of_decide_eq_true h6, h7, Nat.le_of_ble_eq_true h8, ?_⟩
  split at h4
  · rename_i e0
    simp only [Bool.and_eq_true, decide_eq_true_eq] at h4
    obtain ⟨g1, g2, g3, g4, g5⟩ := h4
    exact Or.inl ⟨e0, g1, g2, g3, blt_spec g4, List.isEmpty_iff.mp g5⟩
  · rename_i e0
    exact Or.inr (Or.inl ⟨e0, h4⟩)
  · rename_i e0
    simp only [Bool.and_eq_true, decide_eq_true_eq] at h4
    obtain ⟨g1, g2, g3, g4⟩ := h4
    exact Or.inr (Or.inr ⟨e0, g1, g2, Option.isNone_iff_eq_none.mp g3, List.isEmpty_iff.mp g4⟩)
  · cases h4
theorem callB_spec {own idx kind n np rc p9 ne : Nat} (h : callB own idx kind n np rc p9 ne = true) : knows n = true ∧ kind = nth (mI (tMR n)) 0 9 ∧ np = nth (mI (tMR n)) 5 99 ∧ rc = nth (mI (tMR n)) 6 0 ∧ (wd p9 (.methodLink (tNM own) idx (mY (tMR n))) = true ∨ (wd p9 (.methodLinkNest (tNM own) idx (mY (tMR n)) RX9) = true ∧ mH (tMR n) = [])) := by
  unfold callB at h
  simp only [Bool.and_eq_true] at h
  obtain ⟨h1, h2, h3, h4, h5⟩ := h
  refine ⟨h1, Nat.eq_of_beq_eq_true h2, Nat.eq_of_beq_eq_true h3, Nat.eq_of_beq_eq_true h4, ?_⟩
  cases hb : Nat.beq ne 0 with
  | true => rw [hb] at h5; exact Or.inl h5
  | false =>
    rw [hb] at h5
    simp only [cond_false, Bool.and_eq_true] at h5
    exact Or.inr ⟨h5.1, List.isEmpty_iff.mp h5.2⟩
/-- a call runs: the three kinds -/
theorem call_run {own MC MS HT : Nat} (K : Kn p l R s m ag c cc nL D ca A lb sa sv own MC MS HT) {idx kind n np rc p9 ne pc : Nat} {i : Instr} {nx : Nat} (hmr : mrB n = true ∧ tb (nth (mI (tMR n)) 4 0) = some (codeW (tMR n))) (hcall : callB own idx kind n np rc p9 ne = true)
    (hd : decode cc pc = .ok (match kind with
      | 0 => .invokevirtual idx
      | 1 => .invokestatic idx
      | _ => .invokespecial idx, 3))
    {cs : CS} (hM : MetS l D ca lb sa sv (tMR n) fx cs) {as as' st rest : List AV} {a : Nat} (hlen : as.length = np) (hst : (kind = 1 ∧ st = as.reverse ++ rest ∧ as' = as) ∨ (kind ≠ 1 ∧ st = as.reverse ++ .inr (.inr (some a)) :: rest ∧ as' = .inr (.inr (some a)) :: as ∧ (tGK a).1 = rc))
    {ls : LSt} {h : Hp} {u v : Nat} {ad : Nat → Nat} {H : Heap} {locs : List Loc} {L : Array Slot} (C : Cn D ca A ad fx nL ls st h H L) (e1 : ad 1001 = lb) (hS : va_S A s.heap H locs) {Rt : Option AV → Hp → Prop} {X : Nat → Hp → Prop} (hsp : cs.2 as' h Rt X) (hc1 : catS rest ≤ 8) (hc2 : u + (cs.1 as' h).1 ≤ MC) (hc3 : v + (cs.1 as' h).2.1 ≤ MS) (hc4 : (cs.1 as' h).2.2 < HT) :
    vx_Run p l e R s m ag below meth c H locs u v (cs.1 as' h).1 (cs.1 as' h).2.1 (F0 m pc L (st.map (cv ad))) (rest.map (cv ad)) (QQ D ca fx (va_A (wo ad ca h) H.size) ad h Rt (as'.map (cv ad)).toArray) (XQ D ca fx (va_A (wo ad ca h) H.size) ad h X) (va_A (wo ad ca h) H.size) := by
  obtain ⟨hx, hb, hml, hown, htw, hpay, hF, hV, hA, hMC, hMS, hRf, hRl⟩ := K
  obtain ⟨w1, w2, w3, w4, w5, w6, w7, w8⟩ := mrB_spec hmr
  obtain ⟨-, k2, k3, k4, k5⟩ := callB_spec hcall
  have hvas : ∀ v ∈ as', vok (hN h) v := by
    rcases hst with ⟨-, rfl, rfl⟩ | ⟨-, rfl, rfl, -⟩
    · exact fun v hv => C.st v (List.mem_append_left _ (List.mem_reverse.mpr hv))
    · exact vokc (C.st _ (List.mem_append_right _ List.mem_cons_self)) (fun v hv => C.st v (List.mem_append_left _ (List.mem_reverse.mpr hv)))
  have hMet := hM ad H.size as' h Rt X hvas C.2.2.2.2.2.1 C.2.2.2.2.2.2 e1 hsp
  have hst0 := C.start hS hA hF hV as'
  have hcat : 2 * (F0 m pc L (st.map (cv ad))).monitorRoom + ((rest.map (cv ad)).map fun v => v.category).sum ≤ 8 := lv_room (by rw [cv_sum]; exact hc1)
  have hfit : u + (cs.1 as' h).1 ≤ R.cells ∧ v + (cs.1 as' h).2.1 ≤ R.slots := ⟨by omega, by omega⟩
  have hsig : ∀ sig, parseMethodDescriptor (mY (tMR n)).desc = some sig → np = sig.parameters.length := by
    intro sig hsg
    rw [hsg] at w5
    rw [k3]
    exact (Option.some.inj w5).symm
  have hfr : (rmOf (cs.1 as' h)).frames + 1 ≤ R.frames := by show 10 + _ + 1 ≤ _; omega
  have hlo : 8 + (mL (tMR n) + 11) + (rmOf (cs.1 as' h)).locals ≤ R.locals := by show 8 + (mL (tMR n) + 11) + (300 + 64 * (cs.1 as' h).2.2) ≤ _; omega
  have hws : ∀ w ∈ wsOf (tMR n), ∀ (a' : Array Value) (U : State), s.WarmedH U.vm → w.before a' U = true := by
    intro w hw a' U hW
    rcases List.mem_cons.mp hw with rfl | hw
    · exact word_at hW (good_of_word w2) (htw _ _ w1)
    · exact hpay w hw a' U hW
  have hfix : CallFix p m c cc nL s ag [] (tNM own) := ⟨hx, hb, hml, hown, fun w hw => absurd hw List.not_mem_nil⟩
  have hLs : L.size = nL := C.1.1
  rcases hst with ⟨ek, rfl, rfl⟩ | ⟨ek, rfl, rfl, hgk⟩
  · have hpS : PreS s H (PC D ca lb sa sv ad H.size as' h) (as'.map (cv ad)) := ⟨PC.blind, hst0⟩
    have hstk : ((as'.reverse ++ rest).map (cv ad)) = (as'.map (cv ad)).reverse ++ rest.map (cv ad) := by rw [List.map_append, List.map_reverse]
    subst ek
    rcases w8 with ⟨q, -⟩ | ⟨-, q2⟩ | ⟨q, -⟩
    · omega
    · rcases codeW_cases (tMR n) with ⟨c1, c2⟩ | c2
      · have hcw : Cond.code (mY (tMR n)) (mB (tMR n)) (mL (tMR n)) (mR (tMR n)) ∈ wsOf (tMR n) := by rw [← c2]; exact List.mem_cons_self
        have hcb : (Cond.code (mY (tMR n)) (mB (tMR n)) (mL (tMR n)) (mR (tMR n))).before ag s = true := by rw [← c2]; exact htw _ _ w1
        rcases k5 with hl | ⟨hl, -⟩
        · exact vx_runS hfix hMet ⟨⟨rfl, rfl, hfr, hlo, hws, hcw, hcb, htw _ _ w3, w4, hsig, htw _ _ hl⟩, htw _ _ q2⟩ hpS rfl (by rw [List.length_map, hlen]) hLs hstk hcat hd hfit
        · exact vx_runSN hfix hMet ⟨⟨⟨rfl, rfl, hfr, hlo, hws, hcw⟩, hcb, htw _ _ w3, w4, hsig, htw _ _ hl⟩, htw _ _ q2, trivial⟩ hpS rfl (by rw [List.length_map, hlen]) hLs hstk hcat hd hfit
      · have hcw : Cond.codeWith (mY (tMR n)) (mB (tMR n)) (mL (tMR n)) (mR (tMR n)) (mH (tMR n)) ∈ wsOf (tMR n) := by rw [← c2]; exact List.mem_cons_self
        have hcb : (Cond.codeWith (mY (tMR n)) (mB (tMR n)) (mL (tMR n)) (mR (tMR n)) (mH (tMR n))).before ag s = true := by rw [← c2]; exact htw _ _ w1
        rcases k5 with hl | ⟨-, hl⟩
        · exact vx_runSX hfix hMet ⟨⟨rfl, rfl, hfr, hlo, hws, hcw⟩, hcb, htw _ _ w3, w4, hsig, htw _ _ hl, htw _ _ q2⟩ hpS rfl (by rw [List.length_map, hlen]) hLs hstk hcat hd hfit
        · unfold codeW at c2
          rw [hl] at c2
          cases c2
    · omega
  · have hva : vok (hN h) (.inr (.inr (some a))) := hvas _ List.mem_cons_self
    have hstk : ((as.reverse ++ .inr (.inr (some a)) :: rest).map (cv ad)) = (as.map (cv ad)).reverse ++ .ref (ad a) :: rest.map (cv ad) := by rw [List.map_append, List.map_reverse]; rfl
    rcases w8 with ⟨q, q2, q3, q4, q5, q6⟩ | ⟨q, -⟩ | ⟨q, q2, q3, q4, q6⟩
    · have hcc : codeW (tMR n) = .code (mY (tMR n)) (mB (tMR n)) (mL (tMR n)) (mR (tMR n)) := by unfold codeW; rw [q6]
      have hcw : Cond.code (mY (tMR n)) (mB (tMR n)) (mL (tMR n)) (mR (tMR n)) ∈ wsOf (tMR n) := by rw [← hcc]; exact List.mem_cons_self
      have hcb : (Cond.code (mY (tMR n)) (mB (tMR n)) (mL (tMR n)) (mR (tMR n))).before ag s = true := by rw [← hcc]; exact htw _ _ w1
      have ek0 : kind = 0 := k2.trans q
      subst ek0
      have hrc : (tGK a).1 < 9 := by rw [hgk, k4]; exact q5
      have ha : a < hN h := C.obj hva (by omega)
      have hrecv : ∃ cellB : Cell, H[ad a]? = some cellB ∧ cellB.vm.isStatics = false ∧ s.vm.findClass (mY (tMR n)).cls = some cellB.cls := by
        have := va_recv (q0 := a) hV.1 C.2.1 (cN_ok hrc) (by rw [wo_at ha, ent_obj rfl hrc])
        rw [hgk, k4, q4] at this
        exact this
      have hpV : PreV s H (mY (tMR n)).cls (ad a) (PC D ca lb sa sv ad H.size (.inr (.inr (some a)) :: as) h) (as.map (cv ad)) := ⟨PC.blind, hrecv, hst0⟩
      rcases k5 with hl | ⟨hl, -⟩
      · exact vx_runV hfix hMet ⟨⟨rfl, rfl, hfr, hlo, hws, hcw, hcb, htw _ _ w3, w4, hsig, htw _ _ hl⟩, htw _ _ q2, htw _ _ q3⟩ hpV rfl (by rw [List.length_map, hlen]) hLs hstk hcat hd hfit
      · exact vx_runVN hfix hMet ⟨⟨⟨rfl, rfl, hfr, hlo, hws, hcw⟩, hcb, htw _ _ w3, w4, hsig, htw _ _ hl⟩, htw _ _ q2, htw _ _ q3⟩ hpV rfl (by rw [List.length_map, hlen]) hLs hstk hcat hd hfit
    · exact absurd (k2.trans q) ek
    · have hcc : codeW (tMR n) = .code (mY (tMR n)) (mB (tMR n)) (mL (tMR n)) none := by unfold codeW; rw [q6, q4]
      have hcw : Cond.code (mY (tMR n)) (mB (tMR n)) (mL (tMR n)) none ∈ wsOf (tMR n) := by rw [← hcc]; exact List.mem_cons_self
      have hcb : (Cond.code (mY (tMR n)) (mB (tMR n)) (mL (tMR n)) none).before ag s = true := by rw [← hcc]; exact htw _ _ w1
      have ek0 : kind = 2 := k2.trans q
      subst ek0
      have hpS : PreS s H (PC D ca lb sa sv ad H.size (.inr (.inr (some a)) :: as) h) (.ref (ad a) :: as.map (cv ad)) := ⟨PC.blind, hst0⟩
      rcases k5 with hl | ⟨hl, -⟩
      · exact vx_runI hfix hMet ⟨⟨rfl, rfl, hfr, hlo, hws, hcw, hcb, htw _ _ w3, w4, hsig, htw _ _ hl⟩, q3, htw _ _ q2⟩ hpS rfl (by rw [List.length_map, hlen]) hLs hstk hcat hd hfit
      · exact vx_runIN hfix hMet ⟨⟨⟨rfl, rfl, hfr, hlo, hws, hcw⟩, hcb, htw _ _ w3, w4, hsig, htw _ _ hl⟩, q3, htw _ _ q2⟩ hpS rfl (by rw [List.length_map, hlen]) hLs hstk hcat hd hfit
end Ctx

/-! ===== a whole method is right ===== -/
section Ctx
variable {p : Program} {l : Launch} {e : Env} {R : Room} {s : State} {m : MethodId} {ag : Array Value} {below : List Frame} {meth : Method} {c : Code} {Q : State → Prop} {cc : ByteArray} {nL : Nat} {D : va_G} {ca : Nat → ClassId} {A : Nat → Prop} {b0 : B0} {lb sa sv : Nat} {fx : Bool}
theorem uws_before {ci : Nat} (hpay : ∀ w ∈ WSG, ∀ (a' : Array Value) (U : State), s.WarmedH U.vm → w.before a' U = true) (hci : ci < 9) : ∀ w ∈ u_ws (cN ci).1 (cN ci).2.1 (cN ci).2.2, w.before ag s = true := by
  intro w hw
  have := List.all_eq_true.mp (u_in ci hci) w hw
  rw [Bool.and_eq_true] at this
  exact wsg_before hpay (of_decide_eq_true this.1) this.2
/-- from any place: where the condition holds, all goes well -/
theorem aw_sound {own MC MS HT : Nat} (K : Kn p l R s m ag c cc nL D ca A lb sa sv own MC MS HT) {SL : Option Int} {SX : Int → Int} (hscr : ∀ n, SL = some n → 0 ≤ n ∧ Rng n ∧ (∀ j, Rng (SX j)) ∧ va_X b0.1 n.toNat (fun j => iw (SX j)) s s.heap ∧ b0.1 < s.heap.size ∧ ¬ A b0.1) {mi : Bool} (hmi : mi = true → meth.name = "<init>")
    {S : Nat → CS} {hh : List (Nat × Nat × Nat × Nat)} {hd : List (Nat × (Nat × (Nat × Nat)))} {ps : List Nat} (htab : c.exceptionTable.toList = tableOf hh) (hhd : hdB own hh hd ps = true) {rk : Nat} {Rt : Option AV → Hp → Prop} {X : Nat → Hp → Prop}
    (hout : hh = [] → ∀ (E : Nat) (h1 : Hp) (ad1 : Nat → Nat) (H1 : Heap) (locs1 : List Loc) (u1 v1 pc : Nat) (q9 : Addr) (ce : Cell) (L : Array Slot) (rs : List Value) (ad : Nat → Nat) (h : Hp) (A1 : Nat → Prop) (H : Heap) (locs : List Loc) (ls : LSt) (st : List AV), Cn D ca A ad fx nL ls st h H L → E0 b0 ad h → (∀ q, A1 q → A q) → E < 3 → X E h1 → u1 ≤ MC → v1 ≤ MS → BB D ca fx A1 ad h ad1 h1 H1 → va_S A s.heap H1 locs1 → H1[q9]? = some ce → ce.vm = .none → s.vm.findClass (tEX E) = some ce.cls → vx_W p l e R s m ag below meth c H1 locs1 u1 v1 Q (F0 m pc L rs) q9)
    (hend : ∀ {pc : Nat} {i : Instr} {nx : Nat} {ax : Int} {tg : List Nat} {ls : LSt} {st : List AV} {h : Hp} {u v : Nat}, rowD own cc pc i nx ax tg = true → stpE rk MC MS hd Rt X i tg st h u v → AW p l e R s m ag below meth c Q nL D ca A b0 lb fx pc ls st h u v)
    (hmr : ∀ n, knows n = true → mrB n = true ∧ tb (nth (mI (tMR n)) 4 0) = some (codeW (tMR n))) (hM : ∀ n, knows n = true → MetS l D ca lb sa sv (tMR n) fx (S n))
    {code : List (Nat × Row)} (hcode : ∀ q ∈ code, rowB own nL mi cc q = true) {cut : List (Nat × List Nat)} {KK : AKK}
    (hK : ∀ pc live vs h u v, look cut pc = some live → KK pc vs h u v → (∀ x ∈ vs, vok (hN h) x) → hok h → (fx = true → fixed h) → AW p l e R s m ag below meth c Q nL D ca A b0 lb fx pc (lmk 0 nL live vs) [] h u v) :
    ∀ (n : Nat) (cur : List (Nat × Row)), (∀ q ∈ cur, rowB own nL mi cc q = true) → ∀ (pc : Nat) (ls : LSt) (st : List AV) (h : Hp) (u v : Nat), aw fx rk MC MS HT S hd Rt X SL SX code cut KK n cur pc ls st h u v → AW p l e R s m ag below meth c Q nL D ca A b0 lb fx pc ls st h u v := by
  intro n
  induction n with
  | zero => intro cur _ pc ls st h u v hs; exact hs.elim
  | succ n ih =>
    have step : ∀ (pc : Nat) (i : Instr) (nx : Nat) (ax : Int) (tg : List Nat) (tl : List (Nat × Row)), (∀ q ∈ tl, rowB own nL mi cc q = true) → rowB own nL mi cc (pc, (i, (nx, (ax, tg)))) = true → ∀ (ls : LSt) (st : List AV) (h : Hp) (u v : Nat),
        stp fx rk MC MS HT S hd Rt X SL SX (fun pc1 ls1 st1 h1 c1 s1 => match look cut pc1 with
          | some live => atcut KK live pc1 ls1 st1 h1 c1 s1
          | none => aw fx rk MC MS HT S hd Rt X SL SX code cut KK n tl pc1 ls1 st1 h1 c1 s1) pc i nx ax tg ls st h u v → AW p l e R s m ag below meth c Q nL D ca A b0 lb fx pc ls st h u v := by
      intro pc i nx ax tg tl htl hrow ls st h u v hs
      have hk : ∀ pc1 ls1 st1 h1 u1 v1, (match look cut pc1 with
          | some live => atcut KK live pc1 ls1 st1 h1 u1 v1
          | none => aw fx rk MC MS HT S hd Rt X SL SX code cut KK n tl pc1 ls1 st1 h1 u1 v1) → AW p l e R s m ag below meth c Q nL D ca A b0 lb fx pc1 ls1 st1 h1 u1 v1 := by
        intro pc1 ls1 st1 h1 u1 v1 g
        split at g
        · rename_i live hlive
          unfold atcut at g
          split at g
          · rename_i vs hvs
            intro ad H locs L C e0 e1 hS
            have g2 := hK pc1 live vs h1 u1 v1 hlive g (fun x hx9 => by
              obtain ⟨j, hj⟩ := lsel_mem hvs hx9
              exact C.2.2.2.1 j x hj) C.2.2.2.2.2.1 C.2.2.2.2.2.2
            refine g2 ad H locs L ⟨?_, C.2.1, C.2.2.1, ?_, C.2.2.2.2⟩ e0 e1 hS
            · refine lhas_mono C.1 ?_
              rintro ⟨j, w⟩ hq
              obtain ⟨y, hy, rfl⟩ := lp_mem.mp hq
              obtain ⟨x, x1, x2⟩ := lmk_get hy
              rw [Nat.zero_add] at x1
              exact lp_mem.mpr ⟨y, lsel_get hvs x1 x2, rfl⟩
            · intro j y hy
              obtain ⟨x, x1, x2⟩ := lmk_get hy
              rw [Nat.zero_add] at x1
              exact C.2.2.2.1 j y (lsel_get hvs x1 x2)
          · exact g.elim
        · exact ih tl htl pc1 ls1 st1 h1 u1 v1 g
      obtain ⟨hx, hb, hml, hown, htw, hpay, hF, hV, hA, hMC, hMS, hRf, hRl⟩ := id K
      unfold rowB at hrow
      rw [Bool.and_eq_true] at hrow
      obtain ⟨ra, rest⟩ := hrow
      unfold stp at hs
      by_cases hsw : isSw i = true
      · refine stpA_sound (other := False) hx hb hown htw hk (fun q => q.elim) ra ?_
        cases i <;> first | exact hs | (exfalso; simp [isSw] at hsw; done)
      · rw [show isSw i = false from by simpa using hsw] at rest
        simp only [cond_false, Bool.and_eq_true] at rest
        obtain ⟨rf, rd⟩ := rest
        refine stpA_sound hx hb hown htw hk (fun hs1 => ?_) ra hs
        refine stpB_sound (ax := ax) (tg := tg) hx hb hown htw hk (fun hs2 => ?_) ra hs1
        refine stpF_sound hx hb hown htw (fun ci hci => uws_before hpay hci) hV.1 hF.1 hmi hk (fun hs3 => ?_) rf hs2
        refine stpC_sound hx hb hown htw hV.1 hMC hMS hF.2.1 hscr hA hk (fun hs4 => ?_) rf hs3
        refine stpS_sound K hscr hmr hk (fun hc hs5 => ?_) (fun hc => by rw [hc] at rd; exact rd) hs4
        rw [hc] at rd
        have rd : rowD own cc pc i nx ax tg = true := rd
        exact stpD_sound K htab hhd hout hmr hM hk (fun hs6 => hend rd hs6) rd hs5
    intro cur hcur pc ls st h u v hs
    unfold aw at hs
    split at hs
    · rename_i q0 i nx ax tg tl hq
      obtain ⟨g1, g2, g3⟩ := seek_spec hq
      have g2 : q0 = pc := g2
      subst g2
      exact step _ i nx ax tg tl (fun q hq => hcur q (g3 q hq)) (hcur _ g1) ls st h u v hs
    · split at hs
      · rename_i q0 i nx ax tg tl hq
        obtain ⟨g1, g2, g3⟩ := seek_spec hq
        have g2 : q0 = pc := g2
        subst g2
        exact step _ i nx ax tg tl (fun q hq => hcode q (g3 q hq)) (hcode _ g1) ls st h u v hs
      · exact hs.elim
/-- a measured loop: what holds at the cuts, with a number that falls -/
theorem aw_loop {own MC MS HT : Nat} (K : Kn p l R s m ag c cc nL D ca A lb sa sv own MC MS HT) {SL : Option Int} {SX : Int → Int} (hscr : ∀ n, SL = some n → 0 ≤ n ∧ Rng n ∧ (∀ j, Rng (SX j)) ∧ va_X b0.1 n.toNat (fun j => iw (SX j)) s s.heap ∧ b0.1 < s.heap.size ∧ ¬ A b0.1) {mi : Bool} (hmi : mi = true → meth.name = "<init>")
    {S : Nat → CS} {hh : List (Nat × Nat × Nat × Nat)} {hd : List (Nat × (Nat × (Nat × Nat)))} {ps : List Nat} (htab : c.exceptionTable.toList = tableOf hh) (hhd : hdB own hh hd ps = true) {rk : Nat} {Rt : Option AV → Hp → Prop} {X : Nat → Hp → Prop}
    (hout : hh = [] → ∀ (E : Nat) (h1 : Hp) (ad1 : Nat → Nat) (H1 : Heap) (locs1 : List Loc) (u1 v1 pc : Nat) (q9 : Addr) (ce : Cell) (L : Array Slot) (rs : List Value) (ad : Nat → Nat) (h : Hp) (A1 : Nat → Prop) (H : Heap) (locs : List Loc) (ls : LSt) (st : List AV), Cn D ca A ad fx nL ls st h H L → E0 b0 ad h → (∀ q, A1 q → A q) → E < 3 → X E h1 → u1 ≤ MC → v1 ≤ MS → BB D ca fx A1 ad h ad1 h1 H1 → va_S A s.heap H1 locs1 → H1[q9]? = some ce → ce.vm = .none → s.vm.findClass (tEX E) = some ce.cls → vx_W p l e R s m ag below meth c H1 locs1 u1 v1 Q (F0 m pc L rs) q9)
    (hend : ∀ {pc : Nat} {i : Instr} {nx : Nat} {ax : Int} {tg : List Nat} {ls : LSt} {st : List AV} {h : Hp} {u v : Nat}, rowD own cc pc i nx ax tg = true → stpE rk MC MS hd Rt X i tg st h u v → AW p l e R s m ag below meth c Q nL D ca A b0 lb fx pc ls st h u v)
    (hmr : ∀ n, knows n = true → mrB n = true ∧ tb (nth (mI (tMR n)) 4 0) = some (codeW (tMR n))) (hM : ∀ n, knows n = true → MetS l D ca lb sa sv (tMR n) fx (S n))
    {code : List (Nat × Row)} (hcode : ∀ q ∈ code, rowB own nL mi cc q = true) {cut : List (Nat × List Nat)} {I : Nat → AKK} {F : Nat}
    (hI : ∀ k pc live vs h u v, look cut pc = some live → I k pc vs h u v → (∀ x ∈ vs, vok (hN h) x) → hok h → (fx = true → fixed h) → aw fx rk MC MS HT S hd Rt X SL SX code cut (fun pc vs h u v => ∃ k', k' < k ∧ I k' pc vs h u v) F code pc (lmk 0 nL live vs) [] h u v) :
    ∀ k pc live vs h u v, look cut pc = some live → I k pc vs h u v → (∀ x ∈ vs, vok (hN h) x) → hok h → (fx = true → fixed h) → AW p l e R s m ag below meth c Q nL D ca A b0 lb fx pc (lmk 0 nL live vs) [] h u v := by
  intro k
  induction k using Nat.strongRecOn with
  | ind k ih =>
    intro pc live vs h u v hlive hi hv hh hf
    refine aw_sound K hscr hmi htab hhd hout hend hmr hM hcode (cut := cut) (KK := fun pc vs h u v => ∃ k', k' < k ∧ I k' pc vs h u v) ?_ F code hcode pc _ _ h u v (hI k pc live vs h u v hlive hi hv hh hf)
    rintro pc1 live1 vs1 h1 u1 v1 hl1 ⟨k', hk', hi'⟩ hv1 hh1 hf1
    exact ih k' hk' pc1 live1 vs1 h1 u1 v1 hl1 hi' hv1 hh1 hf1
end Ctx
/-- what is checked of a method's code once -/
def methB (n own rk nL : Nat) (mi : Bool) (code : List (Nat × Row)) (hd : List (Nat × (Nat × (Nat × Nat)))) (ps : List Nat) : Bool :=
  decide (tNM own = (mY (tMR n)).cls) && (rkOK rk (mR (tMR n)) && (Nat.beq nL (mL (tMR n)) && (cond mi (decide ((mY (tMR n)).name = "<init>")) true && (hdB own (mH (tMR n)) hd ps && code.all (rowB own nL mi (mB (tMR n)))))))
/-- what is owed of a method: from its start, to the cuts, and from each cut to the next -/
def Obl (fx : Bool) (rk nL : Nat) (S : Nat → CS) (hd : List (Nat × (Nat × (Nat × Nat)))) (code : List (Nat × Row)) (cs : CS) : Prop :=
  ∀ (as : List AV) (h : Hp) (Rt : Option AV → Hp → Prop) (X : Nat → Hp → Prop), (∀ v ∈ as, vok (hN h) v) → hok h → (fx = true → fixed h) → cs.2 as h Rt X →
    (Nat.ble (catS as) nL && Nat.blt 0 (cs.1 as h).2.2) = true ∧ ∃ (cut : List (Nat × List Nat)) (I : Nat → AKK) (F : Nat),
      aw fx rk (cs.1 as h).1 (cs.1 as h).2.1 (cs.1 as h).2.2 S hd Rt X none (fun _ => 0) code cut (fun pc vs h u v => ∃ k, I k pc vs h u v) F code 0 (lpad (lent as) nL) [] h 0 0 ∧
      ∀ k pc live vs h1 u v, look cut pc = some live → I k pc vs h1 u v → (∀ x ∈ vs, vok (hN h1) x) → hok h1 → (fx = true → fixed h1) →
        aw fx rk (cs.1 as h).1 (cs.1 as h).2.1 (cs.1 as h).2.2 S hd Rt X none (fun _ => 0) code cut (fun pc vs h u v => ∃ k', k' < k ∧ I k' pc vs h u v) F code pc (lmk 0 nL live vs) [] h1 u v
theorem met_of {l : Launch} (hl : l.stackTraces = false) {D : va_G} {ca : Nat → ClassId} {lb sa sv : Nat} (hmr : ∀ n, knows n = true → mrB n = true ∧ tb (nth (mI (tMR n)) 4 0) = some (codeW (tMR n))) {n own rk nL : Nat} {mi fx : Bool} {code : List (Nat × Row)} {hd : List (Nat × (Nat × (Nat × Nat)))} {ps : List Nat} (hn : knows n = true) (hc : methB n own rk nL mi code hd ps = true)
    {S : Nat → CS} (hM : ∀ k, knows k = true → MetS l D ca lb sa sv (tMR k) fx (S k)) {cs : CS} (H : Obl fx rk nL S hd code cs) : MetS l D ca lb sa sv (tMR n) fx cs := by
  intro ad sz as h Rt X hvas hh hfix e1 hsp
  obtain ⟨hob, cut, I, F, haw, hloop⟩ := H as h Rt X hvas hh hfix hsp
  rw [Bool.and_eq_true] at hob
  have hcat := Nat.le_of_ble_eq_true hob.1
  have hHT := blt_spec hob.2
  unfold methB at hc
  simp only [Bool.and_eq_true, decide_eq_true_eq] at hc
  obtain ⟨c1, c2, c3, c4, c5, c6⟩ := hc
  have c3 := Nat.eq_of_beq_eq_true c3
  have hcode : ∀ q ∈ code, rowB own nL mi (mB (tMR n)) q = true := fun q hq => List.all_eq_true.mp c6 q hq
  obtain ⟨w1, w2, w3, w4, w5, w6, w7, w8⟩ := mrB_spec (hmr n hn)
  generalize hcs : cs.1 as h = q at haw hloop hHT ⊢
  obtain ⟨MC, MS, HT⟩ := q
  dsimp only at haw hloop hHT ⊢
  have body : ∀ p e s m args below meth c s₁, BodyLoose p l (mY (tMR n)) (headSpec (wsOf (tMR n)) (rmOf (MC, (MS, HT)))) (mB (tMR n)) (mL (tMR n)) (mR (tMR n)) e s m args below meth c s₁ → c.maxLocals = mL (tMR n) → c.exceptionTable.toList = tableOf (mH (tMR n)) → PC D ca lb sa sv ad sz as h args s →
      W p l e (rmOf (MC, (MS, HT))) s m args below meth c s.heap [] 0 0 (vx_MQ below (QQ D ca fx (va_A (wo ad ca h) sz) ad h Rt) (XQ D ca fx (va_A (wo ad ca h) sz) ad h X) args s MC MS (va_A (wo ad ca h) sz)) (entryFrame m args (mL (tMR n))) := by
    intro p e s m args below meth c s₁ B hml htab hPC
    obtain ⟨rfl, hsz, hP, hD0, hF, hV⟩ := hPC
    subst hsz
    have hts := atoms_spec (ws := wsOf (tMR n)) B.pre
    have hown : s.vm.findClass (tNM own) = some m.cls := by rw [c1]; exact findClass_of_methodNamed B.named
    have hpay : ∀ w ∈ WSG, ∀ (a' : Array Value) (U : State), s.WarmedH U.vm → w.before a' U = true := by
      intro w hw a' U hW
      exact word_at hW (good_of_word (List.mem_filter.mp hw).2) (hts w (List.mem_cons_of_mem _ hw))
    have htw : ∀ i w, wd i w = true → w.before (as.map (cv ad)).toArray s = true := by
      intro i w hw
      unfold wd at hw
      rw [Bool.and_eq_true, Bool.or_eq_true] at hw
      have hmem : w ∈ lw_tbl := tb_mem (of_decide_eq_true hw.1)
      rcases hw.2 with g | g
      · exact hts w (List.mem_cons_of_mem _ (List.mem_filter.mpr ⟨hmem, g⟩))
      · exact cr_use g (hV.2.1 w hmem g)
    have hA : ∀ q, s.heap.size ≤ q → (va_A (wo ad ca h) s.heap.size) q := fun q hq => Or.inr hq
    have K : Kn p l (rmOf (MC, (MS, HT))) s m (as.map (cv ad)).toArray c (mB (tMR n)) nL D ca (va_A (wo ad ca h) s.heap.size) lb sa sv own MC MS HT :=
      ⟨B.exec, B.bytes, by rw [c3]; exact hml, hown, htw, hpay, hF, hV, hA, Nat.le_refl _, Nat.le_refl _, Nat.le_refl _, Nat.le_refl _⟩
    have hlocks := B.notSynchronized
    have hmi : mi = true → meth.name = "<init>" := by
      intro q
      rw [q] at c4
      rw [(name_of_methodNamed B.named B.method).1]
      simpa using c4
    have hrk : rkOK rk meth.sig.returnType = true := by rw [B.returns]; exact c2
    have hhd0 : hd = [] → c.exceptionTable.toList = [] := by
      intro q
      rw [htab]
      rw [q] at c5
      cases hq : mH (tMR n) with
      | nil => rfl
      | cons a b => rw [hq] at c5; simp [hdB] at c5
    have hout : mH (tMR n) = [] → ∀ (E : Nat) (h1 : Hp) (ad1 : Nat → Nat) (H1 : Heap) (locs1 : List Loc) (u1 v1 pc : Nat) (q9 : Addr) (ce : Cell) (L : Array Slot) (rs : List Value) (ad2 : Nat → Nat) (h2 : Hp) (A1 : Nat → Prop) (H : Heap) (locs : List Loc) (ls : LSt) (st : List AV), Cn D ca (va_A (wo ad ca h) s.heap.size) ad2 fx nL ls st h2 H L → E0 (ad 1000, (hN h, ad)) ad2 h2 → (∀ q, A1 q → (va_A (wo ad ca h) s.heap.size) q) → E < 3 → X E h1 → u1 ≤ MC → v1 ≤ MS → BB D ca fx A1 ad2 h2 ad1 h1 H1 → va_S (va_A (wo ad ca h) s.heap.size) s.heap H1 locs1 → H1[q9]? = some ce → ce.vm = .none → s.vm.findClass (tEX E) = some ce.cls → vx_W p l e (rmOf (MC, (MS, HT))) s m (as.map (cv ad)).toArray below meth c H1 locs1 u1 v1 (vx_MQ below (QQ D ca fx (va_A (wo ad ca h) s.heap.size) ad h Rt) (XQ D ca fx (va_A (wo ad ca h) s.heap.size) ad h X) (as.map (cv ad)).toArray s MC MS (va_A (wo ad ca h) s.heap.size)) (F0 m pc L rs) q9 := by
      intro hh0 E h1 ad1 H1 locs1 u1 v1 pc q9 ce L rs ad2 h2 A1 H locs ls st C e0 hA1 hE hX hu hv hB hS1 hce hcv hcl
      refine vx_out (fun x hx => ?_) hlocks hce hcv hcl (fun t ht _ => ?_) hS1.2.2 hu hv
      · rw [htab, hh0] at hx
        cases hx
      · obtain ⟨b1, b2, b3, b4, b5, b6⟩ := hB
        obtain ⟨z1, z2, z3⟩ := e0
        have z3 : hN h ≤ hN h2 := z3
        have hwo : wo (adZ ad ad1) ca h1 = wo ad1 ca h1 := wo_congr b4 (fun a ha => by unfold adZ; rw [if_pos ha])
        refine ⟨⟨E, h1, adZ ad ad1, hE, rfl, hX, fun a ha => ?_, by rw [hwo, ht]; exact b2, by rw [hwo]; exact b3.weaken (fun _ _ _ z => hA1 _ z), b4, b5, by omega⟩, hS1.F ht⟩
        unfold adZ
        split
        · rcases ha with ha | ha
          · rw [b1 a (Or.inl (by omega))]
            exact z2 a ha
          · omega
        · rfl
    have hend : ∀ {pc : Nat} {i : Instr} {nx : Nat} {ax : Int} {tg : List Nat} {ls : LSt} {st : List AV} {h1 : Hp} {u v : Nat}, rowD own (mB (tMR n)) pc i nx ax tg = true → stpE rk MC MS hd Rt X i tg st h1 u v → AW p l e (rmOf (MC, (MS, HT))) s m (as.map (cv ad)).toArray below meth c (vx_MQ below (QQ D ca fx (va_A (wo ad ca h) s.heap.size) ad h Rt) (XQ D ca fx (va_A (wo ad ca h) s.heap.size) ad h X) (as.map (cv ad)).toArray s MC MS (va_A (wo ad ca h) s.heap.size)) nL D ca (va_A (wo ad ca h) s.heap.size) (ad 1000, (hN h, ad)) lb fx pc ls st h1 u v :=
      fun rd hs => stpE_sound K hl hhd0 hrk hlocks rfl hHT rd hs
    have hscr : ∀ n9 : Int, (none : Option Int) = some n9 → 0 ≤ n9 ∧ Rng n9 ∧ (∀ j, Rng ((fun _ => 0 : Int → Int) j)) ∧ va_X (ad 1000, (hN h, ad)).1 n9.toNat (fun j => iw ((fun _ => 0 : Int → Int) j)) s s.heap ∧ (ad 1000, (hN h, ad)).1 < s.heap.size ∧ ¬ (va_A (wo ad ca h) s.heap.size) (ad 1000, (hN h, ad)).1 := fun n9 q => by cases q
    have hAW := aw_sound K hscr hmi htab c5 hout hend hmr hM hcode (cut := cut) (KK := fun pc vs h u v => ∃ k, I k pc vs h u v)
      (fun pc live vs h1 u v hlv ⟨k, hi⟩ hv hh1 hf1 => aw_loop K hscr hmi htab c5 hout hend hmr hM hcode hloop k pc live vs h1 u v hlv hi hv hh1 hf1) F code hcode 0 _ _ h 0 0 haw
    rw [lg_entry_eq, ← c3]
    refine hAW ad s.heap [] _ ⟨?_, hP, hD0.self, ?_, fun v hv => absurd hv List.not_mem_nil, hh, hfix⟩ ⟨rfl, fun _ _ => rfl, Nat.le_refl _⟩ e1 va_S.rf
    · refine lhas_mono (lv_entry (as.map (cv ad)) (by rw [sl_len]; exact hcat)) ?_
      rintro ⟨j, w⟩ hq
      obtain ⟨y, hy, rfl⟩ := lp_mem.mp hq
      have := lent_get (ad := ad) (k := 0) (lpad_get hy)
      rw [Nat.zero_add] at this
      exact this
    · intro j y hy
      have h9 := lpad_get hy
      have h8 : ∀ (as : List AV) (j : Nat), (∀ v ∈ as, vok (hN h) v) → lget (lent as) j = some y → vok (hN h) y := by
        intro as
        induction as with
        | nil => intro j _ hj; simp [lent, lget] at hj
        | cons a as ih =>
          intro j hv hj
          cases j with
          | zero =>
            simp only [lent, lget, Option.some.injEq] at hj
            rw [← hj]
            exact hv a List.mem_cons_self
          | succ j =>
            simp only [lent, lget] at hj
            cases hc9 : cat1 a with
            | true => rw [hc9] at hj; exact ih j (fun v hv9 => hv v (List.mem_cons_of_mem _ hv9)) hj
            | false =>
              rw [hc9] at hj
              cases j with
              | zero => simp [lget] at hj
              | succ j => exact ih j (fun v hv9 => hv v (List.mem_cons_of_mem _ hv9)) hj
      exact h8 as j hvas h9
  rcases codeW_cases (tMR n) with ⟨k1, k2⟩ | k2
  · refine vx_ofW (ws' := WSG) w6 (by unfold wsOf; rw [k2]) (fun p e s m args below meth c s₁ B hml ht hPC => ?_)
    refine body p e s m args below meth c s₁ B hml ?_ hPC
    rw [k1]
    cases hq : c.exceptionTable.toList with
    | nil => rfl
    | cons a b => rw [hq] at ht; exact (ht a List.mem_cons_self).elim
  · refine vx_ofWH (hh := mH (tMR n)) (ws' := WSG) w6 (by unfold wsOf; rw [k2]) (fun p e s m args below meth c s₁ B hml hPC => ?_)
    refine body p e s m args below meth c s₁ B hml ?_ hPC
    refine vx_table (x := mY (tMR n)) B (y := mY (tMR n)) (bytes := mB (tMR n)) (maxL' := mL (tMR n)) (ret' := mR (tMR n)) ?_
    rw [← k2]
    exact atoms_spec (ws := wsOf (tMR n)) B.pre _ List.mem_cons_self

/-! ===== calls, what is made, ends, a whole method ===== -/
def fs0 (ci : Nat) : List Value := (List.range (cN ci).2.2).map fun k => match tFT ci k with
  | 1 => .long 0
  | 2 => .null
  | _ => .int 0
theorem fs0_dflt {ci : Nat} (hci : ci < 9) : ∀ j, j < (cN ci).2.2 → defaultValue (tTY ci j) = vp_V (fs0 ci) j := by
  intro j hj
  have h1 : vp_V (fs0 ci) j = (match tFT ci j with
    | 1 => .long 0
    | 2 => .null
    | _ => .int 0 : Value) := by
    unfold vp_V fs0
    rw [List.getD_eq_getElem?_getD, List.getElem?_map, List.getElem?_range hj]
    rfl
  have h2 := tFT_ok hci hj
  rw [h1]
  unfold tyOK at h2
  split at h2
  · rename_i e1 e2; rw [e1, e2]; rfl
  · rename_i e1 e2; rw [e1, e2]; rfl
  · rename_i e1 e2; rw [e1, e2]; rfl
  · rename_i e1 e2; rw [e1, e2]; rfl
  · rename_i e1 e2; rw [e1, e2]; rfl
  · cases h2
theorem ent_new {ad : Nat → Nat} {ca : Nat → ClassId} {h : Hp} {ci : Nat} (hc : (tGK (hN h)).1 = ci) (hl : ci < 9) : ent ad ca (hnew h) (hN h) = .inr (ci, fs0 ci) := by
  rw [ent_obj hc hl]
  congr 2
  refine List.map_congr_left fun k _ => ?_
  unfold fv
  rw [hI_new, hJ_new, hR_new, if_pos rfl, if_pos rfl, if_pos rfl]
  split
  · rename_i e; rw [e]; rfl
  · rename_i e; rw [e]; rfl
  · rename_i e1 e2
    split
    · rename_i e; exact absurd e e1
    · rename_i e; exact absurd e e2
    · rfl
theorem iw_cpy {h : Hp} {a b : Nat} {q d n : Int} (hq : 0 ≤ q) (hd : 0 ≤ d) (hn : 0 ≤ n) : va_cpy (fun j : Nat => iw (hI h b j)) (fun j : Nat => iw (hI h a j)) q.toNat d.toNat n.toNat = fun j : Nat => iw (hI (cpyI h b q a d n) a j) := by
  funext k
  unfold va_cpy cpyI
  rw [hI_rI, if_pos rfl]
  by_cases e : d.toNat ≤ k ∧ k < d.toNat + n.toNat
  · have e2 : d ≤ (k : Int) ∧ (k : Int) < d + n := by omega
    rw [if_pos e, if_pos e2]
    show iw (hI h b ((q.toNat + (k - d.toNat) : Nat) : Int)) = _
    rw [show ((q.toNat + (k - d.toNat) : Nat) : Int) = q + ((k : Int) - d) from by omega]
  · have e2 : ¬ (d ≤ (k : Int) ∧ (k : Int) < d + n) := by omega
    rw [if_neg e, if_neg e2]
theorem E0.back {D : va_G} {ca : Nat → ClassId} {fx : Bool} {A1 : Nat → Prop} {b : B0} {ad ad1 : Nat → Nat} {h h1 : Hp} {H1 : Heap} (e : E0 b ad h) (hB : BB D ca fx A1 ad h ad1 h1 H1) : E0 b ad1 h1 := by
  obtain ⟨e1, e2, e3⟩ := e
  have b6 := hB.2.2.2.2.2
  exact ⟨by rw [hB.1 1000 (Or.inr (by omega))]; exact e1, fun a ha => by rw [hB.1 a (Or.inl (by omega))]; exact e2 a ha, by omega⟩
theorem E0.caught {b : B0} {ad ad1 : Nat → Nat} {h h1 : Hp} {q : Nat} (e : E0 b ad h) (b1 : ∀ a, a < hN h ∨ 63 ≤ a → ad1 a = ad a) (b6 : hN h ≤ hN h1) (hn : hN h ≤ 63) : E0 b (adN ad1 1003 q) h1 := by
  obtain ⟨e1, e2, e3⟩ := e
  refine ⟨?_, fun a ha => ?_, by omega⟩
  · unfold adN; rw [if_neg (by omega), b1 1000 (Or.inr (by omega))]; exact e1
  · unfold adN; rw [if_neg (by omega), b1 a (Or.inl (by omega))]; exact e2 a ha
theorem hok_cpy {h : Hp} {a b : Nat} {q d n : Int} (hh : hok h) : hok (cpyI h b q a d n) := by
  unfold cpyI
  refine hok_rI hh fun j => ?_
  show Rng (if d ≤ j ∧ j < d + n then hI h b (q + (j - d)) else hI h a j)
  split
  · exact hh.1 _ _
  · exact hh.1 _ _
section Ctx
variable {p : Program} {l : Launch} {e : Env} {R : Room} {s : State} {m : MethodId} {ag : Array Value} {below : List Frame} {meth : Method} {c : Code} {Q : State → Prop} {cc : ByteArray} {nL : Nat} {D : va_G} {ca : Nat → ClassId} {A : Nat → Prop} {b0 : B0} {lb sa sv : Nat} {fx : Bool}
theorem doC_sound {own MC MS HT : Nat} (K : Kn p l R s m ag c cc nL D ca A lb sa sv own MC MS HT) {S : Nat → CS} {hh : List (Nat × Nat × Nat × Nat)} {hd : List (Nat × (Nat × (Nat × Nat)))} {ps : List Nat} (htab : c.exceptionTable.toList = tableOf hh) (hhd : hdB own hh hd ps = true) {X : Nat → Hp → Prop}
    (hout : hh = [] → ∀ (E : Nat) (h1 : Hp) (ad1 : Nat → Nat) (H1 : Heap) (locs1 : List Loc) (u1 v1 pc : Nat) (q9 : Addr) (ce : Cell) (L : Array Slot) (rs : List Value) (ad : Nat → Nat) (h : Hp) (A1 : Nat → Prop) (H : Heap) (locs : List Loc) (ls : LSt) (st : List AV), Cn D ca A ad fx nL ls st h H L → E0 b0 ad h → (∀ q, A1 q → A q) → E < 3 → X E h1 → u1 ≤ MC → v1 ≤ MS → BB D ca fx A1 ad h ad1 h1 H1 → va_S A s.heap H1 locs1 → H1[q9]? = some ce → ce.vm = .none → s.vm.findClass (tEX E) = some ce.cls → vx_W p l e R s m ag below meth c H1 locs1 u1 v1 Q (F0 m pc L rs) q9)
    {k : AK} (hk : ∀ pc1 ls1 st1 h1 u1 v1, k pc1 ls1 st1 h1 u1 v1 → AW p l e R s m ag below meth c Q nL D ca A b0 lb fx pc1 ls1 st1 h1 u1 v1)
    {idx kind n np rc p9 ne pc : Nat} (hmr : mrB n = true ∧ tb (nth (mI (tMR n)) 4 0) = some (codeW (tMR n))) (hcall : callB own idx kind n np rc p9 ne = true)
    (hd9 : decode cc pc = .ok (match kind with
      | 0 => .invokevirtual idx
      | 1 => .invokestatic idx
      | _ => .invokespecial idx, 3))
    (hM : MetS l D ca lb sa sv (tMR n) fx (S n)) {as as' st rest : List AV} {a : Nat} (hlen : as.length = np) (hst : (kind = 1 ∧ st = as.reverse ++ rest ∧ as' = as) ∨ (kind ≠ 1 ∧ st = as.reverse ++ .inr (.inr (some a)) :: rest ∧ as' = .inr (.inr (some a)) :: as ∧ (tGK a).1 = rc))
    {ls : LSt} {h : Hp} {u v : Nat} (hs : doC MC MS HT S hd X k pc (pc + 3) ls h u v n as' rest) : AW p l e R s m ag below meth c Q nL D ca A b0 lb fx pc ls st h u v := by
  intro ad H locs L C e0 e1 hS
  obtain ⟨hq, hsp⟩ := ob_spec hs
  simp only [Bool.and_eq_true] at hq
  obtain ⟨q1, q2, q3, q4⟩ := hq
  have q1 := Nat.le_of_ble_eq_true q1
  have q2 := Nat.le_of_ble_eq_true q2
  have q3 := Nat.le_of_ble_eq_true q3
  have q4 := blt_spec q4
  have hrun := call_run (e := e) (below := below) (meth := meth) K (nx := 0) (i := .nop) hmr hcall hd9 hM hlen hst C e1 hS hsp q1 q2 q3 q4
  obtain ⟨hx, hb, hml, hown, htw, hpay, hF, hV, hA, hMC, hMS, hRf, hRl⟩ := K
  have hrest : ∀ v ∈ rest, vok (hN h) v := by
    rcases hst with ⟨-, rfl, -⟩ | ⟨-, rfl, -, -⟩
    · exact fun v hv => C.st v (List.mem_append_right _ hv)
    · exact fun v hv => C.st v (List.mem_append_right _ (List.mem_cons_of_mem _ hv))
  refine cm_after hrun hS (C.free hS hA) ?_ ?_
  · intro E h1 ad1 ce q9 H1 locs1 hE hX hB hS1 hce hcv hcl
    split at hX
    · rename_i t ht
      obtain ⟨pre, x, suf, g1, g2, g3, g4, g5, rfl⟩ := catch_of htw hV.2.2.1 hE hhd ht
      refine vx_catch hown pre x suf (by rw [htab]; exact g1) g2 g3 g4 g5 (cr_use rfl (hV.2.1 _ (cast_in E hE) rfl)) hce hcv hcl ?_
      have hN9 := C.2.2.2.2.2.1.2.2
      obtain ⟨b1, b2, b3, b4, b5, b6⟩ := hB
      have hN1 := b4.2.2
      have hwo : wo (adN ad1 1003 q9) ca h1 = wo ad1 ca h1 := by
        unfold wo
        refine List.map_congr_left fun a ha => ?_
        have ha := List.mem_range.mp ha
        have e5 : ∀ k, (hR h1 a k).map (adN ad1 1003 q9) = (hR h1 a k).map ad1 := by
          intro k9
          cases hr : hR h1 a k9 with
          | none => rfl
          | some b =>
            have := b4.2.1 _ _ _ hr
            show some (adN ad1 1003 q9 b) = some (ad1 b)
            unfold adN
            rw [if_neg (by omega)]
        rw [show adN ad1 1003 q9 a = ad1 a from by unfold adN; rw [if_neg (by omega)]]
        unfold ent fv
        simp only [e5]
      have C1 : Cn D ca A (adN ad1 1003 q9) fx nL (ldrop ls) [.inr (.inr (some 1003))] h1 H1 L := by
        refine ⟨?_, by rw [hwo]; exact b2, by rw [hwo]; exact b3.weaken (fun _ _ _ z => C.free hS hA _ z), ?_, ?_, b4, b5⟩
        · refine lhas_mono C.1 ?_
          rintro ⟨j, w⟩ hq
          obtain ⟨y, hy, rfl⟩ := lp_mem.mp hq
          obtain ⟨g7, g8⟩ := ldrop_get hy
          refine lp_mem.mpr ⟨y, g7, ?_⟩
          have hv := C.2.2.2.1 j y g7
          rcases y with z | z | (_ | a9)
          · rfl
          · rfl
          · rfl
          · have := g8 a9 rfl
            show Value.ref (adN ad1 1003 q9 a9) = Value.ref (ad a9)
            unfold adN
            rw [if_neg (by omega), b1 a9 (by rcases hv with hv | hv <;> omega)]
        · intro i y hy
          exact vok_up (C.2.2.2.1 i y (ldrop_get hy).1) b6
        · intro y hy
          rcases List.mem_singleton.mp hy with rfl
          exact Or.inr (by omega)
      have g := hk _ _ _ _ _ _ hX (adN ad1 1003 q9) H1 locs1 L C1 (e0.caught b1 b6 hN9) (by unfold adN; rw [if_neg (by omega), b1 1001 (Or.inr (by omega))]; exact e1) hS1
      rw [show ([.inr (.inr (some 1003))] : List AV).map (cv (adN ad1 1003 q9)) = [.ref q9] from by show [Value.ref (adN ad1 1003 q9 1003)] = _; unfold adN; rw [if_pos rfl]] at g
      exact g
    · obtain ⟨g1, g2⟩ := ob_spec hX
      have ehd := List.isEmpty_iff.mp g1
      have ehh : hh = [] := by
        cases hh with
        | nil => rfl
        | cons a b => rw [ehd] at hhd; simp [hdB] at hhd
      exact hout ehh E h1 ad1 H1 locs1 _ _ pc q9 ce L _ ad h _ H locs ls st C e0 (C.free hS hA) hE g2 (by omega) (by omega) hB hS1 hce hcv hcl
  · intro r h1 ad1 H1 locs1 hRt hvr hB hS1
    obtain ⟨C1, em⟩ := C.back hB (C.free hS hA) hrest hvr
    have g := hk _ _ _ _ _ _ hRt ad1 H1 locs1 L C1 (e0.back hB) (by rw [hB.1 1001 (Or.inr (by omega))]; exact e1) hS1
    rw [em] at g
    exact g
theorem stpD_sound {own MC MS HT : Nat} (K : Kn p l R s m ag c cc nL D ca A lb sa sv own MC MS HT) {S : Nat → CS} {hh : List (Nat × Nat × Nat × Nat)} {hd : List (Nat × (Nat × (Nat × Nat)))} {ps : List Nat} (htab : c.exceptionTable.toList = tableOf hh) (hhd : hdB own hh hd ps = true) {X : Nat → Hp → Prop}
    (hout : hh = [] → ∀ (E : Nat) (h1 : Hp) (ad1 : Nat → Nat) (H1 : Heap) (locs1 : List Loc) (u1 v1 pc : Nat) (q9 : Addr) (ce : Cell) (L : Array Slot) (rs : List Value) (ad : Nat → Nat) (h : Hp) (A1 : Nat → Prop) (H : Heap) (locs : List Loc) (ls : LSt) (st : List AV), Cn D ca A ad fx nL ls st h H L → E0 b0 ad h → (∀ q, A1 q → A q) → E < 3 → X E h1 → u1 ≤ MC → v1 ≤ MS → BB D ca fx A1 ad h ad1 h1 H1 → va_S A s.heap H1 locs1 → H1[q9]? = some ce → ce.vm = .none → s.vm.findClass (tEX E) = some ce.cls → vx_W p l e R s m ag below meth c H1 locs1 u1 v1 Q (F0 m pc L rs) q9)
    (hmr : ∀ n, knows n = true → mrB n = true ∧ tb (nth (mI (tMR n)) 4 0) = some (codeW (tMR n))) (hM : ∀ n, knows n = true → MetS l D ca lb sa sv (tMR n) fx (S n))
    {k : AK} (hk : ∀ pc1 ls1 st1 h1 u1 v1, k pc1 ls1 st1 h1 u1 v1 → AW p l e R s m ag below meth c Q nL D ca A b0 lb fx pc1 ls1 st1 h1 u1 v1)
    {pc : Nat} {i : Instr} {nx : Nat} {ax : Int} {tg : List Nat} {ls : LSt} {st : List AV} {h : Hp} {u v : Nat} {other : Prop} (ho : other → AW p l e R s m ag below meth c Q nL D ca A b0 lb fx pc ls st h u v)
    (hrow : rowD own cc pc i nx ax tg = true) (hs : stpD fx MC MS HT S hd X k pc i nx tg ls st h u v other) : AW p l e R s m ag below meth c Q nL D ca A b0 lb fx pc ls st h u v := by
  unfold stpD at hs
  split at hs
  · -- invokevirtual
    rename_i idx
    split at hs
    · rename_i kd n np rc tl
      unfold rowD at hrow
      rw [Bool.and_eq_true] at hrow
      obtain ⟨hd0, hrow⟩ := hrow
      obtain ⟨hd1, rfl⟩ := dec1_spec hd0
      split at hrow
      · rename_i heq
        cases heq
        rw [Bool.and_eq_true] at hrow
        obtain ⟨hk0, hcall⟩ := hrow
        have hk0 := Nat.eq_of_beq_eq_true hk0
        subst hk0
        split at hs
        · rename_i as a rest hta
          obtain ⟨hgk, hs1⟩ := ob_spec hs
          have hgk := Nat.eq_of_beq_eq_true hgk
          obtain ⟨l9, e9, hst9, hl9⟩ := takeA_spec hta
          rw [List.append_nil] at e9
          exact doC_sound K htab hhd hout hk (hmr n (callB_spec hcall).1) hcall hd1 (hM n (callB_spec hcall).1) (as := as) (by rw [e9, List.length_reverse]; exact hl9) (Or.inr ⟨by decide, by rw [e9, List.reverse_reverse]; exact hst9, rfl, hgk⟩) hs1
        · exact hs.elim
      · cases hrow
    · exact hs.elim
  · -- invokestatic
    rename_i idx
    split at hs
    · rename_i kd n np tl
      unfold rowD at hrow
      rw [Bool.and_eq_true] at hrow
      obtain ⟨hd0, hrow⟩ := hrow
      obtain ⟨hd1, rfl⟩ := dec1_spec hd0
      split at hrow
      · rename_i heq
        cases heq
        rw [Bool.and_eq_true] at hrow
        obtain ⟨hk0, hcall⟩ := hrow
        have hk0 := Nat.eq_of_beq_eq_true hk0
        subst hk0
        split at hs
        · rename_i as rest hta
          obtain ⟨l9, e9, hst9, hl9⟩ := takeA_spec hta
          rw [List.append_nil] at e9
          exact doC_sound K htab hhd hout hk (hmr n (callB_spec hcall).1) hcall hd1 (hM n (callB_spec hcall).1) (as := as) (a := 0) (by rw [e9, List.length_reverse]; exact hl9) (Or.inl ⟨rfl, by rw [e9, List.reverse_reverse]; exact hst9, rfl⟩) hs
        · exact hs.elim
      · rename_i heq
        cases heq
      · rename_i heq
        cases heq
      · cases hrow
    · rename_i q9 p9
      unfold rowD at hrow
      rw [Bool.and_eq_true] at hrow
      obtain ⟨hd0, hl⟩ := hrow
      obtain ⟨hd1, rfl⟩ := dec1_spec hd0
      have hl : wd p9 (.methodLink (tNM own) idx (cond (Nat.beq q9 0) Lib.Math.max.name Lib.Math.min.name)) = true := hl
      obtain ⟨x, y, r, rfl, hs1⟩ := two_spec hs
      obtain ⟨hq, hs2⟩ := ob_spec hs1
      simp only [Bool.and_eq_true] at hq
      obtain ⟨g1, g2, g3⟩ := hq
      have g1 := Nat.le_of_ble_eq_true g1
      have g2 := Nat.le_of_ble_eq_true g2
      have g3 := Nat.le_of_ble_eq_true g3
      obtain ⟨hx, hb, hml, hown, htw, hpay, hF, hV, hA, hMC, hMS, hRf, hRl⟩ := K
      intro ad H locs L C e0 e1 hS
      obtain ⟨v1, v2, v3⟩ := vok2 C.st
      have v1 : Rng y := v1
      have v2 : Rng x := v2
      have hk9 : ∀ z : Int, Rng z → k (pc + il (.invokestatic idx)) ls (.inl z :: r) h u v → W p l e R s m ag below meth c H locs u v Q (F0 m (pc + 3) L (.int (iw z) :: r.map (cv ad))) := fun z hz g => hk _ _ _ _ _ _ g ad H locs L (C.stk (vokc hz v3)) e0 e1 hS
      cases hb9 : Nat.beq q9 0 with
      | true =>
        rw [hb9] at hs2 hl
        refine va_mmax hx hb (by rw [hml]; exact C.1.1.symm) hown (htw _ _ hl) (wsg_before hpay math_in.1.1 math_good.1) (wsg_before hpay math_in.2.1 math_good.2.2.1) (wsg_before hpay math_in.2.2.1 math_good.2.2.2.1) (by omega) (by rw [cv_sum]; omega) (by omega) (by omega) hd1 ?_
        by_cases hxy : x < y
        · rw [if_pos ((iw_lt v2 v1).mpr hxy)]
          exact hk9 y v1 (hs2.1 hxy)
        · rw [if_neg (fun z => hxy ((iw_lt v2 v1).mp z))]
          exact hk9 x v2 (hs2.2 (by omega))
      | false =>
        rw [hb9] at hs2 hl
        refine va_mmin hx hb (by rw [hml]; exact C.1.1.symm) hown (htw _ _ hl) (wsg_before hpay math_in.1.2 math_good.2.1) (wsg_before hpay math_in.2.1 math_good.2.2.1) (wsg_before hpay math_in.2.2.2 math_good.2.2.2.2) (by omega) (by rw [cv_sum]; omega) (by omega) (by omega) hd1 ?_
        by_cases hxy : y < x
        · rw [if_pos ((iw_lt v1 v2).mpr hxy)]
          exact hk9 y v1 (hs2.1 hxy)
        · rw [if_neg (fun z => hxy ((iw_lt v1 v2).mp z))]
          exact hk9 x v2 (hs2.2 (by omega))
    · rename_i p9
      unfold rowD at hrow
      rw [Bool.and_eq_true] at hrow
      obtain ⟨hd0, hl⟩ := hrow
      obtain ⟨hd1, rfl⟩ := dec1_spec hd0
      split at hs
      · rename_i n d a q b r
        have hs1 := gk_spec (gk_spec hs)
        obtain ⟨hq, ⟨z1, z2, z3, z4, z5⟩, hs2⟩ := ob_spec hs1
        simp only [Bool.and_eq_true] at hq
        obtain ⟨g1, g2, g3⟩ := hq
        have g1 : (tGK a).1 = 20 := Nat.eq_of_beq_eq_true g1
        have g2 : (tGK b).1 = 20 := Nat.eq_of_beq_eq_true g2
        have g3 := Nat.le_of_ble_eq_true g3
        have z4 : q + n ≤ (tGK b).2 := z4
        have z5 : d + n ≤ (tGK a).2 := z5
        obtain ⟨hx, hb, hml, hown, htw, hpay, hF, hV, hA, hMC, hMS, hRf, hRl⟩ := K
        intro ad H locs L C e0 e1 hS
        obtain ⟨v1, v2, v3⟩ := vok2 C.st
        obtain ⟨v4, v5, v6⟩ := vok2 v3
        obtain ⟨v7, v8⟩ := vok1 v6
        have v1 : Rng n := v1
        have v2 : Rng d := v2
        have v5 : Rng q := v5
        have ha : a < hN h := C.obj v4 (by omega)
        have hbb : b < hN h := C.obj v7 (by omega)
        obtain ⟨n1, n2⟩ := iw_nat v1 z1
        obtain ⟨n3, n4⟩ := iw_nat v2 z2
        obtain ⟨n5, n6⟩ := iw_nat v5 z3
        have hN9 := C.2.2.2.2.2.1.2.2
        have hnw : nativeFrameWords "java/lang/System" "arraycopy" 5 ≤ 250 := by decide +kernel
        obtain ⟨l1, l2⟩ := len_ok (a := a) (by omega) (by omega)
        obtain ⟨l3, l4⟩ := len_ok (a := b) (by omega) (by omega)
        refine va_copyi (ty := .int) hx hb (by rw [hml]; exact C.1.1.symm) hown (htw _ _ hl) (wsg_before hpay copy_in.1 some_good.2.2.1) (wsg_before hpay copy_in.2.1 some_good.2.2.2.1) (wsg_before hpay copy_in.2.2 some_good.2.2.2.2) hV.1 C.2.1 C.2.2.1 hS b a 0 0 (by rw [wo_at hbb, ent_20 g2]) (by rw [wo_at ha, ent_20 g1]) rfl rfl rfl n5 n3 n1 (by rw [n6, n2]; omega) (by rw [n4, n2]; omega) (fun _ _ => rfl) (by omega) (by rw [cv_sum]; omega) hd1 (fun H1 locs1 hP hD hS1 => ?_)
        have hset : (wo ad ca h).set a (ad a, .inl (ca 0, (tGK a).2.toNat, .inl (va_cpy (fun j : Nat => iw (hI h b j)) (fun j : Nat => iw (hI h a j)) q.toNat d.toNat n.toNat))) = wo ad ca (cpyI h b q a d n) := by
          refine set_of rfl ?_ rows_off ha
          rw [ent_20 g1, iw_cpy z3 z2 z1]
        rw [n6, n4, n2, hset] at hP hD
        exact hk _ _ _ _ _ _ hs2 ad H1 locs1 L ⟨C.1, hP, hD, C.2.2.2.1, v8, hok_cpy C.2.2.2.2.2.1, fun q => fixed_rI (C.2.2.2.2.2.2 q)⟩ e0 e1 hS1
      · exact hs.elim
    · exact hs.elim
  · -- invokespecial
    rename_i idx
    split at hs
    · rename_i kd n np rc tl
      unfold rowD at hrow
      rw [Bool.and_eq_true] at hrow
      obtain ⟨hd0, hrow⟩ := hrow
      obtain ⟨hd1, rfl⟩ := dec1_spec hd0
      split at hrow
      · rename_i heq
        cases heq
        rw [Bool.and_eq_true] at hrow
        obtain ⟨hk0, hcall⟩ := hrow
        have hk0 := Nat.eq_of_beq_eq_true hk0
        subst hk0
        split at hs
        · rename_i as a rest hta
          obtain ⟨hgk, hs1⟩ := ob_spec hs
          have hgk := Nat.eq_of_beq_eq_true hgk
          obtain ⟨l9, e9, hst9, hl9⟩ := takeA_spec hta
          rw [List.append_nil] at e9
          exact doC_sound K htab hhd hout hk (hmr n (callB_spec hcall).1) hcall hd1 (hM n (callB_spec hcall).1) (as := as) (by rw [e9, List.length_reverse]; exact hl9) (Or.inr ⟨by decide, by rw [e9, List.reverse_reverse]; exact hst9, rfl, hgk⟩) hs1
        · exact hs.elim
      · rename_i heq
        cases heq
      · cases hrow
    · rename_i p9
      unfold rowD at hrow
      rw [Bool.and_eq_true] at hrow
      obtain ⟨hd0, hl⟩ := hrow
      obtain ⟨hd1, rfl⟩ := dec1_spec hd0
      obtain ⟨a, r, rfl, hs1⟩ := oneA_spec hs
      obtain ⟨g1, hs2⟩ := ob_spec hs1
      have g1 := Nat.le_of_ble_eq_true g1
      obtain ⟨hx, hb, hml, hown, htw, hpay, hF, hV, hA, hMC, hMS, hRf, hRl⟩ := K
      intro ad H locs L C e0 e1 hS
      refine W.objInit hx hb hown (htw _ _ hl) (wsg_before hpay obj_in.1 some_good.1) (wsg_before hpay obj_in.2 some_good.2.1) (a := ad a) (rest := r.map (cv ad)) rfl (by rw [hml]; exact C.1.1) rfl hd1 (by omega) (by
        have := lv_room (m := m) (pc := pc) (ls := L) (rest := (.inr (.inr (some a)) :: r : List AV).map (cv ad)) (st := r.map (cv ad)) (by rw [cv_sum]; exact g1)
        omega) ?_
      exact hk _ _ _ _ _ _ hs2 ad H locs L (C.stk (vok1 C.st).2) e0 e1 hS
    · exact hs.elim
  · -- new
    rename_i idx
    split at hs
    · rename_i ci p9
      obtain ⟨hq, hs1⟩ := ob_spec hs
      simp only [Bool.and_eq_true] at hq
      obtain ⟨q1, q2, q3, q4⟩ := hq
      have q1 := blt_spec q1
      have q2 := Nat.le_of_ble_eq_true q2
      have q4 := Nat.eq_of_beq_eq_true q4
      simp only [rowD, Bool.and_eq_true] at hrow
      obtain ⟨hd0, hci, hl⟩ := hrow
      obtain ⟨hd1, rfl⟩ := dec1_spec hd0
      have hci := blt_spec hci
      obtain ⟨hx, hb, hml, hown, htw, hpay, hF, hV, hA, hMC, hMS, hRf, hRl⟩ := K
      intro ad H locs L C e0 e1 hS
      have hU : ∀ w ∈ u_ws (cN ci).1 (cN ci).2.1 (cN ci).2.2, w.before ag s = true := by
        intro w hw
        have := List.all_eq_true.mp (u_in ci hci) w hw
        rw [Bool.and_eq_true] at this
        exact wsg_before hpay (of_decide_eq_true this.1) this.2
      have hlt : hN h < 63 := tGK_lt (by omega)
      refine va_new hx hb hU (fun _ q => q) (tTY ci) (tTY_ok hci) hown (htw _ _ hl) (wsg_before hpay (new_in ci hci).1 rfl) (wsg_before hpay (new_in ci hci).2 rfl) hV.1 C.2.1 C.2.2.1 hS hA (cN_ok hci) (fs0_dflt hci) (by omega) (by omega) hd1 (fun q H1 hP hD hS1 => ?_)
      obtain ⟨C1, em⟩ := C.new hlt (q := q) (x := .inr (ci, fs0 ci)) (ent_new q4 hci) hP hD C.st (fun z => by rw [z] at q3; cases q3)
      have g := hk _ _ _ _ _ _ hs1 _ H1 locs L C1 (e0.new hlt) (by rw [adN_far hlt (by omega)]; exact e1) hS1
      rw [em] at g
      exact g
    · exact ho hs
  · exact ho hs
end Ctx

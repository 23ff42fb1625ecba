/-! ===== the law's script: a cell asked for ===== -/
/-- such a call -/
def isCl (i : Instr) (tg : List Nat) : Bool := match i, tg with
  | .invokestatic _, [_, _, _] => true
  | _, _ => false
def rowS (own : Nat) (cc : ByteArray) (pc : Nat) (i : Instr) (nx : Nat) (tg : List Nat) : Bool := match i with
  | .invokestatic idx => dec1 cc pc i nx && (match tg with
    | [n, p, _] => Nat.beq n 334 && wd p (.methodLink (tNM own) idx (mY (tMR 334)))
    | _ => false)
  | _ => false
theorem dcl_0 : decode cL_cell 0 = .ok (.iload_n 1, 1) := by decide +kernel
theorem dcl_1 : decode cL_cell 1 = .ok (.aload_n 0, 1) := by decide +kernel
theorem dcl_2 : decode cL_cell 2 = .ok (.arraylength, 1) := by decide +kernel
theorem dcl_3 : decode cL_cell 3 = .ok (.if_icmp .ge 9, 3) := by decide +kernel
theorem dcl_6 : decode cL_cell 6 = .ok (.aload_n 0, 1) := by decide +kernel
theorem dcl_7 : decode cL_cell 7 = .ok (.iload_n 1, 1) := by decide +kernel
theorem dcl_8 : decode cL_cell 8 = .ok (.iaload, 1) := by decide +kernel
theorem dcl_9 : decode cL_cell 9 = .ok (.goto 9, 3) := by decide +kernel
theorem dcl_12 : decode cL_cell 12 = .ok (.ldc 7, 2) := by decide +kernel
theorem dcl_14 : decode cL_cell 14 = .ok (.iload_n 1, 1) := by decide +kernel
theorem dcl_15 : decode cL_cell 15 = .ok (.iconst 1, 1) := by decide +kernel
theorem dcl_16 : decode cL_cell 16 = .ok (.iadd, 1) := by decide +kernel
theorem dcl_17 : decode cL_cell 17 = .ok (.imul, 1) := by decide +kernel
theorem dcl_18 : decode cL_cell 18 = .ok (.ireturn, 1) := by decide +kernel
theorem dcl_w : (Jvm.Cond.constant RL 7 461845907) ∈ lw_tbl ∧ goodWord (Jvm.Cond.constant RL 7 461845907) = true := by decide +kernel
abbrev PCl (b : Nat) (k : Int) (n : Nat) (X : Nat → Int32) (sz : Nat) : Array Value → State → Prop := va_Pc [.ref b, .int (iw k)] (fun U => U.heap.size = sz ∧ va_X b n X U U.heap)
abbrev QCl : Array Value → State → Outcome → State → Prop := fun _ st oc t => (∃ x : Int32, oc = .returned (some (.int x))) ∧ t.heap = st.heap
theorem clWs : wsOf (tMR 334) = .code yL_cell cL_cell 2 (some .int) :: WSG := rfl
theorem PCl.blind {b : Nat} {k : Int} {n : Nat} {X : Nat → Int32} {sz : Nat} : FrameBlind (PCl b k n X sz) := by
  rintro a U g mk ⟨h1, h2, h3⟩
  exact ⟨h1, h2, h3.moved (Vm.Alike.refl U.vm)⟩
set_option maxHeartbeats 1000000 in
set_option maxRecDepth 100000 in
theorem m_cell (l : Launch) (b : Nat) (k : Int) (n : Int) (X : Nat → Int32) (sz : Nat) (hk : Rng k) (k0 : 0 ≤ k) (hn : 0 ≤ n ∧ Rng n) : Met l yL_cell (wsOf (tMR 334)) (rmOf (0, (0, 0))) (PCl b k n.toNat X sz) QCl 0 0 (fun q => sz ≤ q) := by
  refine Met.ofW (cc := cL_cell) (maxL := 2) (ret := (some .int)) (by decide) clWs ?_
  intro p e s m args below meth c s₁ B hml hv
  obtain ⟨rfl, hsz, hX⟩ := hv
  have hx := B.exec
  have hb := B.bytes
  have hr := B.returns
  have hts := atoms_spec (ws := wsOf (tMR 334)) B.pre
  have hown : s.vm.findClass RL = some m.cls := findClass_of_methodNamed B.named
  have hlocks := B.notSynchronized
  subst hsz
  have hbl : b < s.heap.size := by
    obtain ⟨scr, h1, -⟩ := hX
    exact (Array.getElem?_eq_some_iff.mp h1).1
  have hbA : ¬ (fun q => s.heap.size ≤ q) b := fun q => Nat.lt_irrefl _ (Nat.lt_of_lt_of_le hbl q)
  have hS : va_S (fun q => s.heap.size ≤ q) s.heap s.heap [] := va_S.rf
  have hl := lv_entry ([.ref b, .int (iw k)]) (n := 2) (Nat.le_of_ble_eq_true rfl)
  rw [lg_entry_eq]
  generalize (lg_sl ([.ref b, .int (iw k)]) ++ List.replicate (2 - (lg_sl ([.ref b, .int (iw k)])).length) Slot.unset).toArray = ls at hl ⊢
  refine lv_iload_n hx hb dcl_0 rfl (lv_at hl 1 rfl) ?_
  refine lv_aload_n hx hb dcl_1 rfl (lv_at hl 0 rfl) ?_
  refine va_slen hx hb hX hbl hbA hS dcl_2 ?_
  refine lv_icmp_ge hx hb dcl_3 (tgt := 12) (by decide) (fun g => ?_) (fun g => ?_)
  · refine lv_ldc hx hb hown (hts _ (List.mem_cons_of_mem _ (List.mem_filter.mpr dcl_w))) dcl_12 ?_
    refine lv_iload_n hx hb dcl_14 rfl (lv_at hl 1 rfl) ?_
    refine lv_iconst (v := 1) hx hb dcl_15 (by decide) ?_
    refine lv_iadd hx hb dcl_16 ?_
    refine lv_imul hx hb dcl_17 ?_
    exact W.iret (v := _) hx hb hr (fun t ht _ => ⟨⟨_, rfl⟩, ht⟩) hS.2.2 dcl_18
  · refine lv_aload_n hx hb dcl_6 rfl (lv_at hl 0 rfl) ?_
    refine lv_iload_n hx hb dcl_7 rfl (lv_at hl 1 rfl) ?_
    have hlt : k < n := by
      have e9 : Int32.ofNat n.toNat = iw n := by
        show Int32.ofNat n.toNat = Int32.ofInt n
        rw [← Int32.ofInt_eq_ofNat, show ((n.toNat : Nat) : Int) = n from by omega]
      rw [e9] at g
      exact (iw_lt hk hn.2).mp (Int32.not_le.mp g)
    refine va_sld hx hb hX hbl hbA hS (i := iw k) (iw_in hk ⟨k0, hlt⟩).1 dcl_8 ?_
    refine lv_goto hx hb dcl_9 (tgt := 18) (by decide) ?_
    exact W.iret (v := _) hx hb hr (fun t ht _ => ⟨⟨_, rfl⟩, ht⟩) hS.2.2 dcl_18
section Cl
variable {p : Program} {l : Launch} {e : Env} {R : Room} {s : State} {m : MethodId} {ag : Array Value} {below : List Frame} {meth : Method} {c : Code} {H : Heap} {locs : List Loc} {cells slots : Nat} {Q : State → Prop} {pc : Nat} {ls : Array Slot} {rest st0 : List Value}
theorem cl_go {sz : Nat} {a : Array Value} (hz : s.heap.size ≤ sz) (hr : va_Run p l e R s m ag below meth c H locs cells slots 0 0 (F0 m pc ls st0) rest (QCl a) (fun q => sz ≤ q)) (kk : ∀ x : Int32, W p l e R s m ag below meth c H locs cells slots Q (F0 m (pc + 3) ls (.int x :: rest))) : W p l e R s m ag below meth c H locs cells slots Q (F0 m pc ls st0) := by
  intro T hT X
  obtain ⟨v, st₀, t, T', L, h0, X', hL, e1, e2, ⟨⟨x, hv⟩, hh⟩, st⟩ := hr T hT X
  cases hv
  have X2 : Stand p l e R s m ag below meth c T' locs cells slots := ⟨X'.admits, X'.cas, X'.clock, X'.frames, X'.room, X'.hears, X'.method, X'.code, X'.here, X'.tail, X'.warmed, X'.limits, X'.bytes, X'.same.weaken (fun x hx hlt => by
    rcases List.mem_append.mp hx with h | h
    · exact h
    · exact absurd hlt (Nat.not_lt.mpr (Nat.le_trans hz (hL x h)))) (Nat.le_refl _) (Nat.le_refl _)⟩
  obtain ⟨t2, a1, b1⟩ := kk x T' (by rw [e1, hh, h0]) X2
  exact ⟨t2, st t2 a1, b1⟩
end Cl
section Ctx
variable {p : Program} {l : Launch} {e : Env} {R : Room} {s : State} {m : MethodId} {ag : Array Value} {below : List Frame} {meth : Method} {c : Code} {Q : State → Prop} {cc : ByteArray} {nL : Nat} {D : va_G} {ca : Nat → ClassId} {A : Nat → Prop} {b0 : B0} {lb sa sv : Nat} {fx : Bool}
theorem stpS_sound {own MC MS HT : Nat} (K : Kn p l R s m ag c cc nL D ca A lb sa sv own MC MS HT) {SL : Option Int} {SX : Int → Int} (hscr : ∀ n, SL = some n → 0 ≤ n ∧ Rng n ∧ (∀ j, Rng (SX j)) ∧ va_X b0.1 n.toNat (fun j => iw (SX j)) s s.heap ∧ b0.1 < s.heap.size ∧ ¬ A b0.1)
    (hmr : ∀ n, knows n = true → mrB n = true ∧ tb (nth (mI (tMR n)) 4 0) = some (codeW (tMR n))) {k : AK} (hk : ∀ pc1 ls1 st1 h1 u1 v1, k pc1 ls1 st1 h1 u1 v1 → AW p l e R s m ag below meth c Q nL D ca A b0 lb fx pc1 ls1 st1 h1 u1 v1)
    {pc : Nat} {i : Instr} {nx : Nat} {tg : List Nat} {ls : LSt} {st : List AV} {h : Hp} {u v : Nat} {other : Prop} (ho : isCl i tg = false → other → AW p l e R s m ag below meth c Q nL D ca A b0 lb fx pc ls st h u v)
    (hrow : isCl i tg = true → rowS own cc pc i nx tg = true) (hs : stpS MC MS HT SL k i nx tg ls st h u v other) : AW p l e R s m ag below meth c Q nL D ca A b0 lb fx pc ls st h u v := by
  unfold stpS at hs
  split at hs
  · rename_i idx
    split at hs
    · rename_i n9 p9 z9
      have hrow := hrow rfl
      unfold rowS at hrow
      dsimp only at hrow
      rw [Bool.and_eq_true, Bool.and_eq_true] at hrow
      obtain ⟨hd, hn, hw⟩ := hrow
      obtain ⟨hdd, rfl⟩ := dec1_spec hd
      split at hs
      · rename_i j a r
        obtain ⟨hb9, hs1⟩ := ob_spec hs
        clear hs
        simp only [Bool.and_eq_true] at hb9
        obtain ⟨ha, hc1, hc2, hc3, hc4⟩ := hb9
        have ha := Nat.eq_of_beq_eq_true ha
        have hc1 := Nat.le_of_ble_eq_true hc1
        have hc2 := Nat.le_of_ble_eq_true hc2
        have hc3 := Nat.le_of_ble_eq_true hc3
        have hc4 := blt_spec hc4
        subst ha
        split at hs1
        · rename_i n
          obtain ⟨j0, hs2⟩ := hs1
          intro ad H locs L C e0 e1 hS
          obtain ⟨hx, hb, hml, hown, htw, hpay, hF, hV, hA, hMC, hMS, hRf, hRl⟩ := K
          have hkn : knows 334 = true := by decide
          obtain ⟨w1, w2, w3, w4, w5, w6, w7, w8⟩ := mrB_spec (hmr 334 hkn)
          obtain ⟨z0, z1, z2, z3, z4, z5⟩ := hscr n rfl
          obtain ⟨hj, hva, h2⟩ := vok2 C.st
          have hj : Rng j := hj
          have hcat : 2 * (F0 m pc L ((Sum.inl j :: .inr (.inr (some 1000)) :: r).map (cv ad))).monitorRoom + ((r.map (cv ad)).map fun v => v.category).sum ≤ 8 := lv_room (by rw [cv_sum]; exact hc1)
          have hsig : ∀ sig, parseMethodDescriptor yL_cell.desc = some sig → 2 = sig.parameters.length := by
            intro sig hsg
            have w5 : (parseMethodDescriptor yL_cell.desc).map (fun d => d.parameters.length) = some 2 := w5
            rw [hsg] at w5
            exact (Option.some.inj w5).symm
          have hws : ∀ w ∈ wsOf (tMR 334), ∀ (a' : Array Value) (U : State), s.WarmedH U.vm → w.before a' U = true := by
            intro w hw a' U hW
            rcases List.mem_cons.mp hw with rfl | hw
            · exact word_at hW (good_of_word w2) (htw _ _ w1)
            · exact hpay w hw a' U hW
          have hcw : Cond.code yL_cell cL_cell 2 (some .int) ∈ wsOf (tMR 334) := by rw [clWs]; exact List.mem_cons_self
          have hcb : (Cond.code yL_cell cL_cell 2 (some .int)).before ag s = true := htw _ _ w1
          have hfix : CallFix p m c cc nL s ag [] (tNM own) := ⟨hx, hb, hml, hown, fun w hw => absurd hw List.not_mem_nil⟩
          have q2 : (Cond.static yL_cell).before ag s = true := by
            rcases w8 with ⟨q, -⟩ | ⟨-, q2⟩ | ⟨q, -⟩
            · exact absurd q (by decide)
            · exact htw _ _ q2
            · exact absurd q (by decide)
          have hb0 : H[b0.1]? = s.heap[b0.1]? := hS.2.1 _ z4 z5
          have hpS : PreS s H (PCl b0.1 j n.toNat (fun j => iw (SX j)) H.size) [.ref b0.1, .int (iw j)] := ⟨PCl.blind, fun U hU hW => ⟨rfl, by rw [hU], by
            rw [hU]
            exact (z3.kept hb0).moved hW.alike⟩⟩
          have hMt := m_cell l b0.1 j n (fun j => iw (SX j)) H.size hj j0 ⟨z0, z1⟩
          refine cl_go (sz := H.size) hS.1 (va_runS (As := [.ref b0.1, .int (iw j)]) (rest := r.map (cv ad)) hfix hMt ⟨⟨rfl, rfl, by show 10 + 0 + 1 ≤ _; omega, by show 8 + (2 + 11) + (300 + 64 * 0) ≤ _; omega, hws, hcw, hcb, htw _ _ w3, w4, hsig, htw _ _ hw⟩, q2⟩ hpS rfl rfl C.1.1 (by rw [List.map_cons, List.map_cons, show cv ad (.inr (.inr (some 1000))) = .ref b0.1 from by rw [← e0.1]; rfl]; rfl) hcat hdd ⟨by omega, by omega⟩) (fun x => ?_)
          have g := hk _ _ _ _ _ _ (hs2 x.toInt (rng_of x)) ad H locs L (C.stk (vokc (show Rng x.toInt from rng_of x) h2)) e0 e1 hS
          rw [List.map_cons, show cv ad (.inl x.toInt) = .int x from by show Value.int (iw x.toInt) = _; rw [iw_of]] at g
          exact g
        · exact hs1.elim
      · exact hs.elim
    · rename_i hne
      refine ho ?_ hs
      unfold isCl
      split
      · rename_i h9
        exact absurd rfl (hne _ _ _)
      · rfl
  · rename_i hne
    refine ho ?_ hs
    unfold isCl
    split
    · exact absurd rfl (hne _)
    · rfl
end Ctx

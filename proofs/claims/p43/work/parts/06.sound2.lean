/-! ===== the abstract machine is right: constants, locals, the stack, jumps, arithmetic ===== -/
/-- the script's address; the objects that were there at the start, and their addresses -/
abbrev B0 : Type := Nat × (Nat × (Nat → Nat))
def E0 (b : B0) (ad : Nat → Nat) (h : Hp) : Prop := ad 1000 = b.1 ∧ (∀ a, a < b.2.1 → ad a = b.2.2 a) ∧ b.2.1 ≤ hN h
section Ctx
variable {p : Program} {l : Launch} {e : Env} {R : Room} {s : State} {m : MethodId} {ag : Array Value} {below : List Frame} {meth : Method} {c : Code} {Q : State → Prop} {cc : ByteArray} {nL : Nat} {D : va_G} {ca : Nat → ClassId} {A : Nat → Prop} {b0 : B0} {lb : Nat} {fx : Bool}
/-- what is wanted at a place: from every state of that picture all goes well -/
def AW (p : Program) (l : Launch) (e : Env) (R : Room) (s : State) (m : MethodId) (ag : Array Value) (below : List Frame) (meth : Method) (c : Code) (Q : State → Prop) (nL : Nat) (D : va_G) (ca : Nat → ClassId) (A : Nat → Prop) (b0 : B0) (lb : Nat) (fx : Bool) (pc : Nat) (ls : LSt) (st : List AV) (h : Hp) (u v : Nat) : Prop :=
  ∀ (ad : Nat → Nat) (H : Heap) (locs : List Loc) (L : Array Slot), Cn D ca A ad fx nL ls st h H L → E0 b0 ad h → ad 1001 = lb → va_S A s.heap H locs → W p l e R s m ag below meth c H locs u v Q (F0 m pc L (st.map (cv ad)))
theorem Cn.stk {ad : Nat → Nat} {ls : LSt} {st st' : List AV} {h : Hp} {H : Heap} {L : Array Slot} (C : Cn D ca A ad fx nL ls st h H L) (hv : ∀ v ∈ st', vok (hN h) v) : Cn D ca A ad fx nL ls st' h H L :=
  ⟨C.1, C.2.1, C.2.2.1, C.2.2.2.1, hv, C.2.2.2.2.2⟩
theorem Cn.st {ad : Nat → Nat} {ls : LSt} {st : List AV} {h : Hp} {H : Heap} {L : Array Slot} (C : Cn D ca A ad fx nL ls st h H L) : ∀ v ∈ st, vok (hN h) v := C.2.2.2.2.1
theorem Cn.set1 {ad : Nat → Nat} {ls : LSt} {st st' : List AV} {h : Hp} {H : Heap} {L L' : Array Slot} {i : Nat} {v : AV} (C : Cn D ca A ad fx nL ls st h H L) (hl : lv_has L' nL ((i, cv ad v) :: (lp ad ls).filter (fun q => !(q.1 == i) && !(q.1 + 1 == i && q.2.category == 2)))) (hv : vok (hN h) v) (hs : ∀ v ∈ st', vok (hN h) v) : Cn D ca A ad fx nL (lset1 ls i v) st' h H L' :=
  ⟨lp_set1 hl, C.2.1, C.2.2.1, lok_set1 C.2.2.2.1 hv, hs, C.2.2.2.2.2⟩
theorem Cn.set2 {ad : Nat → Nat} {ls : LSt} {st st' : List AV} {h : Hp} {H : Heap} {L L' : Array Slot} {i : Nat} {v : AV} (C : Cn D ca A ad fx nL ls st h H L) (hl : lv_has L' nL ((i, cv ad v) :: (lp ad ls).filter (fun q => !(q.1 == i) && (!(q.1 == i + 1) && !(q.1 + 1 == i && q.2.category == 2))))) (hv : vok (hN h) v) (hs : ∀ v ∈ st', vok (hN h) v) : Cn D ca A ad fx nL (lset2 ls i v) st' h H L' :=
  ⟨lp_set2 hl, C.2.1, C.2.2.1, lok_set2 C.2.2.2.1 hv, hs, C.2.2.2.2.2⟩
theorem Cn.at {ad : Nat → Nat} {ls : LSt} {st : List AV} {h : Hp} {H : Heap} {L : Array Slot} (C : Cn D ca A ad fx nL ls st h H L) {n : Nat} {v : AV} (hm : lget ls n = some v) : L[n]? = some (.val (cv ad v)) ∧ vok (hN h) v :=
  ⟨C.1.2.2 (n, cv ad v) (lp_mem.mpr ⟨v, hm, rfl⟩), C.2.2.2.1 _ _ hm⟩
theorem vok2 {N : Nat} {a b : AV} {r : List AV} (h : ∀ v ∈ a :: b :: r, vok N v) : vok N a ∧ vok N b ∧ ∀ v ∈ r, vok N v :=
  ⟨h _ List.mem_cons_self, h _ (List.mem_cons_of_mem _ List.mem_cons_self), fun v hv => h v (List.mem_cons_of_mem _ (List.mem_cons_of_mem _ hv))⟩
theorem vok1 {N : Nat} {a : AV} {r : List AV} (h : ∀ v ∈ a :: r, vok N v) : vok N a ∧ ∀ v ∈ r, vok N v := ⟨h _ List.mem_cons_self, fun v hv => h v (List.mem_cons_of_mem _ hv)⟩
theorem vokc {N : Nat} {a : AV} {r : List AV} (h1 : vok N a) (h : ∀ v ∈ r, vok N v) : ∀ v ∈ a :: r, vok N v := by
  intro v hv
  rcases List.mem_cons.mp hv with rfl | hv
  · exact h1
  · exact h v hv
theorem tab_of {pc : Nat} {lo hi d : Int} {offs : Array Int} {ts : List Nat} {t : Nat} {x : Int} (hx : Rng x) (h1 : (pc : Int) + d = (t : Int)) (h2 : swOK pc offs.toList ts = true) (h3 : hi - lo + 1 = (offs.size : Int)) : (x < lo ∨ hi < x) ∨ (¬ (x < lo) ∧ ¬ (hi < x) ∧ ∃ o t', offs[(x - lo).toNat]? = some o ∧ ts[(x - lo).toNat]? = some t' ∧ (pc : Int) + o = (t' : Int)) := by
  by_cases h : x < lo ∨ hi < x
  · exact Or.inl h
  · refine Or.inr ⟨by omega, by omega, ?_⟩
    have hn : (x - lo).toNat < offs.size := by omega
    obtain ⟨-, h4⟩ := swOK_spec h2
    have h5 : offs.toList[(x - lo).toNat]? = some offs[(x - lo).toNat] := by rw [Array.getElem?_toList]; exact Array.getElem?_eq_getElem hn
    obtain ⟨t', h6, h7⟩ := h4 _ _ h5
    exact ⟨_, t', Array.getElem?_eq_getElem hn, h6, h7⟩
theorem stpA_sound (hx : p.tables.exec = Jvm.exec) (hb : c.code = cc) {own : Nat} (hown : s.vm.findClass (tNM own) = some m.cls) (htw : ∀ i w, wd i w = true → w.before ag s = true) {k : AK} (hk : ∀ pc1 ls1 st1 h1 u1 v1, k pc1 ls1 st1 h1 u1 v1 → AW p l e R s m ag below meth c Q nL D ca A b0 lb fx pc1 ls1 st1 h1 u1 v1)
    {pc : Nat} {i : Instr} {nx : Nat} {ax : Int} {tg : List Nat} {ls : LSt} {st : List AV} {h : Hp} {u v : Nat} {other : Prop} (ho : other → AW p l e R s m ag below meth c Q nL D ca A b0 lb fx pc ls st h u v)
    (hrow : rowA own nL cc pc i nx ax tg = true) (hs : stpA k i nx ax tg ls st h u v other) : AW p l e R s m ag below meth c Q nL D ca A b0 lb fx pc ls st h u v := by
  unfold stpA at hs
  split at hs
  · simp only [rowA, il, Bool.and_eq_true, decide_eq_true_eq] at hrow
    obtain ⟨hrow, hrg⟩ := hrow
    obtain ⟨hd, rfl⟩ := dec1_spec hrow
    intro ad H locs L C e0 e1 hS
    refine lv_iconst hx hb hd rfl ?_
    exact hk _ _ _ _ _ _ hs ad H locs L (C.stk (vokc (show Rng _ from ⟨by omega, by omega⟩) C.st)) e0 e1 hS
  · simp only [rowA, il, Bool.and_eq_true, decide_eq_true_eq] at hrow
    obtain ⟨hrow, hrg⟩ := hrow
    obtain ⟨hd, rfl⟩ := dec1_spec hrow
    intro ad H locs L C e0 e1 hS
    refine lv_bipush hx hb hd (iw_b8 hrg).1 ?_
    exact hk _ _ _ _ _ _ hs ad H locs L (C.stk (vokc (iw_b8 hrg).2 C.st)) e0 e1 hS
  · simp only [rowA, il, Bool.and_eq_true, decide_eq_true_eq] at hrow
    obtain ⟨hrow, hrg⟩ := hrow
    obtain ⟨hd, rfl⟩ := dec1_spec hrow
    intro ad H locs L C e0 e1 hS
    refine lv_sipush hx hb hd (iw_s16 hrg).1 ?_
    exact hk _ _ _ _ _ _ hs ad H locs L (C.stk (vokc (iw_s16 hrg).2 C.st)) e0 e1 hS
  · simp only [rowA, il] at hrow
    obtain ⟨hd, rfl⟩ := dec1_spec hrow
    rename_i n
    cases hb9 : Nat.beq n 0 with
    | true =>
      rw [hb9] at hs
      have e9 : (n : Nat) = 0 := Nat.eq_of_beq_eq_true hb9
      intro ad H locs L C e0 e1 hS
      refine lv_lconst (v := 0) hx hb hd (by rw [e9]; rfl) ?_
      exact hk _ _ _ _ _ _ hs ad H locs L (C.stk (vokc trivial C.st)) e0 e1 hS
    | false =>
      rw [hb9] at hs
      have e9 : (n : Nat) = 1 := by
        have : (n : Nat) ≠ 0 := fun e9 => by rw [e9] at hb9; cases hb9
        have := n.isLt
        omega
      intro ad H locs L C e0 e1 hS
      refine lv_lconst (v := 1) hx hb hd (by rw [e9]; rfl) ?_
      exact hk _ _ _ _ _ _ hs ad H locs L (C.stk (vokc trivial C.st)) e0 e1 hS
  · simp only [rowA, il, Bool.and_eq_true, decide_eq_true_eq] at hrow
    obtain ⟨hrow, hw, hrg⟩ := hrow
    obtain ⟨hd, rfl⟩ := dec1_spec hrow
    intro ad H locs L C e0 e1 hS
    refine lv_ldc hx hb hown (htw _ _ hw) hd ?_
    exact hk _ _ _ _ _ _ hs ad H locs L (C.stk (vokc hrg C.st)) e0 e1 hS
  · simp only [rowA, il, Bool.and_eq_true, decide_eq_true_eq] at hrow
    obtain ⟨hrow, hw, hrg⟩ := hrow
    obtain ⟨hd, rfl⟩ := dec1_spec hrow
    intro ad H locs L C e0 e1 hS
    refine lv_ldcw hx hb hown (htw _ _ hw) hd ?_
    exact hk _ _ _ _ _ _ hs ad H locs L (C.stk (vokc hrg C.st)) e0 e1 hS
  · simp only [rowA, il, Bool.and_eq_true, decide_eq_true_eq] at hrow
    obtain ⟨hrow, hw⟩ := hrow
    obtain ⟨hd, rfl⟩ := dec1_spec hrow
    intro ad H locs L C e0 e1 hS
    refine lv_ldc2 hx hb hown (htw _ _ hw) hd ?_
    exact hk _ _ _ _ _ _ hs ad H locs L (C.stk (vokc trivial C.st)) e0 e1 hS
  · simp only [rowA, il] at hrow
    obtain ⟨hd, rfl⟩ := dec1_spec hrow
    obtain ⟨x, hm, hs⟩ := ldI_spec hs
    intro ad H locs L C e0 e1 hS
    obtain ⟨h1, h2⟩ := C.at hm
    refine lv_iload_n hx hb hd rfl h1 ?_
    exact hk _ _ _ _ _ _ hs ad H locs L (C.stk (vokc h2 C.st)) e0 e1 hS
  · simp only [rowA, il] at hrow
    obtain ⟨hd, rfl⟩ := dec1_spec hrow
    obtain ⟨x, hm, hs⟩ := ldI_spec hs
    intro ad H locs L C e0 e1 hS
    obtain ⟨h1, h2⟩ := C.at hm
    refine lv_iload hx hb hd h1 ?_
    exact hk _ _ _ _ _ _ hs ad H locs L (C.stk (vokc h2 C.st)) e0 e1 hS
  · simp only [rowA, il] at hrow
    obtain ⟨hd, rfl⟩ := dec1_spec hrow
    obtain ⟨x, hm, hs⟩ := ldL_spec hs
    intro ad H locs L C e0 e1 hS
    obtain ⟨h1, h2⟩ := C.at hm
    refine lv_lload_n hx hb hd rfl h1 ?_
    exact hk _ _ _ _ _ _ hs ad H locs L (C.stk (vokc h2 C.st)) e0 e1 hS
  · simp only [rowA, il] at hrow
    obtain ⟨hd, rfl⟩ := dec1_spec hrow
    obtain ⟨x, hm, hs⟩ := ldL_spec hs
    intro ad H locs L C e0 e1 hS
    obtain ⟨h1, h2⟩ := C.at hm
    refine lv_lload hx hb hd h1 ?_
    exact hk _ _ _ _ _ _ hs ad H locs L (C.stk (vokc h2 C.st)) e0 e1 hS
  · simp only [rowA, il] at hrow
    obtain ⟨hd, rfl⟩ := dec1_spec hrow
    obtain ⟨x, hm, hs⟩ := ldA_spec hs
    intro ad H locs L C e0 e1 hS
    obtain ⟨h1, h2⟩ := C.at hm
    rcases x with _ | x
    · refine lv_aload_nN hx hb hd rfl h1 ?_
      exact hk _ _ _ _ _ _ hs ad H locs L (C.stk (vokc h2 C.st)) e0 e1 hS
    · refine lv_aload_n hx hb hd rfl h1 ?_
      exact hk _ _ _ _ _ _ hs ad H locs L (C.stk (vokc h2 C.st)) e0 e1 hS
  · simp only [rowA, il] at hrow
    obtain ⟨hd, rfl⟩ := dec1_spec hrow
    obtain ⟨x, hm, hs⟩ := ldA_spec hs
    intro ad H locs L C e0 e1 hS
    obtain ⟨h1, h2⟩ := C.at hm
    rcases x with _ | x
    · refine lv_aloadN hx hb hd h1 ?_
      exact hk _ _ _ _ _ _ hs ad H locs L (C.stk (vokc h2 C.st)) e0 e1 hS
    · refine lv_aload hx hb hd h1 ?_
      exact hk _ _ _ _ _ _ hs ad H locs L (C.stk (vokc h2 C.st)) e0 e1 hS
  · simp only [rowA, il, Bool.and_eq_true, decide_eq_true_eq] at hrow
    obtain ⟨hrow, hlt⟩ := hrow
    obtain ⟨hd, rfl⟩ := dec1_spec hrow
    obtain ⟨x, r, rfl, hs⟩ := oneI_spec hs
    intro ad H locs L C e0 e1 hS
    obtain ⟨h1, h2⟩ := vok1 C.st
    refine lv_istore_n hx hb hd rfl C.1 (blt_spec hlt) rfl (fun L' hl => ?_)
    exact hk _ _ _ _ _ _ hs ad H locs L' (C.set1 hl h1 h2) e0 e1 hS
  · simp only [rowA, il, Bool.and_eq_true, decide_eq_true_eq] at hrow
    obtain ⟨hrow, hlt⟩ := hrow
    obtain ⟨hd, rfl⟩ := dec1_spec hrow
    obtain ⟨x, r, rfl, hs⟩ := oneI_spec hs
    intro ad H locs L C e0 e1 hS
    obtain ⟨h1, h2⟩ := vok1 C.st
    refine lv_istore hx hb hd C.1 (blt_spec hlt) rfl (fun L' hl => ?_)
    exact hk _ _ _ _ _ _ hs ad H locs L' (C.set1 hl h1 h2) e0 e1 hS
  · simp only [rowA, il, Bool.and_eq_true, decide_eq_true_eq] at hrow
    obtain ⟨hrow, hlt⟩ := hrow
    obtain ⟨hd, rfl⟩ := dec1_spec hrow
    obtain ⟨x, r, rfl, hs⟩ := oneL_spec hs
    intro ad H locs L C e0 e1 hS
    obtain ⟨h1, h2⟩ := vok1 C.st
    refine lv_lstore_n hx hb hd rfl C.1 (blt_spec hlt) rfl (fun L' hl => ?_)
    exact hk _ _ _ _ _ _ hs ad H locs L' (C.set2 hl h1 h2) e0 e1 hS
  · simp only [rowA, il, Bool.and_eq_true, decide_eq_true_eq] at hrow
    obtain ⟨hrow, hlt⟩ := hrow
    obtain ⟨hd, rfl⟩ := dec1_spec hrow
    obtain ⟨x, r, rfl, hs⟩ := oneL_spec hs
    intro ad H locs L C e0 e1 hS
    obtain ⟨h1, h2⟩ := vok1 C.st
    refine lv_lstore hx hb hd C.1 (blt_spec hlt) rfl (fun L' hl => ?_)
    exact hk _ _ _ _ _ _ hs ad H locs L' (C.set2 hl h1 h2) e0 e1 hS
  · simp only [rowA, il, Bool.and_eq_true, decide_eq_true_eq] at hrow
    obtain ⟨hrow, hlt⟩ := hrow
    obtain ⟨hd, rfl⟩ := dec1_spec hrow
    obtain ⟨x, r, rfl, hs⟩ := oneR_spec hs
    intro ad H locs L C e0 e1 hS
    obtain ⟨h1, h2⟩ := vok1 C.st
    rcases x with _ | x
    · refine lv_astore_nN hx hb hd rfl C.1 (blt_spec hlt) rfl (fun L' hl => ?_)
      exact hk _ _ _ _ _ _ hs ad H locs L' (C.set1 hl h1 h2) e0 e1 hS
    · refine lv_astore_n hx hb hd rfl C.1 (blt_spec hlt) rfl (fun L' hl => ?_)
      exact hk _ _ _ _ _ _ hs ad H locs L' (C.set1 hl h1 h2) e0 e1 hS
  · simp only [rowA, il, Bool.and_eq_true, decide_eq_true_eq] at hrow
    obtain ⟨hrow, hlt⟩ := hrow
    obtain ⟨hd, rfl⟩ := dec1_spec hrow
    obtain ⟨x, r, rfl, hs⟩ := oneR_spec hs
    intro ad H locs L C e0 e1 hS
    obtain ⟨h1, h2⟩ := vok1 C.st
    rcases x with _ | x
    · refine lv_astoreN hx hb hd C.1 (blt_spec hlt) rfl (fun L' hl => ?_)
      exact hk _ _ _ _ _ _ hs ad H locs L' (C.set1 hl h1 h2) e0 e1 hS
    · refine lv_astore hx hb hd C.1 (blt_spec hlt) rfl (fun L' hl => ?_)
      exact hk _ _ _ _ _ _ hs ad H locs L' (C.set1 hl h1 h2) e0 e1 hS
  · simp only [rowA, il, Bool.and_eq_true, decide_eq_true_eq] at hrow
    obtain ⟨hrow, hlt⟩ := hrow
    obtain ⟨hd, rfl⟩ := dec1_spec hrow
    split at hs
    · rename_i x hm
      intro ad H locs L C e0 e1 hS
      obtain ⟨k9, hk9⟩ := List.getElem?_of_mem (lp_mem (ad := ad).mpr ⟨_, hm, rfl⟩)
      refine lv_iinc hx hb hd C.1 hk9 rfl (blt_spec hlt) rfl (fun L' hl => ?_)
      rw [← iw_add] at hl
      exact hk _ _ _ _ _ _ hs.2 ad H locs L' (C.set1 (v := .inl _) hl hs.1 C.st) e0 e1 hS
    · exact hs.elim
  · simp only [rowA, il] at hrow
    obtain ⟨hd, rfl⟩ := dec1_spec hrow
    split at hs
    · obtain ⟨h9, hs⟩ := ob_spec hs
      intro ad H locs L C e0 e1 hS
      refine lv_dup hx hb hd (cv_cat1 ad _ h9) ?_
      exact hk _ _ _ _ _ _ hs ad H locs L (C.stk (vokc (vok1 C.st).1 C.st)) e0 e1 hS
    · exact hs.elim
  · simp only [rowA, il] at hrow
    obtain ⟨hd, rfl⟩ := dec1_spec hrow
    split at hs
    · obtain ⟨h9, hs⟩ := ob_spec hs
      intro ad H locs L C e0 e1 hS
      refine lv_dup2_11 hx hb hd (cv_cat1 ad _ rfl) (cv_cat1 ad _ h9) ?_
      exact hk _ _ _ _ _ _ hs ad H locs L (C.stk (vokc (vok2 C.st).1 (vokc (vok2 C.st).2.1 C.st))) e0 e1 hS
    · exact hs.elim
  · simp only [rowA, il] at hrow
    obtain ⟨hd, rfl⟩ := dec1_spec hrow
    split at hs
    · obtain ⟨h9, hs⟩ := ob_spec hs
      intro ad H locs L C e0 e1 hS
      refine lv_pop hx hb hd (cv_cat1 ad _ h9) ?_
      exact hk _ _ _ _ _ _ hs ad H locs L (C.stk (vok1 C.st).2) e0 e1 hS
    · exact hs.elim
  · simp only [rowA, il, Bool.and_eq_true, decide_eq_true_eq] at hrow
    obtain ⟨hrow, ht⟩ := hrow
    obtain ⟨hd, rfl⟩ := dec1_spec hrow
    intro ad H locs L C e0 e1 hS
    refine lv_goto hx hb hd ht ?_
    exact hk _ _ _ _ _ _ hs ad H locs L (C.stk C.st) e0 e1 hS
  · simp only [rowA, il, Bool.and_eq_true, decide_eq_true_eq] at hrow
    obtain ⟨hrow, ht⟩ := hrow
    obtain ⟨hd, rfl⟩ := dec1_spec hrow
    obtain ⟨x, r, rfl, hs⟩ := oneI_spec hs
    intro ad H locs L C e0 e1 hS
    obtain ⟨hxx, h2⟩ := vok1 C.st
    have hy : Rng 0 := rng0
    have hxx : Rng x := hxx
    have hy : Rng 0 := hy
    have kt : ∀ pc1, k pc1 ls r h u v → W p l e R s m ag below meth c H locs u v Q (F0 m pc1 L (r.map (cv ad))) := fun pc1 g => hk _ _ _ _ _ _ g ad H locs L (C.stk h2) e0 e1 hS
    unfold br at hs
    split at hs
    · exact lv_if_eq hx hb hd ht (fun g => kt _ (hs.1 ((iw_inj hxx hy).mp g))) (fun g => kt _ (hs.2 (fun z => g ((iw_inj hxx hy).mpr z))))
    · exact lv_if_ne hx hb hd ht (fun g => kt _ (hs.1 (fun z => g ((iw_inj hxx hy).mpr z)))) (fun g => kt _ (hs.2 ((iw_inj hxx hy).mp g)))
    · exact lv_if_lt hx hb hd ht (fun g => kt _ (hs.1 ((iw_lt hxx hy).mp g))) (fun g => kt _ (hs.2 (Int.not_lt.mp (fun z => g ((iw_lt hxx hy).mpr z)))))
    · exact lv_if_ge hx hb hd ht (fun g => kt _ (hs.1 ((iw_le hy hxx).mp g))) (fun g => kt _ (hs.2 (Int.not_le.mp (fun z => g ((iw_le hy hxx).mpr z)))))
    · exact lv_if_gt hx hb hd ht (fun g => kt _ (hs.1 ((iw_lt hy hxx).mp g))) (fun g => kt _ (hs.2 (Int.not_lt.mp (fun z => g ((iw_lt hy hxx).mpr z)))))
    · exact lv_if_le hx hb hd ht (fun g => kt _ (hs.1 ((iw_le hxx hy).mp g))) (fun g => kt _ (hs.2 (Int.not_le.mp (fun z => g ((iw_le hxx hy).mpr z)))))
  · simp only [rowA, il, Bool.and_eq_true, decide_eq_true_eq] at hrow
    obtain ⟨hrow, ht⟩ := hrow
    obtain ⟨hd, rfl⟩ := dec1_spec hrow
    obtain ⟨x, y, r, rfl, hs⟩ := two_spec hs
    intro ad H locs L C e0 e1 hS
    obtain ⟨hy, hxx, h2⟩ := vok2 C.st
    have hxx : Rng x := hxx
    have hy : Rng y := hy
    have kt : ∀ pc1, k pc1 ls r h u v → W p l e R s m ag below meth c H locs u v Q (F0 m pc1 L (r.map (cv ad))) := fun pc1 g => hk _ _ _ _ _ _ g ad H locs L (C.stk h2) e0 e1 hS
    unfold br at hs
    split at hs
    · exact lv_icmp_eq hx hb hd ht (fun g => kt _ (hs.1 ((iw_inj hxx hy).mp g))) (fun g => kt _ (hs.2 (fun z => g ((iw_inj hxx hy).mpr z))))
    · exact lv_icmp_ne hx hb hd ht (fun g => kt _ (hs.1 (fun z => g ((iw_inj hxx hy).mpr z)))) (fun g => kt _ (hs.2 ((iw_inj hxx hy).mp g)))
    · exact lv_icmp_lt hx hb hd ht (fun g => kt _ (hs.1 ((iw_lt hxx hy).mp g))) (fun g => kt _ (hs.2 (Int.not_lt.mp (fun z => g ((iw_lt hxx hy).mpr z)))))
    · exact lv_icmp_ge hx hb hd ht (fun g => kt _ (hs.1 ((iw_le hy hxx).mp g))) (fun g => kt _ (hs.2 (Int.not_le.mp (fun z => g ((iw_le hy hxx).mpr z)))))
    · exact lv_icmp_gt hx hb hd ht (fun g => kt _ (hs.1 ((iw_lt hy hxx).mp g))) (fun g => kt _ (hs.2 (Int.not_lt.mp (fun z => g ((iw_lt hy hxx).mpr z)))))
    · exact lv_icmp_le hx hb hd ht (fun g => kt _ (hs.1 ((iw_le hxx hy).mp g))) (fun g => kt _ (hs.2 (Int.not_le.mp (fun z => g ((iw_le hxx hy).mpr z)))))
  · simp only [rowA, il, Bool.and_eq_true, decide_eq_true_eq] at hrow
    obtain ⟨hrow, ht⟩ := hrow
    obtain ⟨hd, rfl⟩ := dec1_spec hrow
    split at hs
    · rename_i w r
      intro ad H locs L C e0 e1 hS
      cases w with
      | none =>
        refine lv_ifnonnullN hx hb hd ?_
        exact hk _ _ _ _ _ _ (hs.2 rfl) ad H locs L (C.stk (vok1 C.st).2) e0 e1 hS
      | some a =>
        refine lv_ifnonnull hx hb hd ht ?_
        exact hk _ _ _ _ _ _ (hs.1 (by simp)) ad H locs L (C.stk (vok1 C.st).2) e0 e1 hS
    · exact hs.elim
  · obtain ⟨x, r, rfl, hs⟩ := oneI_spec hs
    split at hs
    · rename_i t ts
      simp only [rowA, Bool.and_eq_true, decide_eq_true_eq] at hrow
      obtain ⟨hd, h1, h2, h3⟩ := hrow
      intro ad H locs L C e0 e1 hS
      obtain ⟨hxx, h4⟩ := vok1 C.st
      have hxx : Rng x := hxx
      have e9 := iw_toInt hxx
      rcases tab_of hxx h1 h2 h3 with g | ⟨g1, g2, o, t', g3, g4, g5⟩
      · refine lv_tableOut hx hb hd (by rw [e9]; exact g) h1 ?_
        exact hk _ _ _ _ _ _ (hs.1 g) ad H locs L (C.stk h4) e0 e1 hS
      · refine lv_tableIn hx hb hd (by rw [e9]; exact g1) (by rw [e9]; exact g2) (by rw [e9]; exact g3) g5 ?_
        exact hk _ _ _ _ _ _ (swt_spec hs.2 g4 (by omega)) ad H locs L (C.stk h4) e0 e1 hS
    · exact hs.elim
  · exact ho hs
theorem stpB_sound (hx : p.tables.exec = Jvm.exec) (hb : c.code = cc) {own : Nat} (hown : s.vm.findClass (tNM own) = some m.cls) (htw : ∀ i w, wd i w = true → w.before ag s = true) {k : AK} (hk : ∀ pc1 ls1 st1 h1 u1 v1, k pc1 ls1 st1 h1 u1 v1 → AW p l e R s m ag below meth c Q nL D ca A b0 lb fx pc1 ls1 st1 h1 u1 v1)
    {pc : Nat} {i : Instr} {nx : Nat} {ax : Int} {tg : List Nat} {ls : LSt} {st : List AV} {h : Hp} {u v : Nat} {other : Prop} (ho : other → AW p l e R s m ag below meth c Q nL D ca A b0 lb fx pc ls st h u v)
    (hrow : rowA own nL cc pc i nx ax tg = true) (hs : stpB k i nx ls st h u v other) : AW p l e R s m ag below meth c Q nL D ca A b0 lb fx pc ls st h u v := by
  unfold stpB at hs
  split at hs
  · simp only [rowA, il] at hrow
    obtain ⟨hd, rfl⟩ := dec1_spec hrow
    obtain ⟨x, y, r, rfl, hs⟩ := two_spec hs
    intro ad H locs L C e0 e1 hS
    obtain ⟨hy, hxx, h2⟩ := vok2 C.st
    have hy : Rng y := hy
    have hxx : Rng x := hxx
    refine lv_iadd hx hb hd ?_
    rw [← iw_add]
    exact hk _ _ _ _ _ _ hs.2 ad H locs L (C.stk (vokc (hs.1) h2)) e0 e1 hS
  · simp only [rowA, il] at hrow
    obtain ⟨hd, rfl⟩ := dec1_spec hrow
    obtain ⟨x, y, r, rfl, hs⟩ := two_spec hs
    intro ad H locs L C e0 e1 hS
    obtain ⟨hy, hxx, h2⟩ := vok2 C.st
    have hy : Rng y := hy
    have hxx : Rng x := hxx
    refine lv_isub hx hb hd ?_
    rw [← iw_sub]
    exact hk _ _ _ _ _ _ hs.2 ad H locs L (C.stk (vokc (hs.1) h2)) e0 e1 hS
  · simp only [rowA, il] at hrow
    obtain ⟨hd, rfl⟩ := dec1_spec hrow
    obtain ⟨x, y, r, rfl, hs⟩ := two_spec hs
    intro ad H locs L C e0 e1 hS
    obtain ⟨hy, hxx, h2⟩ := vok2 C.st
    have hy : Rng y := hy
    have hxx : Rng x := hxx
    refine lv_imul hx hb hd ?_
    rw [← iw_mul]
    exact hk _ _ _ _ _ _ hs.2 ad H locs L (C.stk (vokc (hs.1) h2)) e0 e1 hS
  · simp only [rowA, il] at hrow
    obtain ⟨hd, rfl⟩ := dec1_spec hrow
    obtain ⟨x, y, r, rfl, hs⟩ := two_spec hs
    intro ad H locs L C e0 e1 hS
    obtain ⟨hy, hxx, h2⟩ := vok2 C.st
    have hy : Rng y := hy
    have hxx : Rng x := hxx
    obtain ⟨p1, p2⟩ := hs.1
    refine lv_idiv hx hb hd (fun z => absurd ((iw_inj hy rng0).mp z) (by omega)) ?_
    rw [← iw_div hxx hs.1.1 hy hs.1.2]
    exact hk _ _ _ _ _ _ hs.2 ad H locs L (C.stk (vokc (show Rng _ from rng_div hxx hs.1.1 hs.1.2) h2)) e0 e1 hS
  · simp only [rowA, il] at hrow
    obtain ⟨hd, rfl⟩ := dec1_spec hrow
    obtain ⟨x, y, r, rfl, hs⟩ := two_spec hs
    intro ad H locs L C e0 e1 hS
    obtain ⟨hy, hxx, h2⟩ := vok2 C.st
    have hy : Rng y := hy
    have hxx : Rng x := hxx
    obtain ⟨p1, p2⟩ := hs.1
    refine lv_irem hx hb hd (fun z => absurd ((iw_inj hy rng0).mp z) (by omega)) ?_
    rw [← iw_mod hxx hs.1.1 hy hs.1.2]
    exact hk _ _ _ _ _ _ hs.2 ad H locs L (C.stk (vokc (show Rng _ from rng_mod hy hs.1.2) h2)) e0 e1 hS
  · simp only [rowA, il] at hrow
    obtain ⟨hd, rfl⟩ := dec1_spec hrow
    obtain ⟨x, y, r, rfl, hs⟩ := two_spec hs
    intro ad H locs L C e0 e1 hS
    obtain ⟨hy, hxx, h2⟩ := vok2 C.st
    refine lv_iand hx hb hd ?_
    have g := hk _ _ _ _ _ _ hs ad H locs L (C.stk (vokc (show Rng _ from rng_of _) h2)) e0 e1 hS
    rw [List.map_cons, show cv ad (.inl (bAnd x y)) = .int _ from congrArg Value.int (iw_of _)] at g
    exact g
  · simp only [rowA, il] at hrow
    obtain ⟨hd, rfl⟩ := dec1_spec hrow
    obtain ⟨x, y, r, rfl, hs⟩ := two_spec hs
    intro ad H locs L C e0 e1 hS
    obtain ⟨hy, hxx, h2⟩ := vok2 C.st
    refine lv_ior hx hb hd ?_
    have g := hk _ _ _ _ _ _ hs ad H locs L (C.stk (vokc (show Rng _ from rng_of _) h2)) e0 e1 hS
    rw [List.map_cons, show cv ad (.inl (bOr x y)) = .int _ from congrArg Value.int (iw_of _)] at g
    exact g
  · simp only [rowA, il] at hrow
    obtain ⟨hd, rfl⟩ := dec1_spec hrow
    obtain ⟨x, y, r, rfl, hs⟩ := two_spec hs
    intro ad H locs L C e0 e1 hS
    obtain ⟨hy, hxx, h2⟩ := vok2 C.st
    refine lv_ixor hx hb hd ?_
    have g := hk _ _ _ _ _ _ hs ad H locs L (C.stk (vokc (show Rng _ from rng_of _) h2)) e0 e1 hS
    rw [List.map_cons, show cv ad (.inl (bXor x y)) = .int _ from congrArg Value.int (iw_of _)] at g
    exact g
  · simp only [rowA, il] at hrow
    obtain ⟨hd, rfl⟩ := dec1_spec hrow
    obtain ⟨x, y, r, rfl, hs⟩ := two_spec hs
    intro ad H locs L C e0 e1 hS
    obtain ⟨hy, hxx, h2⟩ := vok2 C.st
    refine lv_ishl hx hb hd ?_
    have g := hk _ _ _ _ _ _ hs ad H locs L (C.stk (vokc (show Rng _ from rng_of _) h2)) e0 e1 hS
    rw [List.map_cons, show cv ad (.inl (sShl x y)) = .int _ from congrArg Value.int (iw_of _)] at g
    exact g
  · simp only [rowA, il] at hrow
    obtain ⟨hd, rfl⟩ := dec1_spec hrow
    obtain ⟨x, y, r, rfl, hs⟩ := two_spec hs
    intro ad H locs L C e0 e1 hS
    obtain ⟨hy, hxx, h2⟩ := vok2 C.st
    refine lv_ishr hx hb hd ?_
    have g := hk _ _ _ _ _ _ hs ad H locs L (C.stk (vokc (show Rng _ from rng_of _) h2)) e0 e1 hS
    rw [List.map_cons, show cv ad (.inl (sShr x y)) = .int _ from congrArg Value.int (iw_of _)] at g
    exact g
  · simp only [rowA, il] at hrow
    obtain ⟨hd, rfl⟩ := dec1_spec hrow
    obtain ⟨x, r, rfl, hs⟩ := oneI_spec hs
    intro ad H locs L C e0 e1 hS
    refine lv_ineg hx hb hd ?_
    rw [← iw_neg]
    exact hk _ _ _ _ _ _ hs.2 ad H locs L (C.stk (vokc hs.1 (vok1 C.st).2)) e0 e1 hS
  · simp only [rowA, il] at hrow
    obtain ⟨hd, rfl⟩ := dec1_spec hrow
    obtain ⟨x, r, rfl, hs⟩ := oneI_spec hs
    intro ad H locs L C e0 e1 hS
    refine lv_i2l hx hb hd rfl ?_
    exact hk _ _ _ _ _ _ hs ad H locs L (C.stk (vokc trivial (vok1 C.st).2)) e0 e1 hS
  · simp only [rowA, il] at hrow
    obtain ⟨hd, rfl⟩ := dec1_spec hrow
    obtain ⟨x, r, rfl, hs⟩ := oneL_spec hs
    intro ad H locs L C e0 e1 hS
    refine lv_l2i hx hb hd rfl ?_
    have g := hk _ _ _ _ _ _ hs ad H locs L (C.stk (vokc (show Rng _ from rng_of _) (vok1 C.st).2)) e0 e1 hS
    rw [List.map_cons, show cv ad (.inl (l2I x)) = .int _ from congrArg Value.int (iw_of _)] at g
    exact g
  · simp only [rowA, il] at hrow
    obtain ⟨hd, rfl⟩ := dec1_spec hrow
    obtain ⟨x, y, r, rfl, hs⟩ := twoL_spec hs
    intro ad H locs L C e0 e1 hS
    refine lv_ladd hx hb hd ?_
    exact hk _ _ _ _ _ _ hs ad H locs L (C.stk (vokc trivial (vok2 C.st).2.2)) e0 e1 hS
  · simp only [rowA, il] at hrow
    obtain ⟨hd, rfl⟩ := dec1_spec hrow
    obtain ⟨x, y, r, rfl, hs⟩ := twoL_spec hs
    intro ad H locs L C e0 e1 hS
    refine lv_lsub hx hb hd ?_
    exact hk _ _ _ _ _ _ hs ad H locs L (C.stk (vokc trivial (vok2 C.st).2.2)) e0 e1 hS
  · simp only [rowA, il] at hrow
    obtain ⟨hd, rfl⟩ := dec1_spec hrow
    obtain ⟨x, y, r, rfl, hs⟩ := twoL_spec hs
    intro ad H locs L C e0 e1 hS
    refine lv_lmul hx hb hd ?_
    exact hk _ _ _ _ _ _ hs ad H locs L (C.stk (vokc trivial (vok2 C.st).2.2)) e0 e1 hS
  · simp only [rowA, il] at hrow
    obtain ⟨hd, rfl⟩ := dec1_spec hrow
    obtain ⟨x, y, r, rfl, hs⟩ := twoL_spec hs
    intro ad H locs L C e0 e1 hS
    refine lv_land hx hb hd ?_
    exact hk _ _ _ _ _ _ hs ad H locs L (C.stk (vokc trivial (vok2 C.st).2.2)) e0 e1 hS
  · simp only [rowA, il] at hrow
    obtain ⟨hd, rfl⟩ := dec1_spec hrow
    obtain ⟨x, y, r, rfl, hs⟩ := twoL_spec hs
    intro ad H locs L C e0 e1 hS
    refine lv_lor hx hb hd ?_
    exact hk _ _ _ _ _ _ hs ad H locs L (C.stk (vokc trivial (vok2 C.st).2.2)) e0 e1 hS
  · simp only [rowA, il] at hrow
    obtain ⟨hd, rfl⟩ := dec1_spec hrow
    obtain ⟨x, y, r, rfl, hs⟩ := twoL_spec hs
    intro ad H locs L C e0 e1 hS
    refine lv_lxor hx hb hd ?_
    exact hk _ _ _ _ _ _ hs ad H locs L (C.stk (vokc trivial (vok2 C.st).2.2)) e0 e1 hS
  · simp only [rowA, il] at hrow
    obtain ⟨hd, rfl⟩ := dec1_spec hrow
    obtain ⟨x, y, r, rfl, hs⟩ := twoL_spec hs
    intro ad H locs L C e0 e1 hS
    refine W.lcmp hx hb hd ?_
    rw [← iw_cmp]
    exact hk _ _ _ _ _ _ hs ad H locs L (C.stk (vokc (show Rng _ from rng_cmp _ _) (vok2 C.st).2.2)) e0 e1 hS
  · simp only [rowA, il] at hrow
    obtain ⟨hd, rfl⟩ := dec1_spec hrow
    obtain ⟨x, r, rfl, hs⟩ := oneL_spec hs
    intro ad H locs L C e0 e1 hS
    refine lv_lneg hx hb hd ?_
    exact hk _ _ _ _ _ _ hs ad H locs L (C.stk (vokc trivial (vok1 C.st).2)) e0 e1 hS
  · simp only [rowA, il] at hrow
    obtain ⟨hd, rfl⟩ := dec1_spec hrow
    obtain ⟨x, y, r, rfl, hs⟩ := shf_spec hs
    intro ad H locs L C e0 e1 hS
    refine lv_lshl hx hb hd rfl ?_
    exact hk _ _ _ _ _ _ hs ad H locs L (C.stk (vokc trivial (vok2 C.st).2.2)) e0 e1 hS
  · simp only [rowA, il] at hrow
    obtain ⟨hd, rfl⟩ := dec1_spec hrow
    obtain ⟨x, y, r, rfl, hs⟩ := shf_spec hs
    intro ad H locs L C e0 e1 hS
    refine lv_lshr hx hb hd rfl ?_
    exact hk _ _ _ _ _ _ hs ad H locs L (C.stk (vokc trivial (vok2 C.st).2.2)) e0 e1 hS
  · simp only [rowA, il] at hrow
    obtain ⟨hd, rfl⟩ := dec1_spec hrow
    obtain ⟨x, y, r, rfl, hs⟩ := shf_spec hs
    intro ad H locs L C e0 e1 hS
    refine lv_lushr hx hb hd rfl ?_
    exact hk _ _ _ _ _ _ hs ad H locs L (C.stk (vokc trivial (vok2 C.st).2.2)) e0 e1 hS
  · exact ho hs
end Ctx

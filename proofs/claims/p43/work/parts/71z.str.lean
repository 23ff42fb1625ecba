/-! ===== the words' constant: String's own methods, as contracts ===== -/
theorem dj_len_0 : decode cJ0_length_8abf5 0 = .ok (.aload_n 0, 1) := by decide +kernel
theorem dj_len_1 : decode cJ0_length_8abf5 1 = .ok (.getfield 9, 3) := by decide +kernel
theorem dj_len_4 : decode cJ0_length_8abf5 4 = .ok (.arraylength, 1) := by decide +kernel
theorem dj_len_5 : decode cJ0_length_8abf5 5 = .ok (.aload_n 0, 1) := by decide +kernel
theorem dj_len_6 : decode cJ0_length_8abf5 6 = .ok (.invokevirtual 335, 3) := by decide +kernel
theorem dj_len_9 : decode cJ0_length_8abf5 9 = .ok (.ishr, 1) := by decide +kernel
theorem dj_len_10 : decode cJ0_length_8abf5 10 = .ok (.ireturn, 1) := by decide +kernel
theorem dj_chr_0 : decode cJ0_charAt_5068e 0 = .ok (.aload_n 0, 1) := by decide +kernel
theorem dj_chr_1 : decode cJ0_charAt_5068e 1 = .ok (.invokevirtual 492, 3) := by decide +kernel
theorem dj_chr_4 : decode cJ0_charAt_5068e 4 = .ok (.ifCond .eq 12, 3) := by decide +kernel
theorem dj_chr_7 : decode cJ0_charAt_5068e 7 = .ok (.aload_n 0, 1) := by decide +kernel
theorem dj_chr_8 : decode cJ0_charAt_5068e 8 = .ok (.getfield 9, 3) := by decide +kernel
theorem dj_chr_11 : decode cJ0_charAt_5068e 11 = .ok (.iload_n 1, 1) := by decide +kernel
theorem dj_chr_12 : decode cJ0_charAt_5068e 12 = .ok (.invokestatic 495, 3) := by decide +kernel
theorem dj_chr_15 : decode cJ0_charAt_5068e 15 = .ok (.ireturn, 1) := by decide +kernel
theorem dj_cod_0 : decode cJ0_coder_7d493 0 = .ok (.getstatic 38, 3) := by decide +kernel
theorem dj_cod_3 : decode cJ0_coder_7d493 3 = .ok (.ifCond .eq 10, 3) := by decide +kernel
theorem dj_cod_6 : decode cJ0_coder_7d493 6 = .ok (.aload_n 0, 1) := by decide +kernel
theorem dj_cod_7 : decode cJ0_coder_7d493 7 = .ok (.getfield 15, 3) := by decide +kernel
theorem dj_cod_10 : decode cJ0_coder_7d493 10 = .ok (.goto 4, 3) := by decide +kernel
theorem dj_cod_13 : decode cJ0_coder_7d493 13 = .ok (.iconst 1, 1) := by decide +kernel
theorem dj_cod_14 : decode cJ0_coder_7d493 14 = .ok (.ireturn, 1) := by decide +kernel
theorem dj_lat_0 : decode cJ0_isLatin1_aae02 0 = .ok (.getstatic 38, 3) := by decide +kernel
theorem dj_lat_3 : decode cJ0_isLatin1_aae02 3 = .ok (.ifCond .eq 14, 3) := by decide +kernel
theorem dj_lat_6 : decode cJ0_isLatin1_aae02 6 = .ok (.aload_n 0, 1) := by decide +kernel
theorem dj_lat_7 : decode cJ0_isLatin1_aae02 7 = .ok (.getfield 15, 3) := by decide +kernel
theorem dj_lat_10 : decode cJ0_isLatin1_aae02 10 = .ok (.ifCond .ne 7, 3) := by decide +kernel
theorem dj_lat_13 : decode cJ0_isLatin1_aae02 13 = .ok (.iconst 1, 1) := by decide +kernel
theorem dj_lat_14 : decode cJ0_isLatin1_aae02 14 = .ok (.goto 4, 3) := by decide +kernel
theorem dj_lat_17 : decode cJ0_isLatin1_aae02 17 = .ok (.iconst 0, 1) := by decide +kernel
theorem dj_lat_18 : decode cJ0_isLatin1_aae02 18 = .ok (.ireturn, 1) := by decide +kernel
theorem dj_chk_0 : decode cJ0_checkIndex_df160 0 = .ok (.iload_n 0, 1) := by decide +kernel
theorem dj_chk_1 : decode cJ0_checkIndex_df160 1 = .ok (.iload_n 1, 1) := by decide +kernel
theorem dj_chk_2 : decode cJ0_checkIndex_df160 2 = .ok (.getstatic 1053, 3) := by decide +kernel
theorem dj_chk_5 : decode cJ0_checkIndex_df160 5 = .ok (.invokestatic 1059, 3) := by decide +kernel
theorem dj_chk_8 : decode cJ0_checkIndex_df160 8 = .ok (.pop, 1) := by decide +kernel
theorem dj_chk_9 : decode cJ0_checkIndex_df160 9 = .ok (.return_, 1) := by decide +kernel
theorem dj_ch1_0 : decode cJ1_charAt_3b067 0 = .ok (.iload_n 1, 1) := by decide +kernel
theorem dj_ch1_1 : decode cJ1_charAt_3b067 1 = .ok (.aload_n 0, 1) := by decide +kernel
theorem dj_ch1_2 : decode cJ1_charAt_3b067 2 = .ok (.arraylength, 1) := by decide +kernel
theorem dj_ch1_3 : decode cJ1_charAt_3b067 3 = .ok (.invokestatic 9, 3) := by decide +kernel
theorem dj_ch1_6 : decode cJ1_charAt_3b067 6 = .ok (.aload_n 0, 1) := by decide +kernel
theorem dj_ch1_7 : decode cJ1_charAt_3b067 7 = .ok (.iload_n 1, 1) := by decide +kernel
theorem dj_ch1_8 : decode cJ1_charAt_3b067 8 = .ok (.baload, 1) := by decide +kernel
theorem dj_ch1_9 : decode cJ1_charAt_3b067 9 = .ok (.sipush 255, 3) := by decide +kernel
theorem dj_ch1_12 : decode cJ1_charAt_3b067 12 = .ok (.iand, 1) := by decide +kernel
theorem dj_ch1_13 : decode cJ1_charAt_3b067 13 = .ok (.i2c, 1) := by decide +kernel
theorem dj_ch1_14 : decode cJ1_charAt_3b067 14 = .ok (.ireturn, 1) := by decide +kernel
theorem dj_chp_0 : decode cJ3_checkIndex_8e157 0 = .ok (.iload_n 0, 1) := by decide +kernel
theorem dj_chp_1 : decode cJ3_checkIndex_8e157 1 = .ok (.ifCond .lt 8, 3) := by decide +kernel
theorem dj_chp_4 : decode cJ3_checkIndex_8e157 4 = .ok (.iload_n 0, 1) := by decide +kernel
theorem dj_chp_5 : decode cJ3_checkIndex_8e157 5 = .ok (.iload_n 1, 1) := by decide +kernel
theorem dj_chp_6 : decode cJ3_checkIndex_8e157 6 = .ok (.if_icmp .lt 10, 3) := by decide +kernel
theorem dj_chp_16 : decode cJ3_checkIndex_8e157 16 = .ok (.iload_n 0, 1) := by decide +kernel
theorem dj_chp_17 : decode cJ3_checkIndex_8e157 17 = .ok (.ireturn, 1) := by decide +kernel
theorem dj_let_0 : decode cX2_letter 0 = .ok (.iload_n 0, 1) := by decide +kernel
theorem dj_let_1 : decode cX2_letter 1 = .ok (.iconst 2, 1) := by decide +kernel
theorem dj_let_2 : decode cX2_letter 2 = .ok (.isub, 1) := by decide +kernel
theorem dj_let_3 : decode cX2_letter 3 = .ok (.iconst 5, 1) := by decide +kernel
theorem dj_let_4 : decode cX2_letter 4 = .ok (.imul, 1) := by decide +kernel
theorem dj_let_5 : decode cX2_letter 5 = .ok (.iload_n 1, 1) := by decide +kernel
theorem dj_let_6 : decode cX2_letter 6 = .ok (.iadd, 1) := by decide +kernel
theorem dj_let_7 : decode cX2_letter 7 = .ok (.istore_n 2, 1) := by decide +kernel
theorem dj_let_8 : decode cX2_letter 8 = .ok (.iload_n 2, 1) := by decide +kernel
theorem dj_let_9 : decode cX2_letter 9 = .ok (.ifCond .lt 21, 3) := by decide +kernel
theorem dj_let_12 : decode cX2_letter 12 = .ok (.iload_n 2, 1) := by decide +kernel
theorem dj_let_13 : decode cX2_letter 13 = .ok (.ldc 15, 2) := by decide +kernel
theorem dj_let_15 : decode cX2_letter 15 = .ok (.invokevirtual 17, 3) := by decide +kernel
theorem dj_let_18 : decode cX2_letter 18 = .ok (.if_icmp .ge 12, 3) := by decide +kernel
theorem dj_let_21 : decode cX2_letter 21 = .ok (.ldc 15, 2) := by decide +kernel
theorem dj_let_23 : decode cX2_letter 23 = .ok (.iload_n 2, 1) := by decide +kernel
theorem dj_let_24 : decode cX2_letter 24 = .ok (.invokevirtual 23, 3) := by decide +kernel
theorem dj_let_27 : decode cX2_letter 27 = .ok (.goto 5, 3) := by decide +kernel
theorem dj_let_30 : decode cX2_letter 30 = .ok (.bipush 32, 2) := by decide +kernel
theorem dj_let_32 : decode cX2_letter 32 = .ok (.ireturn, 1) := by decide +kernel
def wJ (y : MethodName) (b : ByteArray) (mL : Nat) (r : Option FieldType) : List Jvm.Cond := .code y b mL r :: WSG
def rmJ (k : Nat) : Room := { frames := k, cells := 0, slots := 0, locals := 64 * k }
theorem gIn {k : Jvm.Cond} {l1 : List Jvm.Cond} (h : l1.all (fun w => decide (w ∈ lw_tbl) && goodWord w) = true) : GoodIn (k :: WSG) (l1 ++ WSG) := by
  intro w hw
  rcases List.mem_append.mp hw with hw | hw
  · have := List.all_eq_true.mp h w hw
    rw [Bool.and_eq_true] at this
    exact ⟨List.mem_cons_of_mem _ (List.mem_filter.mpr ⟨of_decide_eq_true this.1, this.2⟩), good_of_word this.2⟩
  · exact ⟨List.mem_cons_of_mem _ hw, good_of_word (List.mem_filter.mp hw).2⟩
theorem wInG {k w : Jvm.Cond} (h : (decide (w ∈ lw_tbl) && goodWord w) = true) : w ∈ k :: WSG := by
  rw [Bool.and_eq_true] at h
  exact List.mem_cons_of_mem _ (List.mem_filter.mpr ⟨of_decide_eq_true h.1, h.2⟩)
/-- the cells of the constant, and the statics that String's methods read -/
def JS (sa sv : Nat) (A : Nat → Prop) (U : State) (H : Heap) : Prop :=
  vk_S 1 [115] [wordsB] (fun _ => sa) (fun _ => sv) A U H ∧ va_Z "java/lang/String" "COMPACT_STRINGS" "Z" (.int 1) A U H ∧ va_Zq "jdk/internal/util/Preconditions" "SIOOBE_FORMATTER" "Ljava/util/function/BiFunction;" A U H
theorem JS.moved {sa sv : Nat} {A : Nat → Prop} {u U : State} {H : Heap} (h : JS sa sv A u H) (hvm : u.vm.Alike U.vm) : JS sa sv A U H := ⟨h.1.moved hvm, h.2.1.moved hvm, h.2.2.moved hvm⟩
theorem JS.of {lb sa sv : Nat} {A : Nat → Prop} {U : State} {H : Heap} (h : SFh lb sa sv A U H) : JS sa sv A U H := ⟨h.2.2.2.2.1, h.2.2.2.2.2.1, h.2.2.2.2.2.2⟩
abbrev PJ (sa sv : Nat) (av : List Value) (sz : Nat) : Array Value → State → Prop := va_Pc av (fun U => U.heap.size = sz ∧ JS sa sv (fun q => sz ≤ q) U U.heap)
abbrev QJ (r : Option Value) : Array Value → State → Outcome → State → Prop := fun _ st oc t => oc = .returned r ∧ t.heap = st.heap
/-- such a method answers r and changes nothing -/
abbrev JM (l : Launch) (y : MethodName) (ws : List Jvm.Cond) (k sa sv : Nat) (av : List Value) (r : Option Value) (sz : Nat) : Prop := Met l y ws (rmJ k) (PJ sa sv av sz) (QJ r) 0 0 (fun q => sz ≤ q)
theorem PJ.blind {sa sv sz : Nat} {av : List Value} : FrameBlind (PJ sa sv av sz) := by
  rintro a U g mk ⟨h1, h2, h3⟩
  exact ⟨h1, h2, h3.moved (Vm.Alike.refl U.vm)⟩
section JR
variable {p : Program} {l : Launch} {e : Env} {R : Room} {s : State} {m : MethodId} {args : Array Value} {below : List Frame} {meth : Method} {c : Code} {H : Heap} {locs : List Loc} {cells slots : Nat} {Q : State → Prop} {pc : Nat} {ls : Array Slot} {rest st0 : List Value} {cc : ByteArray}
theorem jgo {r : Option Value} {sz : Nat} {a : Array Value} (hz : s.heap.size ≤ sz) (hr : va_Run p l e R s m args below meth c H locs cells slots 0 0 (F0 m pc ls st0) rest (QJ r a) (fun q => sz ≤ q)) (kk : W p l e R s m args below meth c H locs cells slots Q (F0 m (pc + 3) ls (r.toList ++ rest))) : W p l e R s m args below meth c H locs cells slots Q (F0 m pc ls st0) := by
  intro T hT X
  obtain ⟨v, st₀, t, T', L, h0, X', hL, e1, e2, ⟨hv, hh⟩, st⟩ := hr T hT X
  cases hv
  have X2 : Stand p l e R s m args below meth c T' locs cells slots := ⟨X'.admits, X'.cas, X'.clock, X'.frames, X'.room, X'.hears, X'.method, X'.code, X'.here, X'.tail, X'.warmed, X'.limits, X'.bytes, X'.same.weaken (fun x hx hlt => by
    rcases List.mem_append.mp hx with h | h
    · exact h
    · exact absurd hlt (Nat.not_lt.mpr (Nat.le_trans hz (hL x h)))) (Nat.le_refl _) (Nat.le_refl _)⟩
  obtain ⟨t2, a1, b1⟩ := kk T' (by rw [e1, hh, h0]) X2
  exact ⟨t2, st t2 a1, b1⟩
theorem preS {sa sv : Nat} {As : List Value} {A : Nat → Prop} (hJ : JS sa sv A s s.heap) (hA : ∀ q, s.heap.size ≤ q → A q) : PreS s s.heap (PJ sa sv As s.heap.size) As :=
  ⟨PJ.blind, fun U hU hW => ⟨rfl, by rw [hU], by
    have h := hJ.moved hW.alike
    rw [hU]
    exact ⟨h.1.narrow hA, h.2.1.narrow hA, h.2.2.narrow hA⟩⟩⟩
theorem preV {sa sv : Nat} {As : List Value} {A : Nat → Prop} (hJ : JS sa sv A s s.heap) (hA : ∀ q, s.heap.size ≤ q → A q) : PreV s s.heap "java/lang/String" sa (PJ sa sv (.ref sa :: As) s.heap.size) As :=
  ⟨PJ.blind, vk_recv (i := 0) hJ.1 (by decide) va_S.rf, (preS (As := .ref sa :: As) hJ hA).2⟩
end JR
set_option maxHeartbeats 1000000 in
set_option maxRecDepth 100000 in
theorem j_cod (l : Launch) (sa sv sz : Nat) : JM l yJ0_coder_7d493 (wJ yJ0_coder_7d493 cJ0_coder_7d493 1 (some .byte)) 0 sa sv [.ref sa] (some (.int 0)) sz := by
  refine Met.ofW (cc := cJ0_coder_7d493) (maxL := 1) (ret := (some .byte)) (by decide) rfl ?_
  intro p e s m args below meth c s₁ B hml hv
  obtain ⟨rfl, hsz, hJ⟩ := hv
  have hx := B.exec
  have hb := B.bytes
  have hr := B.returns
  have hts := atoms_spec (ws := wJ yJ0_coder_7d493 cJ0_coder_7d493 1 (some .byte)) B.pre
  have hown : s.vm.findClass RJ0 = some m.cls := findClass_of_methodNamed B.named
  have hlocks := B.notSynchronized
  subst hsz
  have hA : ∀ q : Nat, s.heap.size ≤ q → (fun q => s.heap.size ≤ q) q := fun q h => h
  have hS : va_S (fun q => s.heap.size ≤ q) s.heap s.heap [] := va_S.rf
  have hl := lv_entry ([.ref sa]) (n := 1) (Nat.le_of_ble_eq_true rfl)
  rw [lg_entry_eq]
  generalize (lg_sl ([.ref sa]) ++ List.replicate (1 - (lg_sl ([.ref sa])).length) Slot.unset).toArray = ls at hl ⊢
  refine va_gets hx hb hJ.2.1 hS hown (hts _ (wInG (w := .fieldLink "java/lang/String" 38 "java/lang/String" "COMPACT_STRINGS" "Z") (by decide +kernel))) (fun _ h9 => h9) dj_cod_0 ?_
  refine lv_if_eq hx hb dj_cod_3 (tgt := 13) (by decide) (fun g => absurd g (by decide)) (fun _ => ?_)
  refine lv_aload_n hx hb dj_cod_6 rfl (lv_at hl 0 rfl) ?_
  refine vk_getf hx hb (hJ.1.1 0 (by decide)).2.1 hS hown (hts _ (wInG (w := .fieldLink "java/lang/String" 15 "java/lang/String" "coder" "B") (by decide +kernel))) (fun _ h9 => h9) dj_cod_7 ?_
  refine lv_goto hx hb dj_cod_10 (tgt := 14) (by decide) ?_
  exact W.zret (v := 0) (ty := .byte) hx hb hr rfl (fun t ht _ => ⟨rfl, ht⟩) hS.2.2 dj_cod_14
set_option maxHeartbeats 1000000 in
set_option maxRecDepth 100000 in
theorem j_lat (l : Launch) (sa sv sz : Nat) : JM l yJ0_isLatin1_aae02 (wJ yJ0_isLatin1_aae02 cJ0_isLatin1_aae02 1 (some .boolean)) 0 sa sv [.ref sa] (some (.int 1)) sz := by
  refine Met.ofW (cc := cJ0_isLatin1_aae02) (maxL := 1) (ret := (some .boolean)) (by decide) rfl ?_
  intro p e s m args below meth c s₁ B hml hv
  obtain ⟨rfl, hsz, hJ⟩ := hv
  have hx := B.exec
  have hb := B.bytes
  have hr := B.returns
  have hts := atoms_spec (ws := wJ yJ0_isLatin1_aae02 cJ0_isLatin1_aae02 1 (some .boolean)) B.pre
  have hown : s.vm.findClass RJ0 = some m.cls := findClass_of_methodNamed B.named
  have hlocks := B.notSynchronized
  subst hsz
  have hA : ∀ q : Nat, s.heap.size ≤ q → (fun q => s.heap.size ≤ q) q := fun q h => h
  have hS : va_S (fun q => s.heap.size ≤ q) s.heap s.heap [] := va_S.rf
  have hl := lv_entry ([.ref sa]) (n := 1) (Nat.le_of_ble_eq_true rfl)
  rw [lg_entry_eq]
  generalize (lg_sl ([.ref sa]) ++ List.replicate (1 - (lg_sl ([.ref sa])).length) Slot.unset).toArray = ls at hl ⊢
  refine va_gets hx hb hJ.2.1 hS hown (hts _ (wInG (w := .fieldLink "java/lang/String" 38 "java/lang/String" "COMPACT_STRINGS" "Z") (by decide +kernel))) (fun _ h9 => h9) dj_lat_0 ?_
  refine lv_if_eq hx hb dj_lat_3 (tgt := 17) (by decide) (fun g => absurd g (by decide)) (fun _ => ?_)
  refine lv_aload_n hx hb dj_lat_6 rfl (lv_at hl 0 rfl) ?_
  refine vk_getf hx hb (hJ.1.1 0 (by decide)).2.1 hS hown (hts _ (wInG (w := .fieldLink "java/lang/String" 15 "java/lang/String" "coder" "B") (by decide +kernel))) (fun _ h9 => h9) dj_lat_7 ?_
  refine lv_if_ne hx hb dj_lat_10 (tgt := 17) (by decide) (fun g => absurd rfl g) (fun _ => ?_)
  refine lv_iconst (v := 1) hx hb dj_lat_13 (by decide) ?_
  refine lv_goto hx hb dj_lat_14 (tgt := 18) (by decide) ?_
  exact W.zret (v := 1) (ty := .boolean) hx hb hr rfl (fun t ht _ => ⟨rfl, ht⟩) hS.2.2 dj_lat_18
set_option maxHeartbeats 1000000 in
set_option maxRecDepth 100000 in
theorem j_len (l : Launch) (sa sv sz : Nat) : JM l yJ0_length_8abf5 (wJ yJ0_length_8abf5 cJ0_length_8abf5 1 (some .int)) 1 sa sv [.ref sa] (some (.int 115)) sz := by
  refine Met.ofW (cc := cJ0_length_8abf5) (maxL := 1) (ret := (some .int)) (by decide) rfl ?_
  intro p e s m args below meth c s₁ B hml hv
  obtain ⟨rfl, hsz, hJ⟩ := hv
  have hx := B.exec
  have hb := B.bytes
  have hr := B.returns
  have hts := atoms_spec (ws := wJ yJ0_length_8abf5 cJ0_length_8abf5 1 (some .int)) B.pre
  have hown : s.vm.findClass RJ0 = some m.cls := findClass_of_methodNamed B.named
  have hlocks := B.notSynchronized
  subst hsz
  have hA : ∀ q : Nat, s.heap.size ≤ q → (fun q => s.heap.size ≤ q) q := fun q h => h
  have hS : va_S (fun q => s.heap.size ≤ q) s.heap s.heap [] := va_S.rf
  have hl := lv_entry ([.ref sa]) (n := 1) (Nat.le_of_ble_eq_true rfl)
  rw [lg_entry_eq]
  generalize (lg_sl ([.ref sa]) ++ List.replicate (1 - (lg_sl ([.ref sa])).length) Slot.unset).toArray = ls at hl ⊢
  refine lv_aload_n hx hb dj_len_0 rfl (lv_at hl 0 rfl) ?_
  refine vk_getf hx hb (hJ.1.1 0 (by decide)).2.2.1 hS hown (hts _ (wInG (w := .fieldLink "java/lang/String" 9 "java/lang/String" "value" "[B") (by decide +kernel))) (fun _ h9 => h9) dj_len_1 ?_
  refine va_tlen hx hb (hJ.1.1 0 (by decide)).2.2.2 hS (v := 115) (by decide) dj_len_4 ?_
  refine lv_aload_n hx hb dj_len_5 rfl (lv_at hl 0 rfl) ?_
  refine jgo (r := some (.int 0)) (Nat.le_refl _) (va_runV (As := []) (rest := [.int 115]) (C := "java/lang/String") ⟨hx, hb, hml, hown, hts⟩ (j_cod l sa sv s.heap.size) (cwV 0 hts (gIn (l1 := [.methodLink RJ0 335 yJ0_coder_7d493, .instanceMethod yJ0_coder_7d493, .selects "java/lang/String" yJ0_coder_7d493 yJ0_coder_7d493, .initialized "java/lang/String", .code yJ0_coder_7d493 cJ0_coder_7d493 1 (some .byte)]) (by decide +kernel)) rfl rfl rfl (by decide +kernel) ⟨Nat.le_of_ble_eq_true rfl, Nat.le_of_ble_eq_true rfl⟩) (preV (As := []) hJ hA) rfl rfl hl.1 rfl (lv_room (Nat.le_of_ble_eq_true rfl)) dj_len_6 ⟨Nat.zero_le _, Nat.zero_le _⟩) ?_
  refine lv_ishr hx hb dj_len_9 ?_
  refine W.iret (v := 115) hx hb hr (fun t ht _ => ⟨rfl, ht⟩) hS.2.2 dj_len_10
def okV (v : Value) : Prop := v = .null ∨ ∃ q, v = .ref q
set_option maxHeartbeats 1000000 in
set_option maxRecDepth 100000 in
theorem j_chpN (l : Launch) (sa sv sz : Nat) {i n : Int32} (h0 : ¬ i < 0) (h1 : i < n) : JM l yJ3_checkIndex_8e157 (wJ yJ3_checkIndex_8e157 cJ3_checkIndex_8e157 3 (some .int)) 0 sa sv [.int i, .int n, .null] (some (.int i)) sz := by
  refine Met.ofW (cc := cJ3_checkIndex_8e157) (maxL := 3) (ret := (some .int)) (by decide) rfl ?_
  intro p e s m args below meth c s₁ B hml hv
  obtain ⟨rfl, hsz, hJ⟩ := hv
  have hx := B.exec
  have hb := B.bytes
  have hr := B.returns
  have hts := atoms_spec (ws := wJ yJ3_checkIndex_8e157 cJ3_checkIndex_8e157 3 (some .int)) B.pre
  have hown : s.vm.findClass RJ3 = some m.cls := findClass_of_methodNamed B.named
  have hlocks := B.notSynchronized
  subst hsz
  have hA : ∀ q : Nat, s.heap.size ≤ q → (fun q => s.heap.size ≤ q) q := fun q h => h
  have hS : va_S (fun q => s.heap.size ≤ q) s.heap s.heap [] := va_S.rf
  have hl := lv_entry ([.int i, .int n, .null]) (n := 3) (Nat.le_of_ble_eq_true rfl)
  rw [lg_entry_eq]
  generalize (lg_sl ([.int i, .int n, .null]) ++ List.replicate (3 - (lg_sl ([.int i, .int n, .null])).length) Slot.unset).toArray = ls at hl ⊢
  refine lv_iload_n hx hb dj_chp_0 rfl (lv_at hl 0 rfl) ?_
  refine lv_if_lt hx hb dj_chp_1 (tgt := 9) (by decide) (fun g => absurd g h0) (fun _ => ?_)
  refine lv_iload_n hx hb dj_chp_4 rfl (lv_at hl 0 rfl) ?_
  refine lv_iload_n hx hb dj_chp_5 rfl (lv_at hl 1 rfl) ?_
  refine lv_icmp_lt hx hb dj_chp_6 (tgt := 16) (by decide) (fun _ => ?_) (fun g => absurd h1 g)
  refine lv_iload_n hx hb dj_chp_16 rfl (lv_at hl 0 rfl) ?_
  exact W.iret (v := i) hx hb hr (fun t ht _ => ⟨rfl, ht⟩) hS.2.2 dj_chp_17
set_option maxHeartbeats 1000000 in
set_option maxRecDepth 100000 in
theorem j_chpR (l : Launch) (sa sv sz : Nat) {i n : Int32} (q : Nat) (h0 : ¬ i < 0) (h1 : i < n) : JM l yJ3_checkIndex_8e157 (wJ yJ3_checkIndex_8e157 cJ3_checkIndex_8e157 3 (some .int)) 0 sa sv [.int i, .int n, .ref q] (some (.int i)) sz := by
  refine Met.ofW (cc := cJ3_checkIndex_8e157) (maxL := 3) (ret := (some .int)) (by decide) rfl ?_
  intro p e s m args below meth c s₁ B hml hv
  obtain ⟨rfl, hsz, hJ⟩ := hv
  have hx := B.exec
  have hb := B.bytes
  have hr := B.returns
  have hts := atoms_spec (ws := wJ yJ3_checkIndex_8e157 cJ3_checkIndex_8e157 3 (some .int)) B.pre
  have hown : s.vm.findClass RJ3 = some m.cls := findClass_of_methodNamed B.named
  have hlocks := B.notSynchronized
  subst hsz
  have hA : ∀ q : Nat, s.heap.size ≤ q → (fun q => s.heap.size ≤ q) q := fun q h => h
  have hS : va_S (fun q => s.heap.size ≤ q) s.heap s.heap [] := va_S.rf
  have hl := lv_entry ([.int i, .int n, .ref q]) (n := 3) (Nat.le_of_ble_eq_true rfl)
  rw [lg_entry_eq]
  generalize (lg_sl ([.int i, .int n, .ref q]) ++ List.replicate (3 - (lg_sl ([.int i, .int n, .ref q])).length) Slot.unset).toArray = ls at hl ⊢
  refine lv_iload_n hx hb dj_chp_0 rfl (lv_at hl 0 rfl) ?_
  refine lv_if_lt hx hb dj_chp_1 (tgt := 9) (by decide) (fun g => absurd g h0) (fun _ => ?_)
  refine lv_iload_n hx hb dj_chp_4 rfl (lv_at hl 0 rfl) ?_
  refine lv_iload_n hx hb dj_chp_5 rfl (lv_at hl 1 rfl) ?_
  refine lv_icmp_lt hx hb dj_chp_6 (tgt := 16) (by decide) (fun _ => ?_) (fun g => absurd h1 g)
  refine lv_iload_n hx hb dj_chp_16 rfl (lv_at hl 0 rfl) ?_
  exact W.iret (v := i) hx hb hr (fun t ht _ => ⟨rfl, ht⟩) hS.2.2 dj_chp_17
set_option maxHeartbeats 1000000 in
set_option maxRecDepth 100000 in
theorem j_chk (l : Launch) (sa sv sz : Nat) {i n : Int32} (h0 : ¬ i < 0) (h1 : i < n) : JM l yJ0_checkIndex_df160 (wJ yJ0_checkIndex_df160 cJ0_checkIndex_df160 2 none) 1 sa sv [.int i, .int n] none sz := by
  refine Met.ofW (cc := cJ0_checkIndex_df160) (maxL := 2) (ret := none) (by decide) rfl ?_
  intro p e s m args below meth c s₁ B hml hv
  obtain ⟨rfl, hsz, hJ⟩ := hv
  have hx := B.exec
  have hb := B.bytes
  have hr := B.returns
  have hts := atoms_spec (ws := wJ yJ0_checkIndex_df160 cJ0_checkIndex_df160 2 none) B.pre
  have hown : s.vm.findClass RJ0 = some m.cls := findClass_of_methodNamed B.named
  have hlocks := B.notSynchronized
  subst hsz
  have hA : ∀ q : Nat, s.heap.size ≤ q → (fun q => s.heap.size ≤ q) q := fun q h => h
  have hS : va_S (fun q => s.heap.size ≤ q) s.heap s.heap [] := va_S.rf
  have hl := lv_entry ([.int i, .int n]) (n := 2) (Nat.le_of_ble_eq_true rfl)
  rw [lg_entry_eq]
  generalize (lg_sl ([.int i, .int n]) ++ List.replicate (2 - (lg_sl ([.int i, .int n])).length) Slot.unset).toArray = ls at hl ⊢
  refine lv_iload_n hx hb dj_chk_0 rfl (lv_at hl 0 rfl) ?_
  refine lv_iload_n hx hb dj_chk_1 rfl (lv_at hl 1 rfl) ?_
  rcases hJ.2.2 with hZ | ⟨q, hZ⟩
  · refine va_gets hx hb hZ hS hown (hts _ (wInG (w := .fieldLink "java/lang/String" 1053 "jdk/internal/util/Preconditions" "SIOOBE_FORMATTER" "Ljava/util/function/BiFunction;") (by decide +kernel))) (fun _ h9 => h9) dj_chk_2 ?_
    refine jgo (r := some (.int i)) (Nat.le_refl _) (va_runS (As := [.int i, .int n, .null]) (rest := []) ⟨hx, hb, hml, hown, hts⟩ (j_chpN l sa sv s.heap.size h0 h1) (va_cwS 3 hts (gIn (l1 := [.methodLink RJ0 1059 yJ3_checkIndex_8e157, .static yJ3_checkIndex_8e157, .initialized RJ3, .code yJ3_checkIndex_8e157 cJ3_checkIndex_8e157 3 (some .int)]) (by decide +kernel)) rfl rfl rfl (by decide +kernel) ⟨Nat.le_of_ble_eq_true rfl, Nat.le_of_ble_eq_true rfl⟩) (preS (As := [.int i, .int n, .null]) hJ hA) rfl rfl hl.1 rfl (lv_room (Nat.le_of_ble_eq_true rfl)) dj_chk_5 ⟨Nat.zero_le _, Nat.zero_le _⟩) ?_
    refine lv_pop hx hb dj_chk_8 rfl ?_
    exact W.vret hx hb hr (fun t ht _ => ⟨rfl, ht⟩) hS.2.2 dj_chk_9
  · refine va_gets hx hb hZ hS hown (hts _ (wInG (w := .fieldLink "java/lang/String" 1053 "jdk/internal/util/Preconditions" "SIOOBE_FORMATTER" "Ljava/util/function/BiFunction;") (by decide +kernel))) (fun _ h9 => h9) dj_chk_2 ?_
    refine jgo (r := some (.int i)) (Nat.le_refl _) (va_runS (As := [.int i, .int n, .ref q]) (rest := []) ⟨hx, hb, hml, hown, hts⟩ (j_chpR l sa sv s.heap.size q h0 h1) (va_cwS 3 hts (gIn (l1 := [.methodLink RJ0 1059 yJ3_checkIndex_8e157, .static yJ3_checkIndex_8e157, .initialized RJ3, .code yJ3_checkIndex_8e157 cJ3_checkIndex_8e157 3 (some .int)]) (by decide +kernel)) rfl rfl rfl (by decide +kernel) ⟨Nat.le_of_ble_eq_true rfl, Nat.le_of_ble_eq_true rfl⟩) (preS (As := [.int i, .int n, .ref q]) hJ hA) rfl rfl hl.1 rfl (lv_room (Nat.le_of_ble_eq_true rfl)) dj_chk_5 ⟨Nat.zero_le _, Nat.zero_le _⟩) ?_
    refine lv_pop hx hb dj_chk_8 rfl ?_
    exact W.vret hx hb hr (fun t ht _ => ⟨rfl, ht⟩) hS.2.2 dj_chk_9
/-- the character at a place, as String's method gives it -/
def chJ (i : Nat) : Int32 := ((wordsB.getD i 0 &&& 255).toUInt32 % 65536).toInt32
theorem chJ_ok : ((List.range 115).all fun i => decide (narrow .char (.int (chJ i)) = .int (chJ i))) = true := by decide +kernel
theorem chJ_n {i : Nat} (h : i < 115) : narrow .char (.int (chJ i)) = .int (chJ i) := of_decide_eq_true (List.all_eq_true.mp chJ_ok i (List.mem_range.mpr h))
set_option maxHeartbeats 1000000 in
set_option maxRecDepth 100000 in
theorem j_ch1 (l : Launch) (sa sv sz : Nat) {i : Int32} (h0 : ¬ i < 0) (h1 : i < 115) (h2 : i.toNatClampNeg < 115) : JM l yJ1_charAt_3b067 (wJ yJ1_charAt_3b067 cJ1_charAt_3b067 2 (some .char)) 2 sa sv [.ref sv, .int i] (some (.int (chJ i.toNatClampNeg))) sz := by
  refine Met.ofW (cc := cJ1_charAt_3b067) (maxL := 2) (ret := (some .char)) (by decide) rfl ?_
  intro p e s m args below meth c s₁ B hml hv
  obtain ⟨rfl, hsz, hJ⟩ := hv
  have hx := B.exec
  have hb := B.bytes
  have hr := B.returns
  have hts := atoms_spec (ws := wJ yJ1_charAt_3b067 cJ1_charAt_3b067 2 (some .char)) B.pre
  have hown : s.vm.findClass RJ1 = some m.cls := findClass_of_methodNamed B.named
  have hlocks := B.notSynchronized
  subst hsz
  have hA : ∀ q : Nat, s.heap.size ≤ q → (fun q => s.heap.size ≤ q) q := fun q h => h
  have hS : va_S (fun q => s.heap.size ≤ q) s.heap s.heap [] := va_S.rf
  have hl := lv_entry ([.ref sv, .int i]) (n := 2) (Nat.le_of_ble_eq_true rfl)
  rw [lg_entry_eq]
  generalize (lg_sl ([.ref sv, .int i]) ++ List.replicate (2 - (lg_sl ([.ref sv, .int i])).length) Slot.unset).toArray = ls at hl ⊢
  refine lv_iload_n hx hb dj_ch1_0 rfl (lv_at hl 1 rfl) ?_
  refine lv_aload_n hx hb dj_ch1_1 rfl (lv_at hl 0 rfl) ?_
  refine va_tlen hx hb (hJ.1.1 0 (by decide)).2.2.2 hS (v := 115) (by decide) dj_ch1_2 ?_
  refine jgo (r := none) (Nat.le_refl _) (va_runS (As := [.int i, .int 115]) (rest := []) ⟨hx, hb, hml, hown, hts⟩ (j_chk l sa sv s.heap.size h0 h1) (va_cwS 2 hts (gIn (l1 := [.methodLink RJ1 9 yJ0_checkIndex_df160, .static yJ0_checkIndex_df160, .initialized RJ0, .code yJ0_checkIndex_df160 cJ0_checkIndex_df160 2 none]) (by decide +kernel)) rfl rfl rfl (by decide +kernel) ⟨Nat.le_of_ble_eq_true rfl, Nat.le_of_ble_eq_true rfl⟩) (preS (As := [.int i, .int 115]) hJ hA) rfl rfl hl.1 rfl (lv_room (Nat.le_of_ble_eq_true rfl)) dj_ch1_3 ⟨Nat.zero_le _, Nat.zero_le _⟩) ?_
  refine lv_aload_n hx hb dj_ch1_6 rfl (lv_at hl 0 rfl) ?_
  refine lv_iload_n hx hb dj_ch1_7 rfl (lv_at hl 1 rfl) ?_
  refine va_tb hx hb (hJ.1.1 0 (by decide)).2.2.2 hS (i := i) (fun z => z.elim h0 (fun z => absurd h2 (Nat.not_lt.mpr z))) (v := .int (wordsB.getD i.toNatClampNeg 0)) rfl dj_ch1_8 ?_
  refine lv_sipush (v := 255) hx hb dj_ch1_9 (by decide) ?_
  refine lv_iand hx hb dj_ch1_12 ?_
  refine lv_i2c (v := chJ i.toNatClampNeg) hx hb dj_ch1_13 rfl ?_
  exact W.zret (v := chJ i.toNatClampNeg) (ty := .char) hx hb hr (chJ_n h2) (fun t ht _ => ⟨rfl, ht⟩) hS.2.2 dj_ch1_14
set_option maxHeartbeats 1000000 in
set_option maxRecDepth 100000 in
theorem j_chr (l : Launch) (sa sv sz : Nat) {i : Int32} (h0 : ¬ i < 0) (h1 : i < 115) (h2 : i.toNatClampNeg < 115) : JM l yJ0_charAt_5068e (wJ yJ0_charAt_5068e cJ0_charAt_5068e 2 (some .char)) 3 sa sv [.ref sa, .int i] (some (.int (chJ i.toNatClampNeg))) sz := by
  refine Met.ofW (cc := cJ0_charAt_5068e) (maxL := 2) (ret := (some .char)) (by decide) rfl ?_
  intro p e s m args below meth c s₁ B hml hv
  obtain ⟨rfl, hsz, hJ⟩ := hv
  have hx := B.exec
  have hb := B.bytes
  have hr := B.returns
  have hts := atoms_spec (ws := wJ yJ0_charAt_5068e cJ0_charAt_5068e 2 (some .char)) B.pre
  have hown : s.vm.findClass RJ0 = some m.cls := findClass_of_methodNamed B.named
  have hlocks := B.notSynchronized
  subst hsz
  have hA : ∀ q : Nat, s.heap.size ≤ q → (fun q => s.heap.size ≤ q) q := fun q h => h
  have hS : va_S (fun q => s.heap.size ≤ q) s.heap s.heap [] := va_S.rf
  have hl := lv_entry ([.ref sa, .int i]) (n := 2) (Nat.le_of_ble_eq_true rfl)
  rw [lg_entry_eq]
  generalize (lg_sl ([.ref sa, .int i]) ++ List.replicate (2 - (lg_sl ([.ref sa, .int i])).length) Slot.unset).toArray = ls at hl ⊢
  refine lv_aload_n hx hb dj_chr_0 rfl (lv_at hl 0 rfl) ?_
  refine jgo (r := some (.int 1)) (Nat.le_refl _) (va_runV (As := []) (rest := []) (C := "java/lang/String") ⟨hx, hb, hml, hown, hts⟩ (j_lat l sa sv s.heap.size) (cwV 0 hts (gIn (l1 := [.methodLink RJ0 492 yJ0_isLatin1_aae02, .instanceMethod yJ0_isLatin1_aae02, .selects "java/lang/String" yJ0_isLatin1_aae02 yJ0_isLatin1_aae02, .initialized "java/lang/String", .code yJ0_isLatin1_aae02 cJ0_isLatin1_aae02 1 (some .boolean)]) (by decide +kernel)) rfl rfl rfl (by decide +kernel) ⟨Nat.le_of_ble_eq_true rfl, Nat.le_of_ble_eq_true rfl⟩) (preV (As := []) hJ hA) rfl rfl hl.1 rfl (lv_room (Nat.le_of_ble_eq_true rfl)) dj_chr_1 ⟨Nat.zero_le _, Nat.zero_le _⟩) ?_
  refine lv_if_eq hx hb dj_chr_4 (tgt := 16) (by decide) (fun g => absurd g (by decide)) (fun _ => ?_)
  refine lv_aload_n hx hb dj_chr_7 rfl (lv_at hl 0 rfl) ?_
  refine vk_getf hx hb (hJ.1.1 0 (by decide)).2.2.1 hS hown (hts _ (wInG (w := .fieldLink "java/lang/String" 9 "java/lang/String" "value" "[B") (by decide +kernel))) (fun _ h9 => h9) dj_chr_8 ?_
  refine lv_iload_n hx hb dj_chr_11 rfl (lv_at hl 1 rfl) ?_
  refine jgo (r := some (.int (chJ i.toNatClampNeg))) (Nat.le_refl _) (va_runS (As := [.ref sv, .int i]) (rest := []) ⟨hx, hb, hml, hown, hts⟩ (j_ch1 l sa sv s.heap.size h0 h1 h2) (va_cwS 2 hts (gIn (l1 := [.methodLink RJ0 495 yJ1_charAt_3b067, .static yJ1_charAt_3b067, .initialized RJ1, .code yJ1_charAt_3b067 cJ1_charAt_3b067 2 (some .char)]) (by decide +kernel)) rfl rfl rfl (by decide +kernel) ⟨Nat.le_of_ble_eq_true rfl, Nat.le_of_ble_eq_true rfl⟩) (preS (As := [.ref sv, .int i]) hJ hA) rfl rfl hl.1 rfl (lv_room (Nat.le_of_ble_eq_true rfl)) dj_chr_12 ⟨Nat.zero_le _, Nat.zero_le _⟩) ?_
  exact W.zret (v := chJ i.toNatClampNeg) (ty := .char) hx hb hr (chJ_n h2) (fun t ht _ => ⟨rfl, ht⟩) hS.2.2 dj_chr_15
theorem wl_lt : ((List.range 115).all fun i => decide (wdsN.getD i 0 < 256)) = true := by decide +kernel
theorem wl_rngJ (k i : Int) : Rng (wl k i) := by
  unfold wl
  split
  · rename_i h
    have := of_decide_eq_true (List.all_eq_true.mp wl_lt _ (List.mem_range.mpr (show ((k - 2) * 5 + i).toNat < 115 by omega)))
    constructor <;> omega
  · constructor <;> decide
theorem wlJ_ch : ((List.range 115).all fun i => decide (chJ i = iw ((wdsN.getD i 0 : Nat) : Int))) = true := by decide +kernel
def s_X2_letter : CS := (zc 7, ap [(0, 0), (0, 0)] (fun k i h Rt X => (0 ≤ k ∧ k ≤ 1000 ∧ 0 ≤ i ∧ i ≤ 1000) ∧ Rt (some (.inl (wl k i))) h))
theorem let_as {as : List AV} {h : Hp} {Rt : Option AV → Hp → Prop} {X : Nat → Hp → Prop} (hsp : s_X2_letter.2 as h Rt X) : ∃ k i : Int, as = [.inl k, .inl i] ∧ (0 ≤ k ∧ k ≤ 1000 ∧ 0 ≤ i ∧ i ≤ 1000) ∧ Rt (some (.inl (wl k i))) h := by
  rcases as with _ | ⟨a, as⟩
  · exact False.elim hsp
  rcases a with k | a
  case inr => exact False.elim hsp
  rcases as with _ | ⟨a, as⟩
  · exact False.elim hsp
  rcases a with i | a
  case inr => exact False.elim hsp
  rcases as with _ | ⟨a, as⟩
  · exact ⟨k, i, rfl, hsp⟩
  · exact False.elim hsp
set_option maxHeartbeats 1000000 in
set_option maxRecDepth 100000 in
/-- Kinds.letter -/
theorem m_X2_letter : MM 41 s_X2_letter := by
  intro l D ca lb sa sv hl9 ad sz as h Rt X hv hh hf e1 hsp
  obtain ⟨k, i, rfl, ⟨k0, k1, i0, i1⟩, hR⟩ := let_as hsp
  refine vx_ofW (y := mY (tMR 41)) (cc := cX2_letter) (maxL := 3) (ret := some .int) (ws' := WSG) (by decide) rfl ?_
  intro p e s m args below meth c s₁ B hml ht hPC
  obtain ⟨rfl, hsz, hP, hD0, hF, hV⟩ := hPC
  subst hsz
  have hx := B.exec
  have hb := B.bytes
  have hr := B.returns
  have hts := atoms_spec (ws := wsOf (tMR 41)) B.pre
  have hown : s.vm.findClass RX2 = some m.cls := findClass_of_methodNamed B.named
  have hlocks := B.notSynchronized
  have hA : ∀ q : Nat, s.heap.size ≤ q → va_A (wo ad ca h) s.heap.size q := fun q h => Or.inr h
  have hJ : JS sa sv (va_A (wo ad ca h) s.heap.size) s s.heap := JS.of hF
  have hS : va_S (va_A (wo ad ca h) s.heap.size) s.heap s.heap [] := va_S.rf
  have rk : Rng k := ⟨by omega, by omega⟩
  have ri : Rng i := ⟨by omega, by omega⟩
  have hl := lv_entry ([.int (iw k), .int (iw i)]) (n := 3) (Nat.le_of_ble_eq_true rfl)
  rw [lg_entry_eq]
  have e9 : ([.inl k, .inl i] : List AV).map (cv ad) = [.int (iw k), .int (iw i)] := rfl
  rw [e9]
  generalize (lg_sl ([.int (iw k), .int (iw i)]) ++ List.replicate (3 - (lg_sl ([.int (iw k), .int (iw i)])).length) Slot.unset).toArray = ls at hl ⊢
  have hend : ∀ (t : State), t.heap = s.heap → s.WarmedH t.vm → QQ D ca true (va_A (wo ad ca h) s.heap.size) ad h Rt [.int (iw k), .int (iw i)].toArray s (.returned (some (.int (iw (wl k i))))) t := by
    intro t ht2 _
    refine ⟨⟨some (.inl (wl k i)), h, ad, rfl, hR, ?_, fun _ _ => rfl, by rw [ht2]; exact hP, hD0.self, hh, hf, Nat.le_refl _⟩, hS.F ht2⟩
    intro v hv9
    cases hv9
    exact wl_rngJ k i
  refine lv_iload_n hx hb dj_let_0 rfl (lv_at hl 0 rfl) ?_
  refine lv_iconst (v := iw 2) hx hb dj_let_1 rfl ?_
  refine lv_isub hx hb dj_let_2 ?_
  rw [← iw_sub]
  refine lv_iconst (v := iw 5) hx hb dj_let_3 rfl ?_
  refine lv_imul hx hb dj_let_4 ?_
  rw [← iw_mul]
  refine lv_iload_n hx hb dj_let_5 rfl (lv_at hl 1 rfl) ?_
  refine lv_iadd hx hb dj_let_6 ?_
  rw [← iw_add]
  obtain ⟨z, hz⟩ : ∃ z, z = (k - 2) * 5 + i := ⟨_, rfl⟩
  rw [← hz]
  have rz : Rng z := ⟨by omega, by omega⟩
  have ew : wl k i = if 0 ≤ z ∧ z < 115 then ((wdsN.getD z.toNat 0 : Nat) : Int) else 32 := by rw [hz]; rfl
  refine lv_istore_n hx hb dj_let_7 rfl hl (by decide) rfl (fun ls hl => ?_)
  have hl : lv_has ls 3 [(2, .int (iw z)), (0, .int (iw k)), (1, .int (iw i))] := hl
  have hout : (¬ (0 ≤ z ∧ z < 115)) → W p l e (rmOf (0, (0, 7))) s m [.int (iw k), .int (iw i)].toArray below meth c s.heap [] 0 0 (vx_MQ below (QQ D ca true (va_A (wo ad ca h) s.heap.size) ad h Rt) (XQ D ca true (va_A (wo ad ca h) s.heap.size) ad h X) [.int (iw k), .int (iw i)].toArray s 0 0 (va_A (wo ad ca h) s.heap.size)) (F0 m 30 ls []) := by
    intro g
    refine lv_bipush (v := iw 32) hx hb dj_let_30 (by decide) ?_
    rw [if_neg g] at ew
    rw [← ew]
    exact vx_ret (W.iret (v := iw (wl k i)) hx hb hr hend hS.2.2 dj_let_32)
  refine lv_iload_n hx hb dj_let_8 rfl (lv_at hl 0 rfl) ?_
  refine lv_if_lt hx hb dj_let_9 (tgt := 30) (by decide) (fun g => hout (fun q => absurd ((iw_lt rz rng0).mp g) (by omega))) (fun g0 => ?_)
  have z0 : 0 ≤ z := Int.not_lt.mp (fun q => g0 ((iw_lt rz rng0).mpr q))
  refine lv_iload_n hx hb dj_let_12 rfl (lv_at hl 0 rfl) ?_
  refine va_ldcS hx hb hown hV.2.2.2.2 dj_let_13 ?_
  refine jgo (r := some (.int 115)) (Nat.le_refl _) (va_runV (As := []) (rest := [.int (iw z)]) (C := "java/lang/String") ⟨hx, hb, hml, hown, hts⟩ (j_len l sa sv s.heap.size) (cwV 0 hts (gIn (l1 := [.methodLink RX2 17 yJ0_length_8abf5, .instanceMethod yJ0_length_8abf5, .selects "java/lang/String" yJ0_length_8abf5 yJ0_length_8abf5, .initialized "java/lang/String", .code yJ0_length_8abf5 cJ0_length_8abf5 1 (some .int)]) (by decide +kernel)) rfl rfl rfl (by decide +kernel) ⟨Nat.le_of_ble_eq_true rfl, Nat.le_of_ble_eq_true rfl⟩) (preV (As := []) hJ hA) rfl rfl hl.1 rfl (lv_room (Nat.le_of_ble_eq_true rfl)) dj_let_15 ⟨Nat.zero_le _, Nat.zero_le _⟩) ?_
  refine lv_icmp_ge hx hb dj_let_18 (tgt := 30) (by decide) (fun g => hout (fun q => absurd ((iw_le (y := z) (x := 115) ⟨by decide, by decide⟩ rz).mp g) (by omega))) (fun g1 => ?_)
  have z1 : z < 115 := Int.not_le.mp (fun q => g1 ((iw_le (x := 115) (y := z) ⟨by decide, by decide⟩ rz).mpr q))
  have ec : (iw z).toNatClampNeg = z.toNat := by
    show (iw z).toInt.toNat = _
    rw [iw_toInt rz]
  have h1 : iw z < 115 := (iw_lt (x := z) (y := 115) rz ⟨by decide, by decide⟩).mpr z1
  have h2 : (iw z).toNatClampNeg < 115 := by rw [ec]; omega
  refine va_ldcS hx hb hown hV.2.2.2.2 dj_let_21 ?_
  refine lv_iload_n hx hb dj_let_23 rfl (lv_at hl 0 rfl) ?_
  refine jgo (r := some (.int (chJ (iw z).toNatClampNeg))) (Nat.le_refl _) (va_runV (As := [.int (iw z)]) (rest := []) (C := "java/lang/String") ⟨hx, hb, hml, hown, hts⟩ (j_chr l sa sv s.heap.size g0 h1 h2) (cwV 1 hts (gIn (l1 := [.methodLink RX2 23 yJ0_charAt_5068e, .instanceMethod yJ0_charAt_5068e, .selects "java/lang/String" yJ0_charAt_5068e yJ0_charAt_5068e, .initialized "java/lang/String", .code yJ0_charAt_5068e cJ0_charAt_5068e 2 (some .char)]) (by decide +kernel)) rfl rfl rfl (by decide +kernel) ⟨Nat.le_of_ble_eq_true rfl, Nat.le_of_ble_eq_true rfl⟩) (preV (As := [.int (iw z)]) hJ hA) rfl rfl hl.1 rfl (lv_room (Nat.le_of_ble_eq_true rfl)) dj_let_24 ⟨Nat.zero_le _, Nat.zero_le _⟩) ?_
  refine lv_goto hx hb dj_let_27 (tgt := 32) (by decide) ?_
  have ev : chJ (iw z).toNatClampNeg = iw (wl k i) := by
    rw [ew, if_pos ⟨z0, z1⟩, ec]
    exact of_decide_eq_true (List.all_eq_true.mp wlJ_ch z.toNat (List.mem_range.mpr (by omega)))
  show W p l e _ s m _ below meth c s.heap [] 0 0 _ (F0 m 32 ls [.int (chJ (iw z).toNatClampNeg)])
  rw [ev]
  exact vx_ret (W.iret (v := iw (wl k i)) hx hb hr hend hS.2.2 dj_let_32)

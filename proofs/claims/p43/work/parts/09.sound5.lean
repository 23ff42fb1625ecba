/-! ===== contracts of methods in the abstract machine's words; calls are right ===== -/
def mY (mr : MR) : MethodName := mr.1
def mB (mr : MR) : ByteArray := mr.2.1
def mL (mr : MR) : Nat := mr.2.2.1
def mR (mr : MR) : Option FieldType := mr.2.2.2.1
def mH (mr : MR) : List (Nat × Nat × Nat × Nat) := mr.2.2.2.2.1
def mI (mr : MR) : List Nat := mr.2.2.2.2.2
def codeW (mr : MR) : Jvm.Cond := match mH mr with
  | [] => .code (mY mr) (mB mr) (mL mr) (mR mr)
  | hh => .codeWith (mY mr) (mB mr) (mL mr) (mR mr) hh
def WSG : List Jvm.Cond := lw_tbl.filter goodWord
def wsOf (mr : MR) : List Jvm.Cond := codeW mr :: WSG
def rmOf (q : Nat × (Nat × Nat)) : Room := { frames := 10 + q.2.2, cells := q.1, slots := q.2.1, locals := 300 + 64 * q.2.2 }
/-- what is known of the cells that nobody writes -/
def SFh (lb sa sv : Nat) (A : Nat → Prop) (U : State) (H : Heap) : Prop :=
  va_Z "WordSolver$Lanes" "LOW_BITS" "[J" (.ref lb) A U H ∧ va_T .long lb 6 (fun j => .long (tLB j)) A U H ∧ vx_Zq Bundle.tN "UNASSIGNED_STACK" Bundle.steD A U H ∧ vx_Zq Bundle.tN "SUPPRESSED_SENTINEL" Bundle.listD A U H ∧
    vk_S 1 [115] [wordsB] (fun _ => sa) (fun _ => sv) A U H ∧ va_Z "java/lang/String" "COMPACT_STRINGS" "Z" (.int 1) A U H ∧ va_Zq "jdk/internal/util/Preconditions" "SIOOBE_FORMATTER" "Ljava/util/function/BiFunction;" A U H
/-- what is known of the machine -/
def SFv (D : va_G) (ca : Nat → ClassId) (sa : Nat) (U : State) : Prop :=
  va_K D vwCl [(ca 0, .int), (ca 1, .long), (ca 2, .boolean), (ca 3, .object RX6)] U ∧ (∀ w ∈ lw_tbl, crW w = true → w.before #[] U = true) ∧ (∀ i j, i < 3 → j < 3 → i ≠ j → va_Nc (tEX i) (tEX j) U) ∧ (∀ q ∈ tSTR, ∃ a, vk_R RX9 q.1 q.2 a U) ∧ vk_R RX2 15 wordsT sa U
theorem SFh.move {lb sa sv : Nat} {A B : Nat → Prop} {u U : State} {H H1 : Heap} (h : SFh lb sa sv A u H) (hvm : u.vm.Alike U.vm) (hq : ∀ a : Nat, a < H.size → ¬ A a → H1[a]? = H[a]?) (hAB : ∀ q : Nat, q < H.size → B q → A q) : SFh lb sa sv B U H1 := by
  have h2 : SFh lb sa sv A U H1 := by
    obtain ⟨h1, h2, h3, h4, h5, h6, h7⟩ := h
    exact ⟨(h1.moved hvm).kept hq, (h2.moved hvm).kept hq, (h3.moved hvm).kept hq, (h4.moved hvm).kept hq, (h5.moved hvm).kept hq, (h6.moved hvm).kept hq, (h7.moved hvm).kept hq⟩
  -- cells beyond the old heap are none of these
  have h3 : SFh lb sa sv (fun q => A q ∨ H.size ≤ q) u H := by
    obtain ⟨h1, h2, h3, h4, h5, h6, h7⟩ := h
    have nz : ∀ {C n d : String} {v : Value}, va_Z C n d v A u H → va_Z C n d v (fun q => A q ∨ H.size ≤ q) u H := by
      rintro C n d v ⟨cf, kf, fi, f, a, cell, e1, e2, e3, e4, e5, e6, e7, e8⟩
      exact ⟨cf, kf, fi, f, a, cell, e1, e2, e3, e4, e5, e6, e7, fun q => q.elim e8 (fun q => absurd (Array.getElem?_eq_some_iff.mp e5).1 (Nat.not_lt.mpr q))⟩
    have nt : ∀ {ty : FieldType} {t N : Nat} {f : Nat → Value}, va_T ty t N f A u H → va_T ty t N f (fun q => A q ∨ H.size ≤ q) u H := by
      rintro ty t N f ⟨cell, e1, e2, e3, e4, e5, e6, e7⟩
      exact ⟨cell, e1, e2, e3, e4, e5, e6, fun q => q.elim e7 (fun q => absurd (Array.getElem?_eq_some_iff.mp e1).1 (Nat.not_lt.mpr q))⟩
    have nq : ∀ {C n d : String}, va_Zq C n d A u H → va_Zq C n d (fun q => A q ∨ H.size ≤ q) u H := fun z => z.elim (fun z => Or.inl (nz z)) (fun ⟨t, z⟩ => Or.inr ⟨t, nz z⟩)
    have nl : ∀ {C n d : String}, vx_L C n d A u H → vx_L C n d (fun q => A q ∨ H.size ≤ q) u H := by
      rintro C n d ⟨c, k, i, f, a, cell, e1, e2, e3, e4, e5, e6, e7, e8, e9, e10⟩
      exact ⟨c, k, i, f, a, cell, e1, e2, e3, e4, e5, e6, e7, e8, e9, fun q => q.elim e10 (fun q => absurd (Array.getElem?_eq_some_iff.mp e5).1 (Nat.not_lt.mpr q))⟩
    refine ⟨nz h1, nt h2, ⟨nq h3.1, nl h3.2⟩, ⟨nq h4.1, nl h4.2⟩, ⟨fun i hi => ?_, h5.2⟩, nz h6, nq h7⟩
    obtain ⟨g1, g2, g3, g4⟩ := h5.1 i hi
    have no : ∀ {o n d : String} {v : Value} {a : Nat}, va_OF o n d v a A u H → va_OF o n d v a (fun q => A q ∨ H.size ≤ q) u H := by
      rintro o n d v a ⟨cf, kf, fi, f, cell, e1, e2, e3, e4, e5, e6⟩
      exact ⟨cf, kf, fi, f, cell, e1, e2, e3, e4, e5, fun q => q.elim e6 (fun q => absurd (Array.getElem?_eq_some_iff.mp e3).1 (Nat.not_lt.mpr q))⟩
    have noo : va_O "java/lang/String" sa (fun q => A q ∨ H.size ≤ q) u H := by
      obtain ⟨cell, e1, e2, e3, e4⟩ := g1
      exact ⟨cell, e1, e2, e3, fun q => q.elim e4 (fun q => absurd (Array.getElem?_eq_some_iff.mp e1).1 (Nat.not_lt.mpr q))⟩
    exact ⟨noo, no g2, no g3, nt g4⟩
  obtain ⟨h1, h2, h3, h4, h5, h6, h7⟩ := h3
  have hq2 : ∀ a : Nat, a < H.size → ¬ (A a ∨ H.size ≤ a) → H1[a]? = H[a]? := fun a ha hn => hq a ha (fun q => hn (Or.inl q))
  have hAB2 : ∀ q : Nat, B q → (A q ∨ H.size ≤ q) := fun q hb => by
    rcases Nat.lt_or_ge q H.size with z | z
    · exact Or.inl (hAB q z hb)
    · exact Or.inr z
  exact ⟨((h1.moved hvm).kept hq2).narrow hAB2, ((h2.moved hvm).kept hq2).narrow hAB2, ((h3.moved hvm).kept hq2).narrow hAB2, ((h4.moved hvm).kept hq2).narrow hAB2, ((h5.moved hvm).kept hq2).narrow hAB2, ((h6.moved hvm).kept hq2).narrow hAB2, ((h7.moved hvm).kept hq2).narrow hAB2⟩
theorem crW_spec {w : Jvm.Cond} (hw : crW w = true) : (∃ C T, w = .castable C T) ∨ (∃ x, w = .declares x) ∨ (∃ a i b n d h, w = .fieldLinkNest a i b n d h) ∨ (∃ a i x h, w = .methodLinkNest a i x h) ∨ ∃ C, w = .arrayOver (.object C) := by
  unfold crW at hw
  split at hw
  · exact Or.inl ⟨_, _, rfl⟩
  · exact Or.inr (Or.inl ⟨_, rfl⟩)
  · exact Or.inr (Or.inr (Or.inl ⟨_, _, _, _, _, _, rfl⟩))
  · exact Or.inr (Or.inr (Or.inr (Or.inl ⟨_, _, _, _, rfl⟩)))
  · exact Or.inr (Or.inr (Or.inr (Or.inr ⟨_, rfl⟩)))
  · cases hw
theorem cr_same {w : Jvm.Cond} (hw : crW w = true) {u U : State} (h : U.vm = u.vm) (hZ : w.before #[] u = true) : w.before #[] U = true := by
  rcases crW_spec hw with ⟨_, _, rfl⟩ | ⟨_, rfl⟩ | ⟨_, _, _, _, _, _, rfl⟩ | ⟨_, _, _, _, rfl⟩ | ⟨_, rfl⟩
  · exact va_Nw.same rfl h.symm hZ
  · exact va_Nw.same rfl h.symm hZ
  · exact va_Nw.same rfl h.symm hZ
  · exact va_Nw.same rfl h.symm hZ
  · exact (va_AO.of hZ).moved (by rw [h]; exact Vm.Alike.refl _)
theorem cr_warm {w : Jvm.Cond} (hw : crW w = true) {s U : State} (hW : s.WarmedH U.vm) (hZ : w.before #[] s = true) : w.before #[] U = true := by
  rcases crW_spec hw with ⟨_, _, rfl⟩ | ⟨_, rfl⟩ | ⟨_, _, _, _, _, _, rfl⟩ | ⟨_, _, _, _, rfl⟩ | ⟨_, rfl⟩
  · exact va_Nw.warmC hW hZ
  · exact va_Nw.warmD hW hZ
  · exact va_Nw.warmF hW hZ
  · exact va_Nw.warmM hW hZ
  · exact (va_AO.of hZ).moved hW.alike
theorem cr_use {w : Jvm.Cond} (hw : crW w = true) {A : Array Value} {U : State} (hZ : w.before #[] U = true) : w.before A U = true := by
  rcases crW_spec hw with ⟨_, _, rfl⟩ | ⟨_, rfl⟩ | ⟨_, _, _, _, _, _, rfl⟩ | ⟨_, _, _, _, rfl⟩ | ⟨_, rfl⟩
  · exact va_Nw.use rfl hZ
  · exact va_Nw.use rfl hZ
  · exact va_Nw.use rfl hZ
  · exact va_Nw.use rfl hZ
  · exact (va_AO.of hZ).use
theorem SFv.warm {D : va_G} {ca : Nat → ClassId} {sa : Nat} {s U : State} (hW : s.WarmedH U.vm) (h : SFv D ca sa s) : SFv D ca sa U := by
  obtain ⟨h1, h2, h3, h4, h5⟩ := h
  refine ⟨va_K.moved hW.alike h1, fun w hw hc => cr_warm hc hW (h2 w hw hc), fun i j a b d => va_Nc.moved hW.alike (h3 i j a b d), fun q hq => ?_, h5.warm hW⟩
  obtain ⟨a, ha⟩ := h4 q hq
  exact ⟨a, ha.warm hW⟩
theorem SFv.same {D : va_G} {ca : Nat → ClassId} {sa : Nat} {u U : State} (hv : U.vm = u.vm) (h : SFv D ca sa u) : SFv D ca sa U := by
  have ha : u.vm.Alike U.vm := by rw [hv]; exact Vm.Alike.refl _
  obtain ⟨h1, h2, h3, h4, h5⟩ := h
  refine ⟨va_K.moved ha h1, fun w hw hc => cr_same hc hv (h2 w hw hc), fun i j a b d => va_Nc.moved ha (h3 i j a b d), fun q hq => ?_, h5.same hv⟩
  obtain ⟨a, ha⟩ := h4 q hq
  exact ⟨a, ha.same hv⟩
/-- the picture that a call leaves -/
def BB (D : va_G) (ca : Nat → ClassId) (fx : Bool) (A : Nat → Prop) (ad : Nat → Nat) (h : Hp) (ad1 : Nat → Nat) (h1 : Hp) (H : Heap) : Prop :=
  (∀ a, a < hN h ∨ 63 ≤ a → ad1 a = ad a) ∧ va_P D vwCl (wo ad1 ca h1) H ∧ va_D A (wo ad1 ca h1) ∧ hok h1 ∧ (fx = true → fixed h1) ∧ hN h ≤ hN h1
def PC (D : va_G) (ca : Nat → ClassId) (lb sa sv : Nat) (ad : Nat → Nat) (sz : Nat) (as : List AV) (h : Hp) : Array Value → State → Prop := fun v U =>
  v = (as.map (cv ad)).toArray ∧ U.heap.size = sz ∧ va_P D vwCl (wo ad ca h) U.heap ∧ va_D (fun _ => True) (wo ad ca h) ∧ SFh lb sa sv (va_A (wo ad ca h) sz) U U.heap ∧ SFv D ca sa U
def QQ (D : va_G) (ca : Nat → ClassId) (fx : Bool) (A : Nat → Prop) (ad : Nat → Nat) (h : Hp) (Rt : Option AV → Hp → Prop) : Array Value → State → Outcome → State → Prop := fun _ st oc t =>
  (∃ (r : Option AV) (h1 : Hp) (ad1 : Nat → Nat), oc = .returned (r.map (cv ad1)) ∧ Rt r h1 ∧ (∀ v, r = some v → vok (hN h1) v) ∧ BB D ca fx A ad h ad1 h1 t.heap) ∧ va_F A st t
def XQ (D : va_G) (ca : Nat → ClassId) (fx : Bool) (A : Nat → Prop) (ad : Nat → Nat) (h : Hp) (X : Nat → Hp → Prop) : String → State → State → Prop := fun E st t =>
  (∃ (k : Nat) (h1 : Hp) (ad1 : Nat → Nat), k < 3 ∧ E = tEX k ∧ X k h1 ∧ BB D ca fx A ad h ad1 h1 t.heap) ∧ va_F A st t
/-- a method's contract, in the abstract machine's words -/
def MetS (l : Launch) (D : va_G) (ca : Nat → ClassId) (lb sa sv : Nat) (mr : MR) (fx : Bool) (cs : CS) : Prop :=
  ∀ (ad : Nat → Nat) (sz : Nat) (as : List AV) (h : Hp) (Rt : Option AV → Hp → Prop) (X : Nat → Hp → Prop), (∀ v ∈ as, vok (hN h) v) → hok h → (fx = true → fixed h) → ad 1001 = lb → cs.2 as h Rt X →
    vx_Met l (mY mr) (wsOf mr) (rmOf (cs.1 as h)) (PC D ca lb sa sv ad sz as h) (QQ D ca fx (va_A (wo ad ca h) sz) ad h Rt) (XQ D ca fx (va_A (wo ad ca h) sz) ad h X) (cs.1 as h).1 (cs.1 as h).2.1 (va_A (wo ad ca h) sz)
theorem PC.blind {D : va_G} {ca : Nat → ClassId} {lb sa sv : Nat} {ad : Nat → Nat} {sz : Nat} {as : List AV} {h : Hp} : FrameBlind (PC D ca lb sa sv ad sz as h) := by
  rintro a U g mk ⟨h1, h2, h3, h4, h5, h6⟩
  exact ⟨h1, h2, h3, h4, h5.move (Vm.Alike.refl U.vm) (fun _ _ _ => rfl) (fun _ _ z => z), SFv.same (u := U) (U := U.calling g mk a) rfl h6⟩
section After
variable {p : Program} {l : Launch} {e : Env} {R : Room} {s : State} {m : MethodId} {ag : Array Value} {below : List Frame} {meth : Method} {c : Code} {Q : State → Prop} {D : va_G} {ca : Nat → ClassId} {A : Nat → Prop} {fx : Bool} {H : Heap} {locs : List Loc} {u v : Nat}
/-- behind a call -/
theorem cm_after {A1 : Nat → Prop} {ad : Nat → Nat} {h : Hp} {Rt : Option AV → Hp → Prop} {X : Nat → Hp → Prop} {mc ms pc : Nat} {L : Array Slot} {st0 rs : List Value} {a : Array Value} (hr : vx_Run p l e R s m ag below meth c H locs u v mc ms (F0 m pc L st0) rs (QQ D ca fx A1 ad h Rt a) (XQ D ca fx A1 ad h X) A1) (hS : va_S A s.heap H locs) (hA : ∀ q, A1 q → A q)
    (kx : ∀ (k : Nat) (h1 : Hp) (ad1 : Nat → Nat) (ce : Cell) (q9 : Addr) (H1 : Heap) (locs1 : List Loc), k < 3 → X k h1 → BB D ca fx A1 ad h ad1 h1 H1 → va_S A s.heap H1 locs1 → H1[q9]? = some ce → ce.vm = .none → s.vm.findClass (tEX k) = some ce.cls → vx_W p l e R s m ag below meth c H1 locs1 (u + mc) (v + ms) Q (F0 m pc L rs) q9)
    (kk : ∀ (r : Option AV) (h1 : Hp) (ad1 : Nat → Nat) (H1 : Heap) (locs1 : List Loc), Rt r h1 → (∀ v, r = some v → vok (hN h1) v) → BB D ca fx A1 ad h ad1 h1 H1 → va_S A s.heap H1 locs1 → W p l e R s m ag below meth c H1 locs1 (u + mc) (v + ms) Q (F0 m (pc + 3) L ((r.map (cv ad1)).toList ++ rs))) : W p l e R s m ag below meth c H locs u v Q (F0 m pc L st0) := by
  intro T hT X9
  rcases hr T hT X9 with ⟨v9, st₀, t, T', L9, h0, X', hL, e1, e2, ⟨⟨r, h1, ad1, hv, hp, hvk, hb⟩, hF⟩, st⟩ | ⟨q, st₀, t, T', L9, E, ce, h0, X', hL, e1, e2, ⟨⟨k, h1, ad1, hk3, hE, hp, hb⟩, hF⟩, hce, hcv, hcl, st⟩
  · cases hv
    obtain ⟨k1, k2, k3⟩ := vx_keep h0 e1 hS (fun q _ z => hA q z) (fun q z => hA q z) hL hF
    obtain ⟨t2, a1, b1⟩ := kk r h1 ad1 T'.heap (locs ++ L9) hp hvk (by rw [e1]; exact hb) k3 T' rfl X'
    exact ⟨t2, st t2 a1, b1⟩
  · obtain ⟨k1, k2, k3⟩ := vx_keep h0 e1 hS (fun q _ z => hA q z) (fun q z => hA q z) hL hF
    subst hE
    obtain ⟨t2, a1, b1⟩ := kx k h1 ad1 ce q T'.heap (locs ++ L9) hk3 hp (by rw [e1]; exact hb) k3 (by rw [e1]; exact hce) hcv hcl T' rfl X'
    exact ⟨t2, st.trans a1, b1⟩
end After
theorem takeA_spec {n : Nat} {acc st as rest : List AV} (h : takeA n acc st = some (as, rest)) : ∃ l, as = l.reverse ++ acc ∧ st = l ++ rest ∧ l.length = n := by
  induction n generalizing acc st with
  | zero =>
    simp only [takeA, Option.some.injEq, Prod.mk.injEq] at h
    obtain ⟨rfl, rfl⟩ := h
    exact ⟨[], rfl, rfl, rfl⟩
  | succ n ih =>
    cases st with
    | nil => simp [takeA] at h
    | cons v st =>
      simp only [takeA] at h
      obtain ⟨l, rfl, rfl, hl⟩ := ih h
      exact ⟨v :: l, by simp, rfl, by simp [hl]⟩
theorem cv_adE {ad ad1 : Nat → Nat} {N : Nat} (hN9 : N ≤ 63) (ha : ∀ a, a < N ∨ 63 ≤ a → ad1 a = ad a) {v : AV} (h : vok N v) : cv ad1 v = cv ad v := by
  rcases v with x | x | (_ | a)
  · rfl
  · rfl
  · rfl
  · show Value.ref (ad1 a) = Value.ref (ad a)
    rw [ha a (by rcases h with h | h <;> omega)]
section Ctx
variable {p : Program} {l : Launch} {e : Env} {R : Room} {s : State} {m : MethodId} {ag : Array Value} {below : List Frame} {meth : Method} {c : Code} {Q : State → Prop} {cc : ByteArray} {nL : Nat} {D : va_G} {ca : Nat → ClassId} {A : Nat → Prop} {b0 : B0} {lb : Nat} {fx : Bool}
theorem Cn.free {ad : Nat → Nat} {ls : LSt} {st : List AV} {h : Hp} {H : Heap} {L : Array Slot} {locs : List Loc} (C : Cn D ca A ad fx nL ls st h H L) (hS : va_S A s.heap H locs) (hA : ∀ q, s.heap.size ≤ q → A q) : ∀ q, va_A (wo ad ca h) H.size q → A q := by
  rintro q (⟨k, e9, hk⟩ | hq)
  · exact C.2.2.1.2 k (q, e9) hk
  · exact hA q (Nat.le_trans hS.1 hq)
theorem Cn.back {ad ad1 : Nat → Nat} {ls : LSt} {st rest : List AV} {h h1 : Hp} {H H1 : Heap} {L : Array Slot} {A1 : Nat → Prop} (C : Cn D ca A ad fx nL ls st h H L) (hB : BB D ca fx A1 ad h ad1 h1 H1) (hA : ∀ q, A1 q → A q) (hr : ∀ v ∈ rest, vok (hN h) v) {r : Option AV} (hv : ∀ v, r = some v → vok (hN h1) v) :
    Cn D ca A ad1 fx nL ls (putR r rest) h1 H1 L ∧ (putR r rest).map (cv ad1) = (r.map (cv ad1)).toList ++ rest.map (cv ad) := by
  obtain ⟨b1, b2, b3, b4, b5, b6⟩ := hB
  have hN9 := C.2.2.2.2.2.1.2.2
  refine ⟨⟨?_, b2, b3.weaken (fun _ _ _ z => hA _ z), fun i v hi => vok_up (C.2.2.2.1 i v hi) b6, ?_, b4, b5⟩, ?_⟩
  · refine lhas_mono C.1 ?_
    rintro ⟨j, w⟩ hq
    obtain ⟨x, hx, rfl⟩ := lp_mem.mp hq
    exact lp_mem.mpr ⟨x, hx, cv_adE hN9 b1 (C.2.2.2.1 j x hx)⟩
  · cases r with
    | none => exact fun v hv2 => vok_up (hr v hv2) b6
    | some x => exact vokc (hv x rfl) (fun v hv2 => vok_up (hr v hv2) b6)
  · have e9 : rest.map (cv ad1) = rest.map (cv ad) := List.map_congr_left fun v hv2 => cv_adE hN9 b1 (hr v hv2)
    cases r with
    | none => exact e9
    | some x => show cv ad1 x :: rest.map (cv ad1) = cv ad1 x :: rest.map (cv ad); rw [e9]
/-- the start that a callee wants -/
theorem Cn.start {ad : Nat → Nat} {ls : LSt} {st : List AV} {h : Hp} {H : Heap} {L : Array Slot} {locs : List Loc} {sa sv : Nat} (C : Cn D ca A ad fx nL ls st h H L) (hS : va_S A s.heap H locs) (hA : ∀ q, s.heap.size ≤ q → A q) (hF : SFh lb sa sv A s s.heap) (hV : SFv D ca sa s) (as : List AV) :
    ∀ U : State, U.heap = H → s.WarmedH U.vm → PC D ca lb sa sv ad H.size as h (as.map (cv ad)).toArray U := by
  intro U hU hW
  refine ⟨rfl, by rw [hU], by rw [hU]; exact C.2.1, C.2.2.1.weaken (fun _ _ _ _ => trivial), ?_, hV.warm hW⟩
  rw [hU]
  exact hF.move hW.alike hS.2.1 (fun q _ z => C.free hS hA q z)
end Ctx

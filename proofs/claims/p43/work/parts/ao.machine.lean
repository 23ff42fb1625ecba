/-! ===== what the tables and the premises say of the machine as the law begins ===== -/
theorem cr_from {w : Jvm.Cond} (hw : crW w = true) {A : Array Value} {U : State} (h : w.before A U = true) : w.before #[] U = true := by
  rcases crW_spec hw with ⟨_, _, rfl⟩ | ⟨_, rfl⟩ | ⟨_, _, _, _, _, _, rfl⟩ | ⟨_, _, _, _, rfl⟩ | ⟨_, rfl⟩
  · exact h
  · exact h
  · exact h
  · exact h
  · exact h
def gvn : List Jvm.Cond := flatC (Jvm.Cond.and given_1 narrow_1)
theorem inst_in : ((List.range 9).all fun ci => decide (Jvm.Cond.instantiable (cN ci).1 (cN ci).2.2 ∈ lw_tbl)) = true := by decide +kernel
theorem vwCl_at : ∀ c, c < 9 → vwCl[c]? = some (cN c) := by
  intro c hc
  have : c = 0 ∨ c = 1 ∨ c = 2 ∨ c = 3 ∨ c = 4 ∨ c = 5 ∨ c = 6 ∨ c = 7 ∨ c = 8 := by omega
  rcases this with rfl | rfl | rfl | rfl | rfl | rfl | rfl | rfl | rfl <;> rfl
section Kn
variable {s : State} {b : Nat}
theorem kn_of (hts : ∀ w ∈ lw_tbl, w.before #[Value.ref b] s = true) {ci : Nat} (hci : ci < 9) : ∃ q : ClassId × (Nat → Nat), u_Kn s (cN ci).1 (cN ci).2.1 (cN ci).2.2 q.1 q.2 := by
  obtain ⟨cC, hC⟩ := classAt_of (hts _ (of_decide_eq_true (List.all_eq_true.mp inst_in ci (List.mem_range.mpr hci))))
  have hw : ∀ w ∈ u_ws (cN ci).1 (cN ci).2.1 (cN ci).2.2, w.before #[Value.ref b] s = true := by
    intro w hw
    have := List.all_eq_true.mp (u_in ci hci) w hw
    rw [Bool.and_eq_true] at this
    exact hts w (of_decide_eq_true this.1)
  have h0 : ∀ k : Nat, ∃ i : Nat, k < (cN ci).2.2 → SlotIs s ((cN ci).2.1 k).1 ((cN ci).2.1 k).2.1 ((cN ci).2.1 k).2.2.1 i := by
    intro k
    by_cases hk : k < (cN ci).2.2
    · obtain ⟨i, hi⟩ := u_found (u_lays hw (fun w h => h) hk)
      exact ⟨i, fun _ => hi⟩
    · exact ⟨0, fun h => absurd h hk⟩
  obtain ⟨iS, hS⟩ := Classical.axiomOfChoice h0
  exact ⟨(cC, iS), hS, hC⟩
theorem arr_of {ty : FieldType} (h : (Jvm.Cond.arrayClass ty).before #[Value.ref b] s = true) (hr : ∀ cA, s.vm.findClass ("[" ++ ty.toString) = some cA → va_RA s cA ty) : ∃ cA, ArrOfT s cA ty ∧ va_RA s cA ty := by
  obtain ⟨cA, kA, comp, h1, h2, h3⟩ := Jvm.Cond.arrayClass_spec h
  exact ⟨cA, fun n z => ⟨fun k h => (by cases h), kA, h2, comp, h3⟩, hr cA h1⟩
theorem arrO_of {C : String} (h : (Jvm.Cond.arrayOver (.object C)).before #[Value.ref b] s = true) : ∃ cA, ArrOfT s cA (.object C) ∧ va_RA s cA (.object C) := by
  obtain ⟨comp, cA, kA, h1, h2, h3, h4, h5⟩ := Jvm.Cond.arrayOver_spec h
  exact ⟨cA, fun n z => ⟨fun k h => (by cases h), kA, h3, comp, h4⟩, kA, comp, h3, h4, h1, h5⟩
theorem str_in : (tSTR.all fun q => decide (Jvm.Cond.stringRef RX9 q.1 q.2 ∈ lw_tbl) && decide (Jvm.Cond.exactly (.string RX9 q.1) "java/lang/String" ∈ gvn)) = true := by decide +kernel
theorem kin_el : ((List.range 115).all fun j => decide (gvn[730 + j]? = some (Jvm.Cond.eq (.elem (.field (.string RX2 15) "java/lang/String" "value" "[B") (.int (Int32.ofNat j))) (.int (wordsB.getD j 0))))) = true := by decide +kernel
theorem low_el : ((List.range 6).all fun j => decide (Jvm.Cond.eq (.elem (.static "WordSolver$Lanes" "LOW_BITS" "[J") (.int (Int32.ofNat j))) (.long (tLB j)) ∈ gvn)) = true := by decide +kernel
theorem nc_in : ((List.range 3).all fun i => (List.range 3).all fun j => decide (i = j) || decide (Jvm.Cond.not (.castable (tEX i) (tEX j)) ∈ gvn)) = true := by decide +kernel
theorem str_val {own : String} {k : Nat} (h : (Jvm.Cond.exactly (.string own k) "java/lang/String").before #[Value.ref b] s = true) : ∃ a, (Term.string own k).eval #[Value.ref b] s none [] s = some (.ref a) := by
  obtain ⟨a, c, cA, kA, q1, -⟩ := Cond.exactly_spec h
  exact ⟨a, q1⟩
/-- all that the walk asks of the machine -/
theorem known_of (hts : ∀ w ∈ lw_tbl, w.before #[Value.ref b] s = true) (hgv : (Jvm.Cond.and given_1 narrow_1).before #[Value.ref b] s = true) :
    ∃ (D : va_G) (ca : Nat → ClassId) (lb sa sv : Nat), SFh lb sa sv (fun q => s.heap.size ≤ q) s s.heap ∧ SFv D ca sa s := by
  have hs : ∀ w ∈ gvn, w.before #[Value.ref b] s = true := flat_of_before _ hgv
  have hA : ∀ a : Nat, a < s.heap.size → ¬ (fun q => s.heap.size ≤ q) a := fun a h q => Nat.lt_irrefl _ (Nat.lt_of_lt_of_le h q)
  -- the classes
  have h0 : ∀ ci : Nat, ∃ q : ClassId × (Nat → Nat), ci < 9 → u_Kn s (cN ci).1 (cN ci).2.1 (cN ci).2.2 q.1 q.2 := by
    intro ci
    by_cases hc : ci < 9
    · obtain ⟨q, hq⟩ := kn_of hts hc
      exact ⟨q, fun _ => hq⟩
    · exact ⟨(default, fun _ => 0), fun h => absurd h hc⟩
  obtain ⟨F, hF⟩ := Classical.axiomOfChoice h0
  -- the arrays
  obtain ⟨c0, a0, r0⟩ := arr_of (ty := .int) (hts _ (by decide +kernel)) (fun _ h => h)
  obtain ⟨c1, a1, r1⟩ := arr_of (ty := .long) (hts _ (by decide +kernel)) (fun _ h => h)
  obtain ⟨c2, a2, r2⟩ := arr_of (ty := .boolean) (hts _ (by decide +kernel)) (fun _ h => h)
  obtain ⟨c3, a3, r3⟩ := arrO_of (C := RX6) (hts _ (by decide +kernel))
  -- the long constants
  have hlen : (Term.length (.static "WordSolver$Lanes" "LOW_BITS" "[J")).eval #[Value.ref b] s none [] s = some (.int (Int32.ofNat 6)) := va_eqt (hs _ (by decide +kernel))
  obtain ⟨lb, hlb, hT⟩ := va_Tof (N := 6) (f := fun j => .long (tLB j)) (A := fun q => s.heap.size ≤ q) (by decide) (hs (.arrayOf (.static "WordSolver$Lanes" "LOW_BITS" "[J") .long) (by decide +kernel)) hlen (fun j hj => va_eqtl (hs _ (of_decide_eq_true (List.all_eq_true.mp low_el j (List.mem_range.mpr hj))))) hA
  -- the words' constant
  obtain ⟨adK, adV, hS, hK⟩ := vk_Sof (args := #[Value.ref b]) (s := s) (N := 1) (tm := fun _ => .string RX2 15) (len := [115]) (byt := [wordsB]) (A := fun q => s.heap.size ≤ q)
    (fun i hi => by obtain rfl : i = 0 := (by omega); decide) (fun i hi => by obtain rfl : i = 0 := (by omega); exact hs _ (by decide +kernel)) (fun i hi => by obtain rfl : i = 0 := (by omega); exact hs _ (by decide +kernel)) (fun i hi => by obtain rfl : i = 0 := (by omega); exact hs _ (by decide +kernel))
    (fun i hi => by obtain rfl : i = 0 := (by omega); exact hs _ (by decide +kernel))
    (fun i hi j hj => by obtain rfl : i = 0 := (by omega); exact hs _ (List.mem_of_getElem? (of_decide_eq_true (List.all_eq_true.mp kin_el j (List.mem_range.mpr hj)))))
    (fun i j hi hj e => absurd (show i = j by omega) e) hA
  refine ⟨(fun c => (F c).1, fun c => (F c).2), fun k => match k with
    | 0 => c0
    | 1 => c1
    | 2 => c2
    | _ => c3, lb, adK 0, adV 0, ⟨?_, hT, ?_, ?_, ?_, ?_, ?_⟩, ⟨?_, ?_, ?_, ?_, ?_⟩⟩
  · exact va_Zof (hts _ (by decide +kernel)) (hts _ (by decide +kernel)) hlb hA
  · exact vx_Zqof (hts _ (by decide +kernel)) (hts _ (by decide +kernel)) (hs _ (by decide +kernel)) hA
  · exact vx_Zqof (hts _ (by decide +kernel)) (hts _ (by decide +kernel)) (hs _ (by decide +kernel)) hA
  · exact ⟨fun i hi => by obtain rfl : i = 0 := (by omega); exact hS.1 0 hi, fun i j hi hj _ => by omega⟩
  · exact va_Zof (hts _ (by decide +kernel)) (hts _ (by decide +kernel)) (va_eqi (hs _ (by decide +kernel))) hA
  · exact va_Zqof (hts _ (by decide +kernel)) (hts _ (by decide +kernel)) (hs _ (by decide +kernel)) hA
  · refine ⟨fun c q hq => ?_, fun k q hq => ?_⟩
    · have hc : c < 9 := (List.getElem?_eq_some_iff.mp hq).1
      have e := vwCl_at c hc
      rw [hq] at e
      cases e
      exact hF c hc
    · have hk : k < 4 := (List.getElem?_eq_some_iff.mp hq).1
      have : k = 0 ∨ k = 1 ∨ k = 2 ∨ k = 3 := by omega
      rcases this with rfl | rfl | rfl | rfl
      · cases hq; exact ⟨a0, r0⟩
      · cases hq; exact ⟨a1, r1⟩
      · cases hq; exact ⟨a2, r2⟩
      · cases hq; exact ⟨a3, r3⟩
  · exact fun w hw hc => cr_from hc (hts w hw)
  · intro i j hi hj hij
    have := List.all_eq_true.mp (List.all_eq_true.mp nc_in i (List.mem_range.mpr hi)) j (List.mem_range.mpr hj)
    rw [Bool.or_eq_true, decide_eq_true_eq, decide_eq_true_eq] at this
    exact va_Nc.of (hs _ (this.resolve_left hij))
  · intro q hq
    have := List.all_eq_true.mp str_in q hq
    rw [Bool.and_eq_true, decide_eq_true_eq, decide_eq_true_eq] at this
    obtain ⟨a, ha⟩ := str_val (hs _ this.2)
    exact ⟨a, vk_R.of (hts _ this.1) ha⟩
  · exact vk_R.of (hts _ (by decide +kernel)) (hK 0 (by decide))
end Kn

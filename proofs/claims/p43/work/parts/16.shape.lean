/-! ===== how a method's contract is written: its arguments' shape, what it asks and gives ===== -/
abbrev Bd : Type := Hp → (Option AV → Hp → Prop) → (Nat → Hp → Prop) → Prop
/-- arguments: (0, _) an int, (1, _) a long, (2, _) any object, (3, k) the object k -/
def Fn : List (Nat × Nat) → Type
  | [] => Bd
  | (0, _) :: l => Int → Fn l
  | (1, _) :: l => Int64 → Fn l
  | (2, _) :: l => Nat → Fn l
  | (_ + 3, _) :: l => Fn l
def ap : (sh : List (Nat × Nat)) → Fn sh → Spec
  | [], f, as, h, Rt, X => (match as with
    | [] => f h Rt X
    | _ => False)
  | (0, _) :: l, f, as, h, Rt, X => (match as with
    | .inl x :: r => ap l (f x) r h Rt X
    | _ => False)
  | (1, _) :: l, f, as, h, Rt, X => (match as with
    | .inr (.inl x) :: r => ap l (f x) r h Rt X
    | _ => False)
  | (2, _) :: l, f, as, h, Rt, X => (match as with
    | .inr (.inr (some x)) :: r => ap l (f x) r h Rt X
    | _ => False)
  | (_ + 3, k) :: l, f, as, h, Rt, X => (match as with
    | .inr (.inr (some x)) :: r => ob (Nat.beq x k) (ap l f r h Rt X)
    | _ => False)
def AllA : (sh : List (Nat × Nat)) → Fn sh → (List AV → Bd → Prop) → Prop
  | [], f, G => G [] f
  | (0, _) :: l, f, G => ∀ x : Int, Rng x → AllA l (f x) (fun as g => G (.inl x :: as) g)
  | (1, _) :: l, f, G => ∀ x : Int64, AllA l (f x) (fun as g => G (.inr (.inl x) :: as) g)
  | (2, _) :: l, f, G => ∀ x : Nat, AllA l (f x) (fun as g => G (.inr (.inr (some x)) :: as) g)
  | (_ + 3, k) :: l, f, G => AllA l f (fun as g => G (.inr (.inr (some k)) :: as) g)
def catSh : List (Nat × Nat) → Nat
  | [] => 0
  | k :: l => (if k.1 = 1 then 2 else 1) + catSh l
theorem allA_el {sh : List (Nat × Nat)} {f : Fn sh} {G : List AV → Bd → Prop} (hG : AllA sh f G) {as : List AV} {h : Hp} {Rt : Option AV → Hp → Prop} {X : Nat → Hp → Prop} {N : Nat} (hv : ∀ v ∈ as, vok N v) (ha : ap sh f as h Rt X) : catS as = catSh sh ∧ ∃ g, G as g ∧ g h Rt X := by
  induction sh generalizing as G with
  | nil =>
    cases as with
    | nil => exact ⟨rfl, f, hG, ha⟩
    | cons a r => exact ha.elim
  | cons k l ih =>
    match k with
    | (0, _) =>
      cases as with
      | nil => exact ha.elim
      | cons a r =>
        rcases a with x | x | x
        · obtain ⟨h1, h2⟩ := ih (f := f x) (hG x (hv _ List.mem_cons_self)) (fun v hm => hv v (List.mem_cons_of_mem _ hm)) ha
          exact ⟨by simp only [catS, catSh, cat1]; rw [h1]; rfl, h2⟩
        · exact ha.elim
        · exact ha.elim
    | (1, _) =>
      cases as with
      | nil => exact ha.elim
      | cons a r =>
        rcases a with x | x | x
        · exact ha.elim
        · obtain ⟨h1, h2⟩ := ih (f := f x) (hG x) (fun v hm => hv v (List.mem_cons_of_mem _ hm)) ha
          exact ⟨by simp only [catS, catSh, cat1]; rw [h1]; rfl, h2⟩
        · exact ha.elim
    | (2, _) =>
      cases as with
      | nil => exact ha.elim
      | cons a r =>
        rcases a with x | x | (_ | x)
        · exact ha.elim
        · exact ha.elim
        · exact ha.elim
        · obtain ⟨h1, h2⟩ := ih (f := f x) (hG x) (fun v hm => hv v (List.mem_cons_of_mem _ hm)) ha
          exact ⟨by simp only [catS, catSh, cat1]; rw [h1]; rfl, h2⟩
    | (k9 + 3, k) =>
      cases as with
      | nil => exact ha.elim
      | cons a r =>
        rcases a with x | x | (_ | x)
        · exact ha.elim
        · exact ha.elim
        · exact ha.elim
        · obtain ⟨hb, ha⟩ := ob_spec ha
          have e := Nat.eq_of_beq_eq_true hb
          subst e
          obtain ⟨h1, h2⟩ := ih (f := f) hG (fun v hm => hv v (List.mem_cons_of_mem _ hm)) ha
          refine ⟨?_, h2⟩
          show 1 + catS r = (if k9 + 3 = 1 then 2 else 1) + catSh l
          rw [h1, if_neg (show ¬ k9 + 3 = 1 by omega)]
/-- a method that makes nothing: how high it stands -/
abbrev zc (n : Nat) : List AV → Hp → Nat × (Nat × Nat) := fun _ _ => (0, (0, n))
def sp (l : List (Nat × CS)) : Nat → CS := fun n => match look l n with
  | some cs => cs
  | none => noS
def MM (n : Nat) (cs : CS) : Prop := ∀ {l : Launch} {D : va_G} {ca : Nat → ClassId} {lb sa sv : Nat}, l.stackTraces = false → MetS l D ca lb sa sv (tMR n) true cs
def allMM : List (Nat × CS) → Prop
  | [] => True
  | q :: l => MM q.1 q.2 ∧ allMM l
theorem allMM_mem {cl : List (Nat × CS)} {q : Nat × CS} (h : allMM cl) (hm : q ∈ cl) : MM q.1 q.2 := by
  induction cl with
  | nil => cases hm
  | cons a cl ih =>
    rcases List.mem_cons.mp hm with rfl | hm
    · exact h.1
    · exact ih h.2 hm
theorem mm_of {n own rk nL : Nat} {code : List (Nat × Row)} {hd : List (Nat × (Nat × (Nat × Nat)))} {ps : List Nat} (hn : knows n = true) (hc : methB n own rk nL false code hd ps = true) {cl : List (Nat × CS)} (hM : allMM cl) {cs : CS} (H : Obl true rk nL (sp cl) hd code cs) : MM n cs := by
  intro l D ca lb sa sv hl
  refine met_of hl mrB_all hn hc (S := sp cl) (fun k hk => ?_) H
  unfold sp
  split
  · rename_i cs1 h1
    exact allMM_mem hM (look_mem h1) hl
  · intro ad sz as h Rt X _ _ _ _ hx
    exact hx.elim
/-- a method without a loop -/
theorem obl0 {sh : List (Nat × Nat)} {f : Fn sh} {rk nL HT : Nat} {S : Nat → CS} {code : List (Nat × Row)} (hcat : (Nat.ble (catSh sh) nL && Nat.blt 0 HT) = true)
    (H : AllA sh f (fun as g => ∀ (h : Hp) (Rt : Option AV → Hp → Prop) (X : Nat → Hp → Prop), hok h → fixed h → g h Rt X → aw true rk 0 0 HT S [] Rt X none (fun _ => 0) code [] (fun _ _ _ _ _ => False) 4000 code 0 (lpad (lent as) nL) [] h 0 0)) : Obl true rk nL S [] code (zc HT, ap sh f) := by
  intro as h Rt X hv hh hf ha
  obtain ⟨e, g, h1, h2⟩ := allA_el H hv ha
  rw [e]
  refine ⟨hcat, [], fun _ _ _ _ _ _ => False, 4000, ?_, fun k pc live vs h1 u v hl => by cases hl⟩
  have := h1 h Rt X hh (hf rfl) h2
  have e9 : (fun (pc : Nat) (vs : List AV) (h : Hp) (u v : Nat) => ∃ k : Nat, (fun (_ : Nat) (_ : Nat) (_ : List AV) (_ : Hp) (_ _ : Nat) => False) k pc vs h u v) = (fun _ _ _ _ _ => False) := by
    funext a b c d e
    exact propext ⟨fun ⟨_, q⟩ => q, fun q => q.elim⟩
  show aw true rk 0 0 HT S [] Rt X none (fun _ => 0) code [] (fun pc vs h u v => ∃ k : Nat, (fun (_ : Nat) (_ : Nat) (_ : List AV) (_ : Hp) (_ _ : Nat) => False) k pc vs h u v) 4000 code 0 (lpad (lent as) nL) [] h 0 0
  rw [e9]
  exact this
/-- what holds at the cuts, with nothing made, and a number that has fallen -/
abbrev KL (I : Nat → Nat → List AV → Hp → Prop) (k : Nat) : AKK := fun pc vs h u v => ob (Nat.beq u 0 && Nat.beq v 0) (∃ k', k' < k ∧ I k' pc vs h)
abbrev KE (I : Nat → Nat → List AV → Hp → Prop) : AKK := fun pc vs h u v => ob (Nat.beq u 0 && Nat.beq v 0) (∃ k, I k pc vs h)
/-- a method with loops, that makes nothing: the cuts, what holds there -/
theorem oblL {sh : List (Nat × Nat)} {f : Fn sh} {rk nL HT : Nat} {S : Nat → CS} {code : List (Nat × Row)} (hcat : (Nat.ble (catSh sh) nL && Nat.blt 0 HT) = true) (cut : List (Nat × List Nat))
    (H : AllA sh f (fun as g => ∀ (h : Hp) (Rt : Option AV → Hp → Prop) (X : Nat → Hp → Prop), hok h → fixed h → g h Rt X → ∃ I : Nat → Nat → List AV → Hp → Prop, aw true rk 0 0 HT S [] Rt X none (fun _ => 0) code cut (KE I) 4000 code 0 (lpad (lent as) nL) [] h 0 0 ∧
      ∀ k pc live vs h1, look cut pc = some live → I k pc vs h1 → (∀ x ∈ vs, vok (hN h1) x) → hok h1 → fixed h1 → aw true rk 0 0 HT S [] Rt X none (fun _ => 0) code cut (KL I k) 4000 code pc (lmk 0 nL live vs) [] h1 0 0)) : Obl true rk nL S [] code (zc HT, ap sh f) := by
  intro as h Rt X hv hh hf ha
  obtain ⟨e, g, h1, h2⟩ := allA_el H hv ha
  rw [e]
  obtain ⟨I, g1, g2⟩ := h1 h Rt X hh (hf rfl) h2
  have hKK : ∀ k, (fun (pc : Nat) (vs : List AV) (h : Hp) (u v : Nat) => ∃ k', k' < k ∧ (u = 0 ∧ v = 0 ∧ I k' pc vs h)) = KL I k := by
    intro k
    funext pc vs h u v
    refine propext ⟨?_, fun q => ?_⟩
    · rintro ⟨k', h1, rfl, rfl, h2⟩
      exact (show ∃ k', k' < k ∧ I k' pc vs h from ⟨k', h1, h2⟩)
    · obtain ⟨h1, k', h2, h3⟩ := ob_spec q
      rw [Bool.and_eq_true] at h1
      exact ⟨k', h2, Nat.eq_of_beq_eq_true h1.1, Nat.eq_of_beq_eq_true h1.2, h3⟩
  refine ⟨hcat, cut, fun k pc vs h u v => u = 0 ∧ v = 0 ∧ I k pc vs h, 4000, ?_, ?_⟩
  · have e9 : (fun (pc : Nat) (vs : List AV) (h : Hp) (u v : Nat) => ∃ k, (u = 0 ∧ v = 0 ∧ I k pc vs h)) = KE I := by
      funext pc vs h u v
      refine propext ⟨?_, fun q => ?_⟩
      · rintro ⟨k', rfl, rfl, h2⟩
        exact (show ∃ k', I k' pc vs h from ⟨k', h2⟩)
      · obtain ⟨h1, k', h3⟩ := ob_spec q
        rw [Bool.and_eq_true] at h1
        exact ⟨k', Nat.eq_of_beq_eq_true h1.1, Nat.eq_of_beq_eq_true h1.2, h3⟩
    rw [e9]
    exact g1
  · rintro k pc live vs h1 u v hl ⟨rfl, rfl, hi⟩ hv1 hh1 hf1
    rw [hKK]
    exact g2 k pc live vs h1 hl hi hv1 hh1 (hf1 rfl)

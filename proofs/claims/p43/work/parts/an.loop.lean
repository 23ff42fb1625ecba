/-! ===== the law's walk as a whole ===== -/
section Law
variable {p : Program} {l : Launch} {e : Env} {s : State} {m : MethodId} {ag : Array Value} {below : List Frame} {meth : Method} {c : Code} {Q : State → Prop} {D : va_G} {ca : Nat → ClassId} {A : Nat → Prop} {b0 : B0} {lb sa sv : Nat}
/-- what the law's walk stands on -/
def LwK (p : Program) (l : Launch) (e : Env) (s : State) (m : MethodId) (ag : Array Value) (below : List Frame) (meth : Method) (c : Code) (Q : State → Prop) (D : va_G) (ca : Nat → ClassId) (A : Nat → Prop) (b0 : B0) (lb sa sv : Nat) (n : Int) (SX : Int → Int) : Prop :=
  Kn p l room_1 s m ag c code 10 D ca A lb sa sv 11 600130 7301080 100 ∧ l.stackTraces = false ∧ (0 ≤ n ∧ n ≤ 260 ∧ (∀ j, Rng (SX j)) ∧ va_X b0.1 n.toNat (fun j => iw (SX j)) s s.heap ∧ b0.1 < s.heap.size ∧ ¬ A b0.1) ∧ c.exceptionTable.toList = [] ∧
  ∀ {fx : Bool} {pc : Nat} {i : Instr} {nx : Nat} {ax : Int} {tg : List Nat} {ls : LSt} {st : List AV} {h : Hp} {u v : Nat}, rowD 11 code pc i nx ax tg = true → stpE 2 600130 7301080 [] RtW XW i tg st h u v → AW p l e room_1 s m ag below meth c Q 10 D ca A b0 lb fx pc ls st h u v
/-- at a cut: from there on all is well -/
def KA (p : Program) (l : Launch) (e : Env) (s : State) (m : MethodId) (ag : Array Value) (below : List Frame) (meth : Method) (c : Code) (Q : State → Prop) (D : va_G) (ca : Nat → ClassId) (A : Nat → Prop) (b0 : B0) (lb : Nat) : AKK := fun pc vs h u v => AW p l e room_1 s m ag below meth c Q 10 D ca A b0 lb true pc (lmk 0 10 ((look cutL pc).getD []) vs) [] h u v
theorem lw_snd0 {fx : Bool} {n : Int} {SX : Int → Int} (K : LwK p l e s m ag below meth c Q D ca A b0 lb sa sv n SX) {S : Nat → CS} (hM : ∀ k, MetS l D ca lb sa sv (tMR k) fx (S k)) {cur : List (Nat × Row)} (hcur : cur.all (rowB 11 10 false code) = true)
    {KK : AKK} (hK : ∀ pc live vs h u v, look cutL pc = some live → KK pc vs h u v → (∀ x ∈ vs, vok (hN h) x) → hok h → AW p l e room_1 s m ag below meth c Q 10 D ca A b0 lb fx pc (lmk 0 10 live vs) [] h u v) {f pc : Nat} {ls : LSt} {h : Hp} {u v : Nat}
    (ha : aw fx 2 600130 7301080 100 S [] RtW XW (some n) SX [] cutL KK f cur pc ls [] h u v) : AW p l e room_1 s m ag below meth c Q 10 D ca A b0 lb fx pc ls [] h u v := by
  obtain ⟨k1, k2, ⟨n0, n1, k3⟩, k4, k5⟩ := K
  refine aw_sound (own := 11) (mi := false) (hh := []) (hd := []) (ps := []) (rk := 2) (Rt := RtW) (X := XW) k1 (SL := some n) (SX := SX) ?_ (fun q => by cases q) (by rw [k4]; rfl) (by rfl) ?_ k5 mrB_all (S := S) (fun k _ => hM k) (code := []) (fun q hq => absurd hq List.not_mem_nil) (cut := cutL) (KK := KK) ?_ f cur (fun q hq => List.all_eq_true.mp hcur q hq) pc ls [] h u v ha
  · intro n9 e9
    cases e9
    exact ⟨n0, ⟨by omega, by omega⟩, k3⟩
  · intro _ E h1 ad1 H1 locs1 u1 v1 pc q9 ce L rs ad h A1 H locs ls st C e0 hA1 hE hX
    exact hX.elim
  · intro pc live vs h u v hl hk hv hh hf
    exact hK pc live vs h u v hl hk hv hh
theorem lw_snd {n : Int} {SX : Int → Int} (K : LwK p l e s m ag below meth c Q D ca A b0 lb sa sv n SX) {cur : List (Nat × Row)} (hcur : cur.all (rowB 11 10 false code) = true) {f pc : Nat} {ls : LSt} {h : Hp} {u v : Nat}
    (ha : aw true 2 600130 7301080 100 (sp clW) [] RtW XW (some n) SX [] cutL (KA p l e s m ag below meth c Q D ca A b0 lb) f cur pc ls [] h u v) : AW p l e room_1 s m ag below meth c Q 10 D ca A b0 lb true pc ls [] h u v :=
  lw_snd0 K (fun k => sp_met mm_clW K.2.1 k) hcur (fun pc live vs h u v hl hk _ _ => by
    unfold KA at hk
    rw [hl] at hk
    exact hk) ha
theorem lw_end {n : Int} {SX : Int → Int} (K : LwK p l e s m ag below meth c Q D ca A b0 lb sa sv n SX) {h : Hp} {w ps : Int → Int} {t : Int} {u v : Nat} (bu : u ≤ 500000) (bv : v ≤ 7000000) (hC : CI h w ps t) (hI : Iv w 6) :
    KA p l e s m ag below meth c Q D ca A b0 lb 383 [aX 1000, aX 0, .inl 1] h u v :=
  lw_snd K k_LH (w_LH bu bv hC hI)
theorem lw_two {n : Int} {SX : Int → Int} (K : LwK p l e s m ag below meth c Q D ca A b0 lb sa sv n SX) : ∀ (k : Nat) (t : Int) (h : Hp) (w ps : Int → Int) (r : Int) (u v : Nat), 6 - t = k → 0 ≤ t → CI h w ps r → Iv w t → (u : Int) ≤ 1000 + 110 * t → (v : Int) ≤ 100000 + 42000 * t →
    KA p l e s m ag below meth c Q D ca A b0 lb 168 [aX 1000, aX 0, .inl 1, .inl t] h u v := by
  intro k
  induction k with
  | zero =>
    intro t h w ps r u v hk t0 hC hI bu bv
    exact lw_snd K k_LE (w_LE (by omega) (by omega) t0 (by omega) hC hI (fun z => lw_end K (by omega) (by omega) hC (hI.le (by omega))) (fun z => absurd z (by omega)))
  | succ k ih =>
    intro t h w ps r u v hk t0 hC hI bu bv
    refine lw_snd K k_LE (w_LE (by omega) (by omega) t0 (by omega) hC hI (fun z => absurd z (by omega)) (fun z g w1 ps1 r1 y a b x d u1 v1 c1 i1 ha hb hd hx bu1 bv1 => ?_))
    refine lw_snd K k_LF (w_LF (by omega) (by omega) z c1 i1 hx (fun g2 w2 ps2 r2 u2 v2 c2 i2 n2 d2 bu2 bv2 => ?_))
    refine lw_snd K k_LG (w_LG (by omega) (by omega) t0 z c2 i2 ⟨ha.1, by omega⟩ ⟨hb.1, by omega⟩ (hd.trans (d2 a ha.1 ha.2).symm) (fun g3 w3 ps3 r3 u3 v3 c3 i3 bu3 bv3 => ?_))
    exact ih (t + 1) g3 w3 ps3 r3 u3 v3 (by omega) (by omega) c3 i3 (by omega) (by omega)
theorem lw_one {n : Int} {SX : Int → Int} (K : LwK p l e s m ag below meth c Q D ca A b0 lb sa sv n SX) : ∀ (k : Nat) (t : Int) (h : Hp) (w ps : Int → Int) (r : Int) (u v : Nat), 10 - t = k → 0 ≤ t → CI h w ps r → Iv w 0 → (u : Int) ≤ 200 + 16 * t → (v : Int) ≤ 30000 + 96 * t →
    KA p l e s m ag below meth c Q D ca A b0 lb 136 [aX 1000, aX 0, .inl 1, .inl t] h u v := by
  intro k
  induction k with
  | zero =>
    intro t h w ps r u v hk t0 hC hI bu bv
    exact lw_snd K k_LD (w_LD (by omega) (by omega) t0 (by omega) hC hI (fun z => lw_two K 6 0 h w ps r u v (by decide) (by decide) hC hI (by omega) (by omega)) (fun z => absurd z (by omega)))
  | succ k ih =>
    intro t h w ps r u v hk t0 hC hI bu bv
    refine lw_snd K k_LD (w_LD (by omega) (by omega) t0 (by omega) hC hI (fun z => absurd z (by omega)) (fun z g w1 ps1 r1 u1 v1 c1 i1 bu1 bv1 => ?_))
    exact ih (t + 1) g w1 ps1 r1 u1 v1 (by omega) (by omega) c1 i1 (by omega) (by omega)
theorem lw_all {n : Int} {SX : Int → Int} (K : LwK p l e s m ag below meth c Q D ca A b0 lb sa sv n SX) : KA p l e s m ag below meth c Q D ca A b0 lb 8 [aX 1000, aX 0] hS 62 3537 := by
  refine lw_snd K k_LB (w_LB (by decide) (by decide) hS_ci (fun g w ps r u v hC hI bu bv => ?_))
  refine lw_snd K k_LC (w_LC (by omega) (by omega) hC hI (fun g1 ps1 r1 u1 v1 c1 bu1 bv1 => ?_))
  exact lw_one K 10 0 g1 w ps1 r1 u1 v1 (by decide) (by decide) c1 hI (by omega) (by omega)
end Law

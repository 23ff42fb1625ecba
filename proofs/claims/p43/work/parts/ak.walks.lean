/-! ===== the law's own walk, in pieces ===== -/
def RtW : Option AV → Hp → Prop := fun r _ => r = some (.inl 1)
def XW : Nat → Hp → Prop := fun _ _ => False
def clW : List (Nat × CS) := [(153, wk s_X9_satisfiable), (158, wk s_X9_models), (163, wk s_X9_core1), (166, wk s_X9_gain), (335, wk s_L_low), (136, wk s_X9_variable), (144, wk s_X9_variables), (336, wk s_L_refused), (339, wk s_L_grows), (143, wk s_X9_nodes), (145, wk s_X9_info), (138, wk s_X9_binary), (164, wk s_X9_wish), (148, wk s_X9_require), (342, wk s_L_areModels), (345, wk s_L_isText), (344, wk s_L_areCompared), (151, wk s_X9_constraints), (149, wk s_X9_push), (137, wk s_X9_constant), (152, wk s_X9_constraint), (150, wk s_X9_pop), (174, wk s_X9_undo)]
theorem mm_clW : allMM clW := ⟨mm_wk m_X9_satisfiable, mm_wk m_X9_models, mm_wk m_X9_core1, mm_wk m_X9_gain, mm_wk m_L_low, mm_wk m_X9_variable, mm_wk m_X9_variables, mm_wk m_L_refused, mm_wk m_L_grows, mm_wk m_X9_nodes, mm_wk m_X9_info, mm_wk m_X9_binary, mm_wk m_X9_wish, mm_wk m_X9_require, mm_wk m_L_areModels, mm_wk m_L_isText, mm_wk m_L_areCompared, mm_wk m_X9_constraints, mm_wk m_X9_push, mm_wk m_X9_constant, mm_wk m_X9_constraint, mm_wk m_X9_pop, mm_wk m_X9_undo, trivial⟩
def cutL : List (Nat × List Nat) := [(8, [0, 1]), (116, [0, 1, 3]), (136, [0, 1, 3, 4]), (168, [0, 1, 3, 4]), (270, [0, 1, 4, 5, 6, 7, 8, 9]), (321, [0, 1, 4, 6, 7, 8]), (383, [0, 1, 3])]
def kt (n : Int) (SX : Int → Int) (K : AKK) (code : List (Nat × Row)) (m : Nat) (tl : List (Nat × Row)) : AK := fun pc1 ls1 st1 h1 c1 s1 => match look cutL pc1 with
  | some live => atcut K live pc1 ls1 st1 h1 c1 s1
  | none => aw true 2 600130 7301080 100 (sp clW) [] RtW XW (some n) SX [] cutL K m tl pc1 ls1 st1 h1 c1 s1
theorem hb_i {c s mc ms ht MC MS HT : Nat} {rest : List AV} (h1 : Nat.ble (catS rest) 8 = true) (h2 : c + mc ≤ MC) (h3 : s + ms ≤ MS) (h4 : Nat.blt ht HT = true) : (Nat.ble (catS rest) 8 && (Nat.ble (c + mc) MC && (Nat.ble (s + ms) MS && Nat.blt ht HT))) = true := by
  rw [h1, h4, Nat.ble_eq_true_of_le h2, Nat.ble_eq_true_of_le h3]
  rfl
theorem hc_i {c s MC MS : Nat} {rest : List AV} (h1 : Nat.ble (catS rest) 8 = true) (h2 : c ≤ MC) (h3 : s ≤ MS) : (Nat.beq 1000 1000 && (Nat.ble (catS rest) 8 && (Nat.ble c MC && (Nat.ble s MS && Nat.blt 0 100)))) = true := by
  rw [h1, Nat.ble_eq_true_of_le h2, Nat.ble_eq_true_of_le h3]
  rfl
theorem hr_i {c s MC MS : Nat} (h2 : c ≤ MC) (h3 : s ≤ MS) : (Nat.ble c MC && Nat.ble s MS) = true := by
  rw [Nat.ble_eq_true_of_le h2, Nat.ble_eq_true_of_le h3]
  rfl
/-- no node, no variable, no constraint -/
theorem WF_z : WF (fun _ => 0) := by
  refine Box.i ⟨⟨by decide, by decide⟩, ⟨by decide, by decide⟩, fun n h0 h1 => absurd h1 (Int.not_lt.mpr h0), fun v h0 h1 => absurd h1 (Int.not_lt.mpr h0), by decide, fun u v h0 h1 h2 => absurd h2 (Int.not_lt.mpr (Int.le_trans h0 (Int.le_of_lt h1))), ⟨by decide, by decide⟩, fun k h0 h1 => absurd h1 (Int.not_lt.mpr h0), ⟨by decide, by decide⟩, ⟨by decide, by decide⟩, fun k h0 h1 => absurd h1 (Int.not_lt.mpr h0), Box.i fun v h0 h1 => absurd h1 (Int.not_lt.mpr h0)⟩
theorem z_nxt : nxt (fun _ => 0) 0 ≠ -1 := by decide +kernel
theorem z_models {h : Hp} {ps : Int → Int} {s : Int} (hC : CI h (fun _ => 0) ps s) : s_X9_models.2 [aX 0, .inl 200] h (Rq 1 h (fun _ => 0) ps s) NoX := by
  have q := q_models hC (l := 200) (by decide) (by decide)
  have e : (if cntB (mdl (fun _ => 0)) (tot (fun _ => 0)).toNat < 200 then cntB (mdl (fun _ => 0)) (tot (fun _ => 0)).toNat else 200) = 1 := by decide +kernel
  rw [e] at q
  exact q
theorem z_gain {h : Hp} {ps : Int → Int} {s : Int} (hC : CI h (fun _ => 0) ps s) : s_X9_gain.2 [aX 0] h (Rq 0 h (fun _ => 0) ps s) NoX := by
  have t : tot (fun _ => 0) = 1 := by decide +kernel
  have m0 : mdl (fun _ => 0) 0 = true := by decide +kernel
  have b : isB (mdl (fun _ => 0)) (gnA (fun _ => 0)) (tot (fun _ => 0)) 0 := Box.i (Or.inr ⟨by decide, by omega, m0, fun N n0 n1 _ => by
    have : N = 0 := by omega
    subst this
    exact ⟨Int.le_refl _, fun _ => Int.le_refl _⟩⟩)
  have q := q_gain hC b
  have e : gnR (fun _ => 0) 0 = 0 := by decide +kernel
  rw [e] at q
  exact q
theorem Vs.go {w : Int → Int} {k m wd k1 m1 : Int} (h : Vs w k m) (hW : WF w) (k3 : k ≤ 3) (w1 : 1 ≤ wd) (z : k = 0 → 2 ≤ wd) (e : k1 = k + 1) (l : m + wd ≤ m1) : Vs (varN w wd) k1 m1 := by
  subst e
  obtain ⟨a1, a2, a3, a4, a5⟩ := (h.var hW k3 w1 z).o
  exact Box.i ⟨a1, a2, a3, by omega, a5⟩
theorem q_areC {h : Hp} {w ps : Int → Int} {s a b : Int} (hC : CI h w ps s) (z : 0 ≤ a ∧ a < w 0 ∧ 0 ≤ b ∧ b < w 0 ∧ nd w a 1 = nd w b 1) : s_L_areCompared.2 [aX 0, .inl a, .inl b] h (Rq 1 h w ps s) NoX := e3 w ps s ⟨hC, z, Rq.go⟩
set_option maxRecDepth 100000 in
set_option maxHeartbeats 4000000 in
theorem w_LB {n : Int} {SX : Int → Int} {K : AKK} {h : Hp} {ps : Int → Int} {s : Int} {u v : Nat} (bu : u ≤ 500000) (bv : v ≤ 7000000) (hC : CI h (fun _ => 0) ps s) (hK : ∀ g w ps s u9 v9, CI g w ps s → Iv w 0 → u9 ≤ u + 8 → v9 ≤ v + 20522 → K 116 [aX 1000, aX 0, .inl 1] g u9 v9) : aw true 2 600130 7301080 100 (sp clW) [] RtW XW (some n) SX [] cutL K 400 code_LB 8 (lmk 0 10 [0, 1] [aX 1000, aX 0]) [] h u v := by
  show ob (Nat.beq 1000 1000 && (Nat.ble (catS []) 8 && (Nat.ble (u) 600130 && (Nat.ble (v) 7301080 && Nat.blt 0 100)))) (0 ≤ 0 ∧ ∀ x : Int, Rng x → (kt n SX K code_LB 397 (code_LB.drop 3)) 13 [some (aX 1000), some (aX 0), none, none, none, none, none, none, none, none] (.inl x :: []) h (u) (v))
  refine ob_i (hc_i (by rfl) (by omega) (by omega)) (And.intro (by omega) (fun x r_x => ?_))
  show doC 600130 7301080 100 (sp clW) [] XW (kt n SX K code_LB 394 (code_LB.drop 6)) 15 18 [some (aX 1000), some (aX 0), some (.inl x), none, none, none, none, none, none, none] h (u) (v) 153 [aX 0] []
  refine dcQ (cs := s_X9_satisfiable) (by rfl) (mc := 0) (ms := 0) (ht := 7) (by rfl) (hb_i (by rfl) (by omega) (by omega) (by rfl)) (q_satT hC z_nxt) ?_
  intro g c k
  refine And.intro (fun e9 => (by omega : False).elim) (fun _ => ?_)
  show doC 600130 7301080 100 (sp clW) [] XW (kt n SX K code_LB 390 (code_LB.drop 10)) 25 28 [some (aX 1000), some (aX 0), some (.inl x), none, none, none, none, none, none, none] g (u + 0) (v + 0) 158 [aX 0, .inl 200] []
  refine dcQ (cs := s_X9_models) (by rfl) (mc := 1) (ms := 6) (ht := 7) (by rfl) (hb_i (by rfl) (by omega) (by omega) (by rfl)) (z_models c) ?_
  intro g c k
  refine And.intro (fun e9 => (by omega : False).elim) (fun _ => ?_)
  show doC 600130 7301080 100 (sp clW) [] XW (kt n SX K code_LB 386 (code_LB.drop 14)) 33 36 [some (aX 1000), some (aX 0), some (.inl x), none, none, none, none, none, none, none] g (u + 0 + 1) (v + 0 + 6) 163 [aX 0] []
  refine dcQ (cs := s_X9_core1) (by rfl) (mc := 1) (ms := 20480) (ht := 7) (by rfl) (hb_i (by rfl) (by omega) (by omega) (by rfl)) (q_coreT c z_nxt) ?_
  intro g c k
  refine And.intro (fun e9 => (by omega : False).elim) (fun _ => ?_)
  show doC 600130 7301080 100 (sp clW) [] XW (kt n SX K code_LB 382 (code_LB.drop 18)) 41 44 [some (aX 1000), some (aX 0), some (.inl x), none, none, none, none, none, none, none] g (u + 0 + 1 + 1) (v + 0 + 6 + 20480) 166 [aX 0] []
  refine dcQ (cs := s_X9_gain) (by rfl) (mc := 0) (ms := 0) (ht := 7) (by rfl) (hb_i (by rfl) (by omega) (by omega) (by rfl)) (z_gain c) ?_
  intro g c k
  refine And.intro (fun e9 => (by omega : False).elim) (fun _ => ?_)
  show doC 600130 7301080 100 (sp clW) [] XW (kt n SX K code_LB 376 (code_LB.drop 24)) 51 54 [some (aX 1000), some (aX 0), some (.inl x), none, none, none, none, none, none, none] g (u + 0 + 1 + 1 + 0) (v + 0 + 6 + 20480 + 0) 335 [.inl x, .inl 3] [.inl 2, aX 0]
  refine dcL (cs := s_L_low) (by rfl) (mc := 0) (ms := 0) (ht := 1) (by rfl) (hb_i (by rfl) (by omega) (by omega) (by rfl)) (q_low (by decide)) ?_
  intro a a0 a1
  refine And.intro ⟨by omega, by omega⟩ ?_
  show doC 600130 7301080 100 (sp clW) [] XW (kt n SX K code_LB 374 (code_LB.drop 26)) 55 58 [some (aX 1000), some (aX 0), some (.inl x), none, none, none, none, none, none, none] g (u + 0 + 1 + 1 + 0 + 0) (v + 0 + 6 + 20480 + 0 + 0) 136 [aX 0, .inl (2 + a)] []
  refine dcQ (cs := s_X9_variable) (by rfl) (mc := 2) (ms := 12) (ht := 4) (by rfl) (hb_i (by rfl) (by omega) (by omega) (by rfl)) (q_var c Vs.z (by decide) (by omega) (by omega) (by omega)) ?_
  intro g c1 k
  have v1 : Vs (varN (fun _ => 0) (2 + a)) 1 4 := Vs.z.go WF_z (by decide) (by omega) (fun _ => by omega) rfl (by omega)
  refine And.intro (fun e9 => (by omega : False).elim) (fun _ => ?_)
  show doC 600130 7301080 100 (sp clW) [] XW (kt n SX K code_LB 366 (code_LB.drop 34)) 67 70 [some (aX 1000), some (aX 0), some (.inl x), none, none, none, none, none, none, none] g (u + 0 + 1 + 1 + 0 + 0 + 2) (v + 0 + 6 + 20480 + 0 + 0 + 12) 335 [.inl (sShr x 2), .inl 3] [.inl 1, aX 0]
  refine dcL (cs := s_L_low) (by rfl) (mc := 0) (ms := 0) (ht := 1) (by rfl) (hb_i (by rfl) (by omega) (by omega) (by rfl)) (q_low (by decide)) ?_
  intro b b0 b1
  refine And.intro ⟨by omega, by omega⟩ ?_
  show doC 600130 7301080 100 (sp clW) [] XW (kt n SX K code_LB 364 (code_LB.drop 36)) 71 74 [some (aX 1000), some (aX 0), some (.inl x), none, none, none, none, none, none, none] g (u + 0 + 1 + 1 + 0 + 0 + 2 + 0) (v + 0 + 6 + 20480 + 0 + 0 + 12 + 0) 136 [aX 0, .inl (1 + b)] []
  refine dcQ (cs := s_X9_variable) (by rfl) (mc := 2) (ms := 12) (ht := 4) (by rfl) (hb_i (by rfl) (by omega) (by omega) (by rfl)) (q_var c1 v1 (by decide) (by omega) (by omega) (by omega)) ?_
  intro g c2 k
  have v2 : Vs (varN (varN (fun _ => 0) (2 + a)) (1 + b)) 2 7 := v1.go c1.wf (by decide) (by omega) (fun q => absurd q (by decide)) rfl (by omega)
  have e2 := v2.o.2.2.1
  refine And.intro (fun e9 => (by omega : False).elim) (fun _ => ?_)
  show doC 600130 7301080 100 (sp clW) [] XW (kt n SX K code_LB 360 (code_LB.drop 40)) 79 82 [some (aX 1000), some (aX 0), some (.inl x), none, none, none, none, none, none, none] g (u + 0 + 1 + 1 + 0 + 0 + 2 + 0 + 2) (v + 0 + 6 + 20480 + 0 + 0 + 12 + 0 + 12) 144 [aX 0] []
  refine dcH (cs := s_X9_variables) (by rfl) (mc := 0) (ms := 0) (ht := 2) (by rfl) (hb_i (by rfl) (by omega) (by omega) (by rfl)) (q_variables c2) ?_
  refine And.intro (fun e9 => (by omega : False).elim) (fun _ => ?_)
  show doC 600130 7301080 100 (sp clW) [] XW (kt n SX K code_LB 350 (code_LB.drop 51)) 96 99 [some (aX 1000), some (aX 0), some (.inl x), some (.inl 1), none, none, none, none, none, none] g (u + 0 + 1 + 1 + 0 + 0 + 2 + 0 + 2 + 0) (v + 0 + 6 + 20480 + 0 + 0 + 12 + 0 + 12 + 0) 335 [.inl (sShr x 4), .inl 2] []
  refine dcL (cs := s_L_low) (by rfl) (mc := 0) (ms := 0) (ht := 1) (by rfl) (hb_i (by rfl) (by omega) (by omega) (by rfl)) (q_low (by decide)) ?_
  intro d d0 d1
  refine And.intro (fun y1 => ?_) (fun y2 => ?_)
  · show K 116 [aX 1000, aX 0, .inl 1] g (u + 0 + 1 + 1 + 0 + 0 + 2 + 0 + 2 + 0 + 0) (v + 0 + 6 + 20480 + 0 + 0 + 12 + 0 + 12 + 0 + 0)
    exact hK _ _ _ _ _ _ c2 (v2.iv (by decide) (by decide)) (by omega) (by omega)
  · show doC 600130 7301080 100 (sp clW) [] XW (kt n SX K code_LB 342 (code_LB.drop 59)) 108 111 [some (aX 1000), some (aX 0), some (.inl x), some (.inl 1), none, none, none, none, none, none] g (u + 0 + 1 + 1 + 0 + 0 + 2 + 0 + 2 + 0 + 0) (v + 0 + 6 + 20480 + 0 + 0 + 12 + 0 + 12 + 0 + 0) 335 [.inl (sShr x 5), .inl 2] [.inl 1, aX 0]
    refine dcL (cs := s_L_low) (by rfl) (mc := 0) (ms := 0) (ht := 1) (by rfl) (hb_i (by rfl) (by omega) (by omega) (by rfl)) (q_low (by decide)) ?_
    intro f f0 f1
    refine And.intro ⟨by omega, by omega⟩ ?_
    show doC 600130 7301080 100 (sp clW) [] XW (kt n SX K code_LB 340 (code_LB.drop 61)) 112 115 [some (aX 1000), some (aX 0), some (.inl x), some (.inl 1), none, none, none, none, none, none] g (u + 0 + 1 + 1 + 0 + 0 + 2 + 0 + 2 + 0 + 0 + 0) (v + 0 + 6 + 20480 + 0 + 0 + 12 + 0 + 12 + 0 + 0 + 0) 136 [aX 0, .inl (1 + f)] []
    refine dcQ (cs := s_X9_variable) (by rfl) (mc := 2) (ms := 12) (ht := 4) (by rfl) (hb_i (by rfl) (by omega) (by omega) (by rfl)) (q_var c2 v2 (by decide) (by omega) (by omega) (by omega)) ?_
    intro g c3 k
    have v3 : Vs (varN (varN (varN (fun _ => 0) (2 + a)) (1 + b)) (1 + f)) 3 9 := v2.go c2.wf (by decide) (by omega) (fun q => absurd q (by decide)) rfl (by omega)
    show K 116 [aX 1000, aX 0, .inl 1] g (u + 0 + 1 + 1 + 0 + 0 + 2 + 0 + 2 + 0 + 0 + 0 + 2) (v + 0 + 6 + 20480 + 0 + 0 + 12 + 0 + 12 + 0 + 0 + 0 + 12)
    exact hK _ _ _ _ _ _ c3 (v3.iv (by decide) (by decide)) (by omega) (by omega)
set_option maxRecDepth 100000 in
set_option maxHeartbeats 4000000 in
theorem w_LC {n : Int} {SX : Int → Int} {K : AKK} {h : Hp} {w ps : Int → Int} {s : Int} {u v : Nat} (bu : u ≤ 500000) (bv : v ≤ 7000000) (hC : CI h w ps s) (hI : Iv w 0) (hK : ∀ g ps s u9 v9, CI g w ps s → u9 ≤ u + 57 → v9 ≤ v + 342 → K 136 [aX 1000, aX 0, .inl 1, .inl 0] g u9 v9) : aw true 2 600130 7301080 100 (sp clW) [] RtW XW (some n) SX [] cutL K 400 code_LC 116 (lmk 0 10 [0, 1, 3] [aX 1000, aX 0, .inl 1]) [] h u v := by
  refine And.intro (fun e9 => (by omega : False).elim) (fun _ => ?_)
  show doC 600130 7301080 100 (sp clW) [] XW (kt n SX K code_LC 396 (code_LC.drop 4)) 121 124 [some (aX 1000), some (aX 0), none, some (.inl 1), none, none, none, none, none, none] h (u) (v) 336 [aX 0] []
  refine dcQ (cs := s_L_refused) (by rfl) (mc := 57) (ms := 342) (ht := 94) (by rfl) (hb_i (by rfl) (by omega) (by omega) (by rfl)) (q_refused hC hI.ref) ?_
  intro g c k
  refine And.intro (fun e9 => (by omega : False).elim) (fun _ => ?_)
  show K 136 [aX 1000, aX 0, .inl 1, .inl 0] g (u + 57) (v + 342)
  exact hK _ _ _ _ _ c (by omega) (by omega)
set_option maxRecDepth 100000 in
set_option maxHeartbeats 4000000 in
theorem w_LD {n : Int} {SX : Int → Int} {K : AKK} {h : Hp} {w ps : Int → Int} {s t : Int} {u v : Nat} (bu : u ≤ 500000) (bv : v ≤ 7000000) (t0 : 0 ≤ t) (t1 : t ≤ 10) (hC : CI h w ps s) (hI : Iv w 0) (hE : t = 10 → K 168 [aX 1000, aX 0, .inl 1, .inl 0] h u v) (hK : t < 10 → ∀ g w ps s u9 v9, CI g w ps s → Iv w 0 → u9 ≤ u + 16 → v9 ≤ v + 96 → K 136 [aX 1000, aX 0, .inl 1, .inl (t + 1)] g u9 v9) : aw true 2 600130 7301080 100 (sp clW) [] RtW XW (some n) SX [] cutL K 400 code_LD 136 (lmk 0 10 [0, 1, 3, 4] [aX 1000, aX 0, .inl 1, .inl t]) [] h u v := by
  refine And.intro (fun y1 => ?_) (fun y2 => ?_)
  · show K 168 [aX 1000, aX 0, .inl 1, .inl 0] h (u) (v)
    exact hE (by omega)
  · refine And.intro (fun e9 => (by omega : False).elim) (fun _ => ?_)
    refine And.intro ⟨by omega, by omega⟩ ?_
    show ob (Nat.beq 1000 1000 && (Nat.ble (catS [aX 0]) 8 && (Nat.ble (u) 600130 && (Nat.ble (v) 7301080 && Nat.blt 0 100)))) (0 ≤ 1 + t ∧ ∀ x : Int, Rng x → (kt n SX K code_LD 389 (code_LD.drop 11)) 156 [some (aX 1000), some (aX 0), none, some (.inl 1), some (.inl t), none, none, none, none, none] (.inl x :: [aX 0]) h (u) (v))
    refine ob_i (hc_i (by rfl) (by omega) (by omega)) (And.intro (by omega) (fun x r_x => ?_))
    show doC 600130 7301080 100 (sp clW) [] XW (kt n SX K code_LD 388 (code_LD.drop 12)) 156 159 [some (aX 1000), some (aX 0), none, some (.inl 1), some (.inl t), none, none, none, none, none] h (u) (v) 339 [aX 0, .inl x] []
    refine dcN (cs := s_L_grows) (by rfl) (mc := 16) (ms := 96) (ht := 7) (by rfl) (hb_i (by rfl) (by omega) (by omega) (by rfl)) (q_grows hC hI.o.2.1 hI.o.1) ?_
    intro w1 p1 s1 g c k q
    refine And.intro ⟨by omega, by omega⟩ ?_
    show K 136 [aX 1000, aX 0, .inl 1, .inl (t + 1)] g (u + 16) (v + 96)
    exact hK (by omega) _ _ _ _ _ _ c (hI.gw q) (by omega) (by omega)
set_option maxRecDepth 100000 in
set_option maxHeartbeats 4000000 in
theorem w_LE {n : Int} {SX : Int → Int} {K : AKK} {h : Hp} {w ps : Int → Int} {s t : Int} {u v : Nat} (bu : u ≤ 500000) (bv : v ≤ 7000000) (t0 : 0 ≤ t) (t1 : t ≤ 6) (hC : CI h w ps s) (hI : Iv w t) (hE : t = 6 → K 383 [aX 1000, aX 0, .inl 1] h u v) (hK : t < 6 → ∀ g w1 ps s y a b c d u9 v9, CI g w1 ps s → Iv w1 t → 0 ≤ a ∧ a < w1 0 → 0 ≤ b ∧ b < w1 0 → d = nd w1 a 1 → (c = -1 ∨ (0 ≤ c ∧ c < w1 0 ∧ nd w1 c 1 = 1)) → u9 ≤ u + 8 → v9 ≤ v + 48 → K 270 [aX 1000, aX 0, .inl t, .inl y, .inl a, .inl b, .inl d, .inl c] g u9 v9) : aw true 2 600130 7301080 100 (sp clW) [] RtW XW (some n) SX [] cutL K 400 code_LE 168 (lmk 0 10 [0, 1, 3, 4] [aX 1000, aX 0, .inl 1, .inl t]) [] h u v := by
  have hU := hI.o.1
  have n2 := hI.o.2.1
  refine And.intro (fun y1 => ?_) (fun y2 => ?_)
  · show K 383 [aX 1000, aX 0, .inl 1] h (u) (v)
    exact hE (by omega)
  · refine And.intro (fun e9 => (by omega : False).elim) (fun _ => ?_)
    refine And.intro ⟨by omega, by omega⟩ ?_
    show ob (Nat.beq 1000 1000 && (Nat.ble (catS []) 8 && (Nat.ble (u) 600130 && (Nat.ble (v) 7301080 && Nat.blt 0 100)))) (0 ≤ 11 + t ∧ ∀ x : Int, Rng x → (kt n SX K code_LE 390 (code_LE.drop 10)) 188 [some (aX 1000), some (aX 0), none, some (.inl 1), some (.inl t), none, none, none, none, none] (.inl x :: []) h (u) (v))
    refine ob_i (hc_i (by rfl) (by omega) (by omega)) (And.intro (by omega) (fun y r_y => ?_))
    show doC 600130 7301080 100 (sp clW) [] XW (kt n SX K code_LE 386 (code_LE.drop 14)) 193 196 [some (aX 1000), some (aX 0), none, some (.inl 1), some (.inl t), some (.inl y), none, none, none, none] h (u) (v) 143 [aX 0] [.inl y]
    refine dcH (cs := s_X9_nodes) (by rfl) (mc := 0) (ms := 0) (ht := 2) (by rfl) (hb_i (by rfl) (by omega) (by omega) (by rfl)) (q_nodes hC) ?_
    show doC 600130 7301080 100 (sp clW) [] XW (kt n SX K code_LE 385 (code_LE.drop 15)) 196 199 [some (aX 1000), some (aX 0), none, some (.inl 1), some (.inl t), some (.inl y), none, none, none, none] h (u + 0) (v + 0) 335 [.inl y, .inl (w 0)] []
    refine dcL (cs := s_L_low) (by rfl) (mc := 0) (ms := 0) (ht := 1) (by rfl) (hb_i (by rfl) (by omega) (by omega) (by rfl)) (q_low (by omega)) ?_
    intro a a0 a1
    show doC 600130 7301080 100 (sp clW) [] XW (kt n SX K code_LE 379 (code_LE.drop 21)) 206 209 [some (aX 1000), some (aX 0), none, some (.inl 1), some (.inl t), some (.inl y), some (.inl a), none, none, none] h (u + 0 + 0) (v + 0 + 0) 143 [aX 0] [.inl (sShr y 5)]
    refine dcH (cs := s_X9_nodes) (by rfl) (mc := 0) (ms := 0) (ht := 2) (by rfl) (hb_i (by rfl) (by omega) (by omega) (by rfl)) (q_nodes hC) ?_
    show doC 600130 7301080 100 (sp clW) [] XW (kt n SX K code_LE 378 (code_LE.drop 22)) 209 212 [some (aX 1000), some (aX 0), none, some (.inl 1), some (.inl t), some (.inl y), some (.inl a), none, none, none] h (u + 0 + 0 + 0) (v + 0 + 0 + 0) 335 [.inl (sShr y 5), .inl (w 0)] []
    refine dcL (cs := s_L_low) (by rfl) (mc := 0) (ms := 0) (ht := 1) (by rfl) (hb_i (by rfl) (by omega) (by omega) (by rfl)) (q_low (by omega)) ?_
    intro b b0 b1
    show doC 600130 7301080 100 (sp clW) [] XW (kt n SX K code_LE 373 (code_LE.drop 27)) 218 221 [some (aX 1000), some (aX 0), none, some (.inl 1), some (.inl t), some (.inl y), some (.inl a), some (.inl b), none, none] h (u + 0 + 0 + 0 + 0) (v + 0 + 0 + 0 + 0) 145 [aX 0, .inl a, .inl 1] []
    refine dcH (cs := s_X9_info) (by rfl) (mc := 2) (ms := 12) (ht := 3) (by rfl) (hb_i (by rfl) (by omega) (by omega) (by rfl)) (q_width hC a0 a1) ?_
    show doC 600130 7301080 100 (sp clW) [] XW (kt n SX K code_LE 367 (code_LE.drop 33)) 229 232 [some (aX 1000), some (aX 0), none, some (.inl 1), some (.inl t), some (.inl y), some (.inl a), some (.inl b), some (.inl (nd w a 1)), none] h (u + 0 + 0 + 0 + 0 + 2) (v + 0 + 0 + 0 + 0 + 12) 145 [aX 0, .inl b, .inl 1] [.inl (nd w a 1)]
    refine dcH (cs := s_X9_info) (by rfl) (mc := 2) (ms := 12) (ht := 3) (by rfl) (hb_i (by rfl) (by omega) (by omega) (by rfl)) (q_width hC b0 b1) ?_
    refine And.intro (fun e3 => ?_) (fun e4 => ?_)
    · show K 270 [aX 1000, aX 0, .inl t, .inl y, .inl a, .inl b, .inl (nd w a 1), .inl (-1)] h (u + 0 + 0 + 0 + 0 + 2 + 2) (v + 0 + 0 + 0 + 0 + 12 + 12)
      exact hK (by omega) _ _ _ _ _ _ _ _ _ _ _ hC hI ⟨a0, a1⟩ ⟨b0, b1⟩ rfl (Or.inl rfl) (by omega) (by omega)
    · show doC 600130 7301080 100 (sp clW) [] XW (kt n SX K code_LE 364 (code_LE.drop 36)) 236 239 [some (aX 1000), some (aX 0), none, some (.inl 1), some (.inl t), some (.inl y), some (.inl a), some (.inl b), some (.inl (nd w a 1)), none] h (u + 0 + 0 + 0 + 0 + 2 + 2) (v + 0 + 0 + 0 + 0 + 12 + 12) 143 [aX 0] []
      refine dcH (cs := s_X9_nodes) (by rfl) (mc := 0) (ms := 0) (ht := 2) (by rfl) (hb_i (by rfl) (by omega) (by omega) (by rfl)) (q_nodes hC) ?_
      refine And.intro (fun e5 => ?_) (fun e6 => ?_)
      · show K 270 [aX 1000, aX 0, .inl t, .inl y, .inl a, .inl b, .inl (nd w a 1), .inl (-1)] h (u + 0 + 0 + 0 + 0 + 2 + 2 + 0) (v + 0 + 0 + 0 + 0 + 12 + 12 + 0)
        exact hK (by omega) _ _ _ _ _ _ _ _ _ _ _ hC hI ⟨a0, a1⟩ ⟨b0, b1⟩ rfl (Or.inl rfl) (by omega) (by omega)
      · show doC 600130 7301080 100 (sp clW) [] XW (kt n SX K code_LE 355 (code_LE.drop 45)) 253 256 [some (aX 1000), some (aX 0), none, some (.inl 1), some (.inl t), some (.inl y), some (.inl a), some (.inl b), some (.inl (nd w a 1)), none] h (u + 0 + 0 + 0 + 0 + 2 + 2 + 0) (v + 0 + 0 + 0 + 0 + 12 + 12 + 0) 335 [.inl (sShr y 10), .inl 5] [.inl 13, aX 0]
        refine dcL (cs := s_L_low) (by rfl) (mc := 0) (ms := 0) (ht := 1) (by rfl) (hb_i (by rfl) (by omega) (by omega) (by rfl)) (q_low (by decide)) ?_
        intro r r0 r1
        refine And.intro ⟨by omega, by omega⟩ ?_
        show doC 600130 7301080 100 (sp clW) [] XW (kt n SX K code_LE 351 (code_LE.drop 49)) 261 264 [some (aX 1000), some (aX 0), none, some (.inl 1), some (.inl t), some (.inl y), some (.inl a), some (.inl b), some (.inl (nd w a 1)), none] h (u + 0 + 0 + 0 + 0 + 2 + 2 + 0 + 0) (v + 0 + 0 + 0 + 0 + 12 + 12 + 0 + 0) 138 [aX 0, .inl (13 + r), .inl a, .inl b] []
        refine dcE (cs := s_X9_binary) (by rfl) (mc := 4) (ms := 24) (ht := 5) (by rfl) (hb_i (by rfl) (by omega) (by omega) (by rfl)) (q_binary hC hU (by omega) ⟨by omega, by omega⟩ ⟨a0, a1, b0, b1⟩ (Or.inr ⟨by omega, by omega⟩)) ?_
        intro x w1 p1 s1 g c k m
        obtain ⟨m1, m2, m3, m4⟩ := m
        have n1 := m1.n0
        have wa := m1.wd a0 a1
        have bw : bW w (13 + r) a b = 1 := by unfold bW; rw [if_neg (by omega), if_pos (by omega)]
        show K 270 [aX 1000, aX 0, .inl t, .inl y, .inl a, .inl b, .inl (nd w a 1), .inl x] g (u + 0 + 0 + 0 + 0 + 2 + 2 + 0 + 0 + 4) (v + 0 + 0 + 0 + 0 + 12 + 12 + 0 + 0 + 24)
        exact hK (by omega) _ _ _ _ _ _ _ _ _ _ _ c (hI.gr m1 (by omega)) ⟨a0, by omega⟩ ⟨b0, by omega⟩ wa.symm (Or.inr ⟨m2, m3, m4.trans bw⟩) (by omega) (by omega)
set_option maxRecDepth 100000 in
set_option maxHeartbeats 4000000 in
theorem w_LF {n : Int} {SX : Int → Int} {K : AKK} {h : Hp} {w ps : Int → Int} {s t y a b d x : Int} {u v : Nat} (bu : u ≤ 500000) (bv : v ≤ 7000000) (t1 : t < 6) (hC : CI h w ps s) (hI : Iv w t) (hx : x = -1 ∨ (0 ≤ x ∧ x < w 0 ∧ nd w x 1 = 1)) (hK : ∀ g w1 ps s u9 v9, CI g w1 ps s → Iv w1 (t + 1) → w1 0 = w 0 → (∀ n, 0 ≤ n → n < w 0 → nd w1 n 1 = nd w n 1) → u9 ≤ u + 2 → v9 ≤ v + 12 → K 321 [aX 1000, aX 0, .inl t, .inl a, .inl b, .inl d] g u9 v9) : aw true 2 600130 7301080 100 (sp clW) [] RtW XW (some n) SX [] cutL K 400 code_LF 270 (lmk 0 10 [0, 1, 4, 5, 6, 7, 8, 9] [aX 1000, aX 0, .inl t, .inl y, .inl a, .inl b, .inl d, .inl x]) [] h u v := by
  have hW := hC.wf
  have cn := hW.cn
  have wn := hW.wn
  have a7 := hI.o.2.2.2.2.2.2.1
  refine And.intro (fun e1 => ?_) (fun e2 => ?_)
  · refine And.intro (fun _ => ?_) (fun e9 => (by omega : False).elim)
    show K 321 [aX 1000, aX 0, .inl t, .inl a, .inl b, .inl d] h (u) (v)
    exact hK _ _ _ _ _ _ hC (hI.le (by omega)) rfl (fun _ _ _ => rfl) (by omega) (by omega)
  · obtain ⟨x0, x1, x2⟩ : 0 ≤ x ∧ x < w 0 ∧ nd w x 1 = 1 := hx.resolve_left (by omega)
    show doC 600130 7301080 100 (sp clW) [] XW (kt n SX K code_LF 393 (code_LF.drop 7)) 281 284 [some (aX 1000), some (aX 0), none, none, some (.inl t), some (.inl y), some (.inl a), some (.inl b), some (.inl d), some (.inl x)] h (u) (v) 335 [.inl (sShr y 13), .inl 3] []
    refine dcL (cs := s_L_low) (by rfl) (mc := 0) (ms := 0) (ht := 1) (by rfl) (hb_i (by rfl) (by omega) (by omega) (by rfl)) (q_low (by decide)) ?_
    intro z z0 z1
    refine And.intro (fun e3 => ?_) (fun e4 => ?_)
    · refine And.intro (fun e9 => (by omega : False).elim) (fun _ => ?_)
      show doC 600130 7301080 100 (sp clW) [] XW (kt n SX K code_LF 382 (code_LF.drop 23)) 313 316 [some (aX 1000), some (aX 0), none, none, some (.inl t), some (.inl y), some (.inl a), some (.inl b), some (.inl d), some (.inl x)] h (u + 0) (v + 0) 335 [.inl (sShr y 15), .inl 9] [.inl 1, .inl x, aX 0]
      refine dcL (cs := s_L_low) (by rfl) (mc := 0) (ms := 0) (ht := 1) (by rfl) (hb_i (by rfl) (by omega) (by omega) (by rfl)) (q_low (by decide)) ?_
      intro r r0 r1
      refine And.intro ⟨by omega, by omega⟩ ?_
      show doC 600130 7301080 100 (sp clW) [] XW (kt n SX K code_LF 380 (code_LF.drop 25)) 317 320 [some (aX 1000), some (aX 0), none, none, some (.inl t), some (.inl y), some (.inl a), some (.inl b), some (.inl d), some (.inl x)] h (u + 0 + 0) (v + 0 + 0) 164 [aX 0, .inl x, .inl (1 + r)] []
      refine dcQ (cs := s_X9_wish) (by rfl) (mc := 2) (ms := 12) (ht := 4) (by rfl) (hb_i (by rfl) (by omega) (by omega) (by rfl)) (q_wish hC ⟨x0, x1⟩ ⟨x2, by omega, by omega⟩ (by omega)) ?_
      intro g c k
      have q := (Hi.wish hW x (1 + r)).nx hW
      show K 321 [aX 1000, aX 0, .inl t, .inl a, .inl b, .inl d] g (u + 0 + 0 + 2) (v + 0 + 0 + 12)
      exact hK _ _ _ _ _ _ c (hI.wish hW (by omega) x (1 + r)) q.2.1 (fun n n0 n1 => q.1.n n0 n1 (by decide) (by decide)) (by omega) (by omega)
    · show doC 600130 7301080 100 (sp clW) [] XW (kt n SX K code_LF 389 (code_LF.drop 11)) 290 293 [some (aX 1000), some (aX 0), none, none, some (.inl t), some (.inl y), some (.inl a), some (.inl b), some (.inl d), some (.inl x)] h (u + 0) (v + 0) 148 [aX 0, .inl x] []
      refine dcQ (cs := s_X9_require) (by rfl) (mc := 2) (ms := 12) (ht := 4) (by rfl) (hb_i (by rfl) (by omega) (by omega) (by rfl)) (q_req hC ⟨x0, x1⟩ x2 (by omega)) ?_
      intro g c k
      have q := (Hi.req hW x).nx hW
      show K 321 [aX 1000, aX 0, .inl t, .inl a, .inl b, .inl d] g (u + 0 + 2) (v + 0 + 12)
      exact hK _ _ _ _ _ _ c (hI.req hW (by omega) x) q.2.1 (fun n n0 n1 => q.1.n n0 n1 (by decide) (by decide)) (by omega) (by omega)
set_option maxRecDepth 100000 in
set_option maxHeartbeats 4000000 in
theorem w_LG {n : Int} {SX : Int → Int} {K : AKK} {h : Hp} {w ps : Int → Int} {s t a b d : Int} {u v : Nat} (bu : u ≤ 500000) (bv : v ≤ 7000000) (t0 : 0 ≤ t) (t1 : t < 6) (hC : CI h w ps s) (hI : Iv w (t + 1)) (ha : 0 ≤ a ∧ a < w 0) (hb : 0 ≤ b ∧ b < w 0) (hd : d = nd w a 1) (hK : ∀ g w ps s u9 v9, CI g w ps s → Iv w (t + 1) → u9 ≤ u + 90 → v9 ≤ v + 41500 → K 168 [aX 1000, aX 0, .inl 1, .inl (t + 1)] g u9 v9) : aw true 2 600130 7301080 100 (sp clW) [] RtW XW (some n) SX [] cutL K 400 code_LG 321 (lmk 0 10 [0, 1, 4, 6, 7, 8] [aX 1000, aX 0, .inl t, .inl a, .inl b, .inl d]) [] h u v := by
  show doC 600130 7301080 100 (sp clW) [] XW (kt n SX K code_LG 397 (code_LG.drop 3)) 324 327 [some (aX 1000), some (aX 0), none, none, some (.inl t), none, some (.inl a), some (.inl b), some (.inl d), none] h (u) (v) 342 [aX 0, .inl a] []
  refine dcV (cs := s_L_areModels) (by rfl) (mc := 31) (ms := 20660) (ht := 10) (by rfl) (hb_i (by rfl) (by omega) (by omega) (by rfl)) (q_areM hC ha) ?_
  intro g1 y1
  obtain ⟨w1, p1, s1, c1, i1⟩ := y1
  have I1 := hI.ipt hC.wf i1
  have z1 := i1.nx hC.wf
  refine And.intro (fun e9 => (by omega : False).elim) (fun _ => ?_)
  show doC 600130 7301080 100 (sp clW) [] XW (kt n SX K code_LG 393 (code_LG.drop 7)) 333 336 [some (aX 1000), some (aX 0), none, none, some (.inl t), none, some (.inl a), some (.inl b), some (.inl d), none] g1 (u + 31) (v + 20660) 342 [aX 0, .inl b] []
  refine dcV (cs := s_L_areModels) (by rfl) (mc := 31) (ms := 20660) (ht := 10) (by rfl) (hb_i (by rfl) (by omega) (by omega) (by rfl)) (q_areM c1 ⟨hb.1, by omega⟩) ?_
  intro g2 y2
  obtain ⟨w2, p2, s2, c2, i2⟩ := y2
  have I2 := I1.ipt c1.wf i2
  have z2 := i2.nx c1.wf
  refine And.intro (fun e9 => (by omega : False).elim) (fun _ => ?_)
  show doC 600130 7301080 100 (sp clW) [] XW (kt n SX K code_LG 389 (code_LG.drop 11)) 342 345 [some (aX 1000), some (aX 0), none, none, some (.inl t), none, some (.inl a), some (.inl b), some (.inl d), none] g2 (u + 31 + 31) (v + 20660 + 20660) 345 [aX 0, .inl a] []
  refine dcV (cs := s_L_isText) (by rfl) (mc := 4) (ms := 24) (ht := 94) (by rfl) (hb_i (by rfl) (by omega) (by omega) (by rfl)) (q_isText c2 ⟨ha.1, by omega⟩ I2.o.1) ?_
  intro g3 y3
  obtain ⟨p3, s3, c3⟩ := y3
  refine And.intro (fun e9 => (by omega : False).elim) (fun _ => ?_)
  show doC 600130 7301080 100 (sp clW) [] XW (kt n SX K code_LG 383 (code_LG.drop 17)) 354 357 [some (aX 1000), some (aX 0), none, none, some (.inl t), none, some (.inl a), some (.inl b), some (.inl d), none] g3 (u + 31 + 31 + 4) (v + 20660 + 20660 + 24) 145 [aX 0, .inl b, .inl 1] [.inl d]
  refine dcH (cs := s_X9_info) (by rfl) (mc := 2) (ms := 12) (ht := 3) (by rfl) (hb_i (by rfl) (by omega) (by omega) (by rfl)) (q_width c3 hb.1 (by omega)) ?_
  have wa : nd w2 a 1 = nd w a 1 := (i2.wd c1.wf ha.1 (by omega)).trans (i1.wd hC.wf ha.1 ha.2)
  refine And.intro (fun e1 => ?_) (fun e2 => ?_)
  · refine And.intro ⟨by omega, by omega⟩ ?_
    show K 168 [aX 1000, aX 0, .inl 1, .inl (t + 1)] g3 (u + 31 + 31 + 4 + 2) (v + 20660 + 20660 + 24 + 12)
    exact hK _ _ _ _ _ _ c3 I2 (by omega) (by omega)
  · show doC 600130 7301080 100 (sp clW) [] XW (kt n SX K code_LG 378 (code_LG.drop 22)) 365 368 [some (aX 1000), some (aX 0), none, none, some (.inl t), none, some (.inl a), some (.inl b), some (.inl d), none] g3 (u + 31 + 31 + 4 + 2) (v + 20660 + 20660 + 24 + 12) 344 [aX 0, .inl a, .inl b] []
    refine dcQ (cs := s_L_areCompared) (by rfl) (mc := 18) (ms := 108) (ht := 8) (by rfl) (hb_i (by rfl) (by omega) (by omega) (by rfl)) (q_areC c3 ⟨ha.1, by omega, hb.1, by omega, by omega⟩) ?_
    intro g4 c4 k
    refine And.intro (fun e9 => (by omega : False).elim) (fun _ => ?_)
    refine And.intro ⟨by omega, by omega⟩ ?_
    show K 168 [aX 1000, aX 0, .inl 1, .inl (t + 1)] g4 (u + 31 + 31 + 4 + 2 + 18) (v + 20660 + 20660 + 24 + 12 + 108)
    exact hK _ _ _ _ _ _ c4 I2 (by omega) (by omega)
set_option maxRecDepth 100000 in
set_option maxHeartbeats 4000000 in
theorem w_LH {n : Int} {SX : Int → Int} {K : AKK} {h : Hp} {w ps : Int → Int} {s : Int} {u v : Nat} (bu : u ≤ 500000) (bv : v ≤ 7000000) (hC : CI h w ps s) (hI : Iv w 6) : aw true 2 600130 7301080 100 (sp clW) [] RtW XW (some n) SX [] cutL K 400 code_LH 383 (lmk 0 10 [0, 1, 3] [aX 1000, aX 0, .inl 1]) [] h u v := by
  have hW := hC.wf
  have nn := hW.nn
  have cn := hW.cn
  have wn := hW.wn
  obtain ⟨a1, a2, a3, a4, a5, a6, a7, a8⟩ := hI.o
  show doC 600130 7301080 100 (sp clW) [] XW (kt n SX K code_LH 398 (code_LH.drop 2)) 384 387 [some (aX 1000), some (aX 0), none, some (.inl 1), none, none, none, none, none, none] h (u) (v) 151 [aX 0] []
  refine dcH (cs := s_X9_constraints) (by rfl) (mc := 0) (ms := 0) (ht := 1) (by rfl) (hb_i (by rfl) (by omega) (by omega) (by rfl)) (q_constraints hC) ?_
  refine And.intro (fun e9 => (by omega : False).elim) (fun _ => ?_)
  show doC 600130 7301080 100 (sp clW) [] XW (kt n SX K code_LH 393 (code_LH.drop 7)) 394 397 [some (aX 1000), some (aX 0), none, some (.inl 1), some (.inl (w 290)), none, none, none, none, none] h (u + 0) (v + 0) 336 [aX 0] []
  refine dcQ (cs := s_L_refused) (by rfl) (mc := 57) (ms := 342) (ht := 94) (by rfl) (hb_i (by rfl) (by omega) (by omega) (by rfl)) (q_refused hC hI.ref) ?_
  intro g1 c1 k
  refine And.intro (fun e9 => (by omega : False).elim) (fun _ => ?_)
  show doC 600130 7301080 100 (sp clW) [] XW (kt n SX K code_LH 390 (code_LH.drop 10)) 401 404 [some (aX 1000), some (aX 0), none, some (.inl 1), some (.inl (w 290)), none, none, none, none, none] g1 (u + 0 + 57) (v + 0 + 342) 149 [aX 0] []
  refine dcQ (cs := s_X9_push) (by rfl) (mc := 1) (ms := 6) (ht := 4) (by rfl) (hb_i (by rfl) (by omega) (by omega) (by rfl)) (q_push c1 a5) ?_
  intro g2 c2 k
  refine And.intro (fun e9 => (by omega : False).elim) (fun _ => ?_)
  obtain ⟨x1, e0, e1⟩ := (Hi.lev w 1).nx hW
  have U1 : Uq (up w 331 1) := a1.nx x1 e0
  show doC 600130 7301080 100 (sp clW) [] XW (kt n SX K code_LH 383 (code_LH.drop 17)) 412 415 [some (aX 1000), some (aX 0), none, some (.inl 1), some (.inl (w 290)), none, none, none, none, none] g2 (u + 0 + 57 + 1) (v + 0 + 342 + 6) 137 [aX 0, .inl 1, .inl 0] [aX 0]
  refine dcE (cs := s_X9_constant) (by rfl) (mc := 2) (ms := 12) (ht := 4) (by rfl) (hb_i (by rfl) (by omega) (by omega) (by rfl)) (q_const0 c2 U1 (by omega)) ?_
  intro x w2 p2 s2 g3 c3 k m
  obtain ⟨m1, m2, m3, m4, m5, m6⟩ := m
  have W2 := c3.wf
  obtain ⟨b1, b2, b3, b4⟩ := m1.o
  have l2 : ∀ j, 281 ≤ j → j ≠ 331 → w2 j = w j := fun j j0 j1 => (b2 j j0).trans (up_ne j1)
  have v2 : w2 331 = 1 := (b2 331 (by decide)).trans (up_self ..)
  have n2 : w2 290 = w 290 := l2 290 (by decide) (by decide)
  have s5 := c3.s5
  show doC 600130 7301080 100 (sp clW) [] XW (kt n SX K code_LH 382 (code_LH.drop 18)) 415 418 [some (aX 1000), some (aX 0), none, some (.inl 1), some (.inl (w 290)), none, none, none, none, none] g3 (u + 0 + 57 + 1 + 2) (v + 0 + 342 + 6 + 12) 148 [aX 0, .inl x] []
  refine dcQ (cs := s_X9_require) (by rfl) (mc := 2) (ms := 12) (ht := 4) (by rfl) (hb_i (by rfl) (by omega) (by omega) (by rfl)) (q_req c3 ⟨m2, m3⟩ m5 (by omega)) ?_
  intro g4 c4 k
  refine And.intro (fun e9 => (by omega : False).elim) (fun _ => ?_)
  have W3 := c4.wf
  obtain ⟨f1, f2, f3, f4⟩ := req_f (w := w2) x (by omega) (by omega)
  have z3 : nxt (reqW w2 x) 0 = -1 := no_model W3 (k := w2 290) (by omega) (by omega) (by rw [f2, (Hi.req W2 x).nx W2 |>.1.n m2 m3 (by decide) (by decide)]; exact m4) (by rw [f2, (Hi.req W2 x).nx W2 |>.1.n m2 m3 (by decide) (by decide)]; exact m6)
  show doC 600130 7301080 100 (sp clW) [] XW (kt n SX K code_LH 378 (code_LH.drop 22)) 424 427 [some (aX 1000), some (aX 0), none, some (.inl 1), some (.inl (w 290)), none, none, none, none, none] g4 (u + 0 + 57 + 1 + 2 + 2) (v + 0 + 342 + 6 + 12 + 12) 153 [aX 0] []
  refine dcQ (cs := s_X9_satisfiable) (by rfl) (mc := 0) (ms := 0) (ht := 7) (by rfl) (hb_i (by rfl) (by omega) (by omega) (by rfl)) (q_satF c4 z3) ?_
  intro g5 c5 k
  refine And.intro (fun e9 => (by omega : False).elim) (fun _ => ?_)
  show doC 600130 7301080 100 (sp clW) [] XW (kt n SX K code_LH 375 (code_LH.drop 25)) 431 434 [some (aX 1000), some (aX 0), none, some (.inl 1), some (.inl (w 290)), none, none, none, none, none] g5 (u + 0 + 57 + 1 + 2 + 2 + 0) (v + 0 + 342 + 6 + 12 + 12 + 0) 163 [aX 0] []
  refine dcQ (cs := s_X9_core1) (by rfl) (mc := 1) (ms := 20480) (ht := 7) (by rfl) (hb_i (by rfl) (by omega) (by omega) (by rfl)) (q_coreF c5 z3) ?_
  intro g6 c6 k
  have cf := coreF_nn W3 (reqW w2 x 290).toNat (by omega)
  refine And.intro (fun e9 => (by omega : False).elim) (fun _ => ?_)
  show doC 600130 7301080 100 (sp clW) [] XW (kt n SX K code_LH 370 (code_LH.drop 30)) 441 444 [some (aX 1000), some (aX 0), none, some (.inl 1), some (.inl (w 290)), none, none, none, none, none] g6 (u + 0 + 57 + 1 + 2 + 2 + 0 + 1) (v + 0 + 342 + 6 + 12 + 12 + 0 + 20480) 152 [aX 0, .inl (w 290), .inl 1] []
  refine dcH (cs := s_X9_constraint) (by rfl) (mc := 1) (ms := 6) (ht := 1) (by rfl) (hb_i (by rfl) (by omega) (by omega) (by rfl)) (q_level c6 ⟨by omega, by omega⟩) ?_
  have v3 : reqW w2 x (311 + w 290) = 1 := by rw [← n2, f3, v2]
  refine And.intro (fun e9 => (by omega : False).elim) (fun _ => ?_)
  have t3 : reqW w2 x 331 = 1 := by rw [f4 331 (by decide) (by omega) (by omega)]; exact v2
  show doC 600130 7301080 100 (sp clW) [] XW (kt n SX K code_LH 366 (code_LH.drop 34)) 449 452 [some (aX 1000), some (aX 0), none, some (.inl 1), some (.inl (w 290)), none, none, none, none, none] g6 (u + 0 + 57 + 1 + 2 + 2 + 0 + 1 + 1) (v + 0 + 342 + 6 + 12 + 12 + 0 + 20480 + 6) 150 [aX 0] []
  refine dcQ (cs := s_X9_pop) (by rfl) (mc := 1) (ms := 6) (ht := 4) (by rfl) (hb_i (by rfl) (by omega) (by omega) (by rfl)) (q_pop c6 (by omega)) ?_
  intro g7 c7 k
  have lf : lft (reqW w2 x) (reqW w2 x 290).toNat = w 290 := by
    rw [show (reqW w2 x 290).toNat = (w 290).toNat + 1 by omega, lft_1 t3 (k := (w 290).toNat) (by rw [show (((w 290).toNat : Nat) : Int) = w 290 by omega]; exact v3) (fun j j0 j1 => by rw [f4 _ (by omega) (by omega) (by omega), l2 _ (by omega) (by omega)]; exact a8 j j0 (by omega))]
    omega
  refine And.intro (fun e9 => (by omega : False).elim) (fun _ => ?_)
  show doC 600130 7301080 100 (sp clW) [] XW (kt n SX K code_LH 362 (code_LH.drop 38)) 457 460 [some (aX 1000), some (aX 0), none, some (.inl 1), some (.inl (w 290)), none, none, none, none, none] g7 (u + 0 + 57 + 1 + 2 + 2 + 0 + 1 + 1 + 1) (v + 0 + 342 + 6 + 12 + 12 + 0 + 20480 + 6 + 6) 151 [aX 0] []
  refine dcH (cs := s_X9_constraints) (by rfl) (mc := 0) (ms := 0) (ht := 1) (by rfl) (hb_i (by rfl) (by omega) (by omega) (by rfl)) (q_constraints c7) ?_
  have p7 : popW (reqW w2 x) 290 = w 290 := by
    have : popW (reqW w2 x) 290 = lft (reqW w2 x) (reqW w2 x 290).toNat := by unfold popW; rw [up_ne (by decide), up_self]
    omega
  refine And.intro (fun e9 => (by omega : False).elim) (fun _ => ?_)
  refine And.intro (fun e9 => (by omega : False).elim) (fun _ => ?_)
  have sr := svS_r s5.1 s5.2
  have sr2 := svS_r (s := svS s2) (by omega) (by omega)
  show doC 600130 7301080 100 (sp clW) [] XW (kt n SX K code_LH 353 (code_LH.drop 48)) 476 479 [some (aX 1000), some (aX 0), none, some (.inl 1), some (.inl (w 290)), none, none, none, none, none] g7 (u + 0 + 57 + 1 + 2 + 2 + 0 + 1 + 1 + 1 + 0) (v + 0 + 342 + 6 + 12 + 12 + 0 + 20480 + 6 + 6 + 0) 174 [aX 0] []
  refine dcQ (cs := s_X9_undo) (by rfl) (mc := 1) (ms := 6) (ht := 3) (by rfl) (hb_i (by rfl) (by omega) (by omega) (by rfl)) (q_undo c7 (u := reqW w2 x) (by omega) W3 ((Hi.pop (reqW w2 x)).pfx W3) (rowP_1 (by omega) (by omega))) ?_
  intro g8 c8 k
  refine And.intro (fun e9 => (by omega : False).elim) (fun _ => ?_)
  show doC 600130 7301080 100 (sp clW) [] XW (kt n SX K code_LH 350 (code_LH.drop 51)) 483 486 [some (aX 1000), some (aX 0), none, some (.inl 1), some (.inl (w 290)), none, none, none, none, none] g8 (u + 0 + 57 + 1 + 2 + 2 + 0 + 1 + 1 + 1 + 0 + 1) (v + 0 + 342 + 6 + 12 + 12 + 0 + 20480 + 6 + 6 + 0 + 6) 151 [aX 0] []
  refine dcH (cs := s_X9_constraints) (by rfl) (mc := 0) (ms := 0) (ht := 1) (by rfl) (hb_i (by rfl) (by omega) (by omega) (by rfl)) (q_constraints c8) ?_
  refine And.intro ⟨by omega, by omega⟩ ?_
  refine And.intro (fun e9 => (by omega : False).elim) (fun _ => ?_)
  show doC 600130 7301080 100 (sp clW) [] XW (kt n SX K code_LH 344 (code_LH.drop 57)) 494 497 [some (aX 1000), some (aX 0), none, some (.inl 1), some (.inl (w 290)), none, none, none, none, none] g8 (u + 0 + 57 + 1 + 2 + 2 + 0 + 1 + 1 + 1 + 0 + 1 + 0) (v + 0 + 342 + 6 + 12 + 12 + 0 + 20480 + 6 + 6 + 0 + 6 + 0) 174 [aX 0] []
  refine dcQ (cs := s_X9_undo) (by rfl) (mc := 1) (ms := 6) (ht := 3) (by rfl) (hb_i (by rfl) (by omega) (by omega) (by rfl)) (q_undo c8 (u := w2) (svS_2 (by omega) (by omega)) W2 ((Hi.req W2 x).pfx W2) (fun j j0 j1 => (rowP_2 (by omega) (by omega) j j0 j1).trans (rowP_1 s5.1 s5.2 j j0 j1))) ?_
  intro g9 c9 k
  have sx := svS_2 (s := svS s2) (by omega) (by omega)
  refine And.intro (fun e9 => (by omega : False).elim) (fun _ => ?_)
  show doC 600130 7301080 100 (sp clW) [] XW (kt n SX K code_LH 341 (code_LH.drop 60)) 501 504 [some (aX 1000), some (aX 0), none, some (.inl 1), some (.inl (w 290)), none, none, none, none, none] g9 (u + 0 + 57 + 1 + 2 + 2 + 0 + 1 + 1 + 1 + 0 + 1 + 0 + 1) (v + 0 + 342 + 6 + 12 + 12 + 0 + 20480 + 6 + 6 + 0 + 6 + 0 + 6) 151 [aX 0] []
  refine dcH (cs := s_X9_constraints) (by rfl) (mc := 0) (ms := 0) (ht := 1) (by rfl) (hb_i (by rfl) (by omega) (by omega) (by rfl)) (q_constraints c9) ?_
  refine And.intro (fun e9 => (by omega : False).elim) (fun _ => ?_)
  refine ob_i (b := Nat.ble (u + 0 + 57 + 1 + 2 + 2 + 0 + 1 + 1 + 1 + 0 + 1 + 0 + 1 + 0) 600130 && Nat.ble (v + 0 + 342 + 6 + 12 + 12 + 0 + 20480 + 6 + 6 + 0 + 6 + 0 + 6 + 0) 7301080) (hr_i (by omega) (by omega)) ⟨Or.inr rfl, rfl⟩

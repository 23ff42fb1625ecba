/-! ===== the law's cases ===== -/
set_option maxRecDepth 100000 in
set_option maxHeartbeats 1000000 in
theorem w_input {n : Int} {SX : Int → Int} {K : AKK} {i : Int} {h : Hp} {u v : Nat} (hn : n ≤ 2048) (i0 : 0 ≤ i) (i4 : i + 4 ≤ n) (L : LI h) (B : Bg i h u v) (hK : ∀ g u9 v9, LI g → Bg (i + 4) g u9 v9 → K 2363 [aX 1000, aX 0, aX 62, aX 77, .inl i] g u9 v9) : aw true 2 601024 7293034 100 (sp clW) [] RtW XW (some n) SX [] cutW K 400 code_LK10 834 (lmk 0 7 [0, 1, 2, 3, 4] [aX 1000, aX 0, aX 62, aX 77, .inl i]) [] h u v := by
  have r1 : Rng (i + 1) := ⟨by omega, by omega⟩
  have q1 : inR (i + 1) n := ⟨by omega, by omega⟩
  have r2 : Rng (i + 2) := ⟨by omega, by omega⟩
  have q2 : inR (i + 2) n := ⟨by omega, by omega⟩
  have b := B.bd i0 i4 hn
  refine And.intro r1 ?_
  refine And.intro q1 ?_
  refine And.intro r2 ?_
  refine And.intro q2 ?_
  refine dcI (cs := s_L_input) (by rfl) (mc := 2) (ms := 12) (ht := 5) (by rfl) ⟨rfl, by omega, by omega, rfl⟩ (c_input L (SX (i + 1)) (SX (i + 2))) ?_
  rintro k g1 q n1
  refine And.intro r1 ?_
  refine And.intro q1 ?_
  refine And.intro r2 ?_
  refine And.intro q2 ?_
  refine dcE (cs := s_X10_input) (by rfl) (ht := 3) (by rfl) ⟨rfl, by omega, by omega, rfl⟩ q ?_
  rintro y g2 L2 e1 e2 n2
  refine dcT (by rfl) (by rfl) ⟨rfl, by omega, by omega, rfl⟩ ?_
  refine And.intro (fun _ => ?_) (fun e9 => absurd e1 e9)
  refine And.intro (fun _ => ?_) (fun e3 => ?_)
  · skip
    exact hK _ _ _ L2 (B.st (Nat.le_trans n1 n2) L2 (by omega) (by omega))
  · skip
    refine And.intro ⟨by decide, by decide⟩ ?_
    refine And.intro (fun _ => ?_) (fun e9 => absurd (cmpL_z (e2 e3)) e9)
    exact hK _ _ _ L2 (B.st (Nat.le_trans n1 n2) L2 (by omega) (by omega))
set_option maxRecDepth 100000 in
set_option maxHeartbeats 1000000 in
theorem w_value {n : Int} {SX : Int → Int} {K : AKK} {i : Int} {h : Hp} {u v : Nat} (hn : n ≤ 2048) (i0 : 0 ≤ i) (i4 : i + 4 ≤ n) (L : LI h) (B : Bg i h u v) (hK : ∀ g u9 v9, LI g → Bg (i + 4) g u9 v9 → K 2363 [aX 1000, aX 0, aX 62, aX 77, .inl i] g u9 v9) : aw true 2 601024 7293034 100 (sp clW) [] RtW XW (some n) SX [] cutW K 400 code_LK11 902 (lmk 0 7 [0, 1, 2, 3, 4] [aX 1000, aX 0, aX 62, aX 77, .inl i]) [] h u v := by
  have r1 : Rng (i + 1) := ⟨by omega, by omega⟩
  have q1 : inR (i + 1) n := ⟨by omega, by omega⟩
  have r2 : Rng (i + 2) := ⟨by omega, by omega⟩
  have q2 : inR (i + 2) n := ⟨by omega, by omega⟩
  have b := B.bd i0 i4 hn
  refine And.intro r1 ?_
  refine And.intro q1 ?_
  refine And.intro r2 ?_
  refine And.intro q2 ?_
  refine And.intro (fun z0 => ?_) (fun z0 => ?_)
  · skip
    refine dcI (cs := s_L_value) (by rfl) (mc := 1) (ms := 6) (ht := 6) (by rfl) ⟨rfl, by omega, by omega, rfl⟩ (c_value L (SX (i + 1)) (0)) ?_
    rintro k g1 q n1
    refine And.intro r1 ?_
    refine And.intro q1 ?_
    refine And.intro r2 ?_
    refine And.intro q2 ?_
    refine And.intro (fun _ => ?_) (fun e9 => absurd z0 e9)
    refine dcE (cs := s_X10_value) (by rfl) (ht := 6) (by rfl) ⟨rfl, by omega, by omega, rfl⟩ q ?_
    rintro y g2 L2 e1 e2 n2
    refine dcT (by rfl) (by rfl) ⟨rfl, by omega, by omega, rfl⟩ ?_
    refine And.intro (fun _ => ?_) (fun e9 => absurd e1 e9)
    refine And.intro (fun _ => ?_) (fun e3 => ?_)
    · skip
      exact hK _ _ _ L2 (B.st (Nat.le_trans n1 n2) L2 (by omega) (by omega))
    · skip
      refine And.intro ⟨by decide, by decide⟩ ?_
      refine And.intro (fun _ => ?_) (fun e9 => absurd (cmpL_z (e2 e3)) e9)
      exact hK _ _ _ L2 (B.st (Nat.le_trans n1 n2) L2 (by omega) (by omega))
  · skip
    refine dcI (cs := s_L_value) (by rfl) (mc := 1) (ms := 6) (ht := 6) (by rfl) ⟨rfl, by omega, by omega, rfl⟩ (c_value L (SX (i + 1)) (1)) ?_
    rintro k g1 q n1
    refine And.intro r1 ?_
    refine And.intro q1 ?_
    refine And.intro r2 ?_
    refine And.intro q2 ?_
    refine And.intro (fun e9 => absurd e9 z0) (fun _ => ?_)
    refine dcE (cs := s_X10_value) (by rfl) (ht := 6) (by rfl) ⟨rfl, by omega, by omega, rfl⟩ q ?_
    rintro y g2 L2 e1 e2 n2
    refine dcT (by rfl) (by rfl) ⟨rfl, by omega, by omega, rfl⟩ ?_
    refine And.intro (fun _ => ?_) (fun e9 => absurd e1 e9)
    refine And.intro (fun _ => ?_) (fun e3 => ?_)
    · skip
      exact hK _ _ _ L2 (B.st (Nat.le_trans n1 n2) L2 (by omega) (by omega))
    · skip
      refine And.intro ⟨by decide, by decide⟩ ?_
      refine And.intro (fun _ => ?_) (fun e9 => absurd (cmpL_z (e2 e3)) e9)
      exact hK _ _ _ L2 (B.st (Nat.le_trans n1 n2) L2 (by omega) (by omega))
set_option maxRecDepth 100000 in
set_option maxHeartbeats 1000000 in
theorem w_require {n : Int} {SX : Int → Int} {K : AKK} {i : Int} {h : Hp} {u v : Nat} (hn : n ≤ 2048) (i0 : 0 ≤ i) (i4 : i + 4 ≤ n) (L : LI h) (B : Bg i h u v) (hK : ∀ g u9 v9, LI g → Bg (i + 4) g u9 v9 → K 2363 [aX 1000, aX 0, aX 62, aX 77, .inl i] g u9 v9) : aw true 2 601024 7293034 100 (sp clW) [] RtW XW (some n) SX [] cutW K 400 code_LK12 986 (lmk 0 7 [0, 1, 2, 3, 4] [aX 1000, aX 0, aX 62, aX 77, .inl i]) [] h u v := by
  have r1 : Rng (i + 1) := ⟨by omega, by omega⟩
  have q1 : inR (i + 1) n := ⟨by omega, by omega⟩
  have b := B.bd i0 i4 hn
  refine And.intro r1 ?_
  refine And.intro q1 ?_
  refine dcI (cs := s_L_require) (by rfl) (mc := 2) (ms := 12) (ht := 5) (by rfl) ⟨rfl, by omega, by omega, rfl⟩ (c_require L (SX (i + 1))) ?_
  rintro k g1 q n1
  refine And.intro r1 ?_
  refine And.intro q1 ?_
  refine dcE (cs := s_X10_require) (by rfl) (ht := 3) (by rfl) ⟨rfl, by omega, by omega, rfl⟩ q ?_
  rintro y g2 L2 e1 e2 n2
  refine dcT (by rfl) (by rfl) ⟨rfl, by omega, by omega, rfl⟩ ?_
  refine And.intro (fun _ => ?_) (fun e9 => absurd e1 e9)
  refine And.intro (fun _ => ?_) (fun e3 => ?_)
  · skip
    exact hK _ _ _ L2 (B.st (Nat.le_trans n1 n2) L2 (by omega) (by omega))
  · skip
    refine And.intro ⟨by decide, by decide⟩ ?_
    refine And.intro (fun _ => ?_) (fun e9 => absurd (cmpL_z (e2 e3)) e9)
    exact hK _ _ _ L2 (B.st (Nat.le_trans n1 n2) L2 (by omega) (by omega))
set_option maxRecDepth 100000 in
set_option maxHeartbeats 1000000 in
theorem w_push {n : Int} {SX : Int → Int} {K : AKK} {i : Int} {h : Hp} {u v : Nat} (hn : n ≤ 2048) (i0 : 0 ≤ i) (i4 : i + 4 ≤ n) (L : LI h) (B : Bg i h u v) (hK : ∀ g u9 v9, LI g → Bg (i + 4) g u9 v9 → K 2363 [aX 1000, aX 0, aX 62, aX 77, .inl i] g u9 v9) : aw true 2 601024 7293034 100 (sp clW) [] RtW XW (some n) SX [] cutW K 400 code_LK13 1042 (lmk 0 7 [0, 1, 2, 3, 4] [aX 1000, aX 0, aX 62, aX 77, .inl i]) [] h u v := by
  have b := B.bd i0 i4 hn
  refine dcI (cs := s_L_push) (by rfl) (mc := 1) (ms := 6) (ht := 5) (by rfl) ⟨rfl, by omega, by omega, rfl⟩ (c_push L) ?_
  rintro k g1 q n1
  refine dcE (cs := s_X10_push) (by rfl) (ht := 2) (by rfl) ⟨rfl, by omega, by omega, rfl⟩ q ?_
  rintro y g2 L2 e1 e2 n2
  refine dcT (by rfl) (by rfl) ⟨rfl, by omega, by omega, rfl⟩ ?_
  refine And.intro (fun _ => ?_) (fun e9 => absurd e1 e9)
  refine And.intro (fun _ => ?_) (fun e3 => ?_)
  · skip
    exact hK _ _ _ L2 (B.st (Nat.le_trans n1 n2) L2 (by omega) (by omega))
  · skip
    refine And.intro ⟨by decide, by decide⟩ ?_
    refine And.intro (fun _ => ?_) (fun e9 => absurd (cmpL_z (e2 e3)) e9)
    exact hK _ _ _ L2 (B.st (Nat.le_trans n1 n2) L2 (by omega) (by omega))
set_option maxRecDepth 100000 in
set_option maxHeartbeats 1000000 in
theorem w_pop {n : Int} {SX : Int → Int} {K : AKK} {i : Int} {h : Hp} {u v : Nat} (hn : n ≤ 2048) (i0 : 0 ≤ i) (i4 : i + 4 ≤ n) (L : LI h) (B : Bg i h u v) (hK : ∀ g u9 v9, LI g → Bg (i + 4) g u9 v9 → K 2363 [aX 1000, aX 0, aX 62, aX 77, .inl i] g u9 v9) : aw true 2 601024 7293034 100 (sp clW) [] RtW XW (some n) SX [] cutW K 400 code_LK14 1086 (lmk 0 7 [0, 1, 2, 3, 4] [aX 1000, aX 0, aX 62, aX 77, .inl i]) [] h u v := by
  have b := B.bd i0 i4 hn
  refine dcI (cs := s_L_pop) (by rfl) (mc := 1) (ms := 6) (ht := 5) (by rfl) ⟨rfl, by omega, by omega, rfl⟩ (c_pop L) ?_
  rintro k g1 q n1
  refine dcE (cs := s_X10_pop) (by rfl) (ht := 2) (by rfl) ⟨rfl, by omega, by omega, rfl⟩ q ?_
  rintro y g2 L2 e1 e2 n2
  refine dcT (by rfl) (by rfl) ⟨rfl, by omega, by omega, rfl⟩ ?_
  refine And.intro (fun _ => ?_) (fun e9 => absurd e1 e9)
  refine And.intro (fun _ => ?_) (fun e3 => ?_)
  · skip
    exact hK _ _ _ L2 (B.st (Nat.le_trans n1 n2) L2 (by omega) (by omega))
  · skip
    refine And.intro ⟨by decide, by decide⟩ ?_
    refine And.intro (fun _ => ?_) (fun e9 => absurd (cmpL_z (e2 e3)) e9)
    exact hK _ _ _ L2 (B.st (Nat.le_trans n1 n2) L2 (by omega) (by omega))
set_option maxRecDepth 100000 in
set_option maxHeartbeats 1000000 in
theorem w_constraints {n : Int} {SX : Int → Int} {K : AKK} {i : Int} {h : Hp} {u v : Nat} (hn : n ≤ 2048) (i0 : 0 ≤ i) (i4 : i + 4 ≤ n) (L : LI h) (B : Bg i h u v) (hK : ∀ g u9 v9, LI g → Bg (i + 4) g u9 v9 → K 2363 [aX 1000, aX 0, aX 62, aX 77, .inl i] g u9 v9) : aw true 2 601024 7293034 100 (sp clW) [] RtW XW (some n) SX [] cutW K 400 code_LK15 1130 (lmk 0 7 [0, 1, 2, 3, 4] [aX 1000, aX 0, aX 62, aX 77, .inl i]) [] h u v := by
  have b := B.bd i0 i4 hn
  refine dcI (cs := s_X9_constraints) (by rfl) (mc := 0) (ms := 0) (ht := 1) (by rfl) ⟨rfl, by omega, by omega, rfl⟩ (c_constraints L) ?_
  rintro k g1 q n1
  refine dcF (cs := s_X10_constraints) (by rfl) (ht := 1) (by rfl) ⟨rfl, by omega, by omega, rfl⟩ q ?_
  rintro g2 L2 n2
  refine And.intro (fun _ => ?_) (fun e9 => absurd rfl e9)
  exact hK _ _ _ L2 (B.st (Nat.le_trans n1 n2) L2 (by omega) (by omega))
set_option maxRecDepth 100000 in
set_option maxHeartbeats 1000000 in
theorem w_constraint {n : Int} {SX : Int → Int} {K : AKK} {i : Int} {h : Hp} {u v : Nat} (hn : n ≤ 2048) (i0 : 0 ≤ i) (i4 : i + 4 ≤ n) (L : LI h) (B : Bg i h u v) (hK : ∀ g u9 v9, LI g → Bg (i + 4) g u9 v9 → K 2363 [aX 1000, aX 0, aX 62, aX 77, .inl i] g u9 v9) : aw true 2 601024 7293034 100 (sp clW) [] RtW XW (some n) SX [] cutW K 400 code_LK16 1143 (lmk 0 7 [0, 1, 2, 3, 4] [aX 1000, aX 0, aX 62, aX 77, .inl i]) [] h u v := by
  have r1 : Rng (i + 1) := ⟨by omega, by omega⟩
  have q1 : inR (i + 1) n := ⟨by omega, by omega⟩
  have r2 : Rng (i + 2) := ⟨by omega, by omega⟩
  have q2 : inR (i + 2) n := ⟨by omega, by omega⟩
  have b := B.bd i0 i4 hn
  refine And.intro r1 ?_
  refine And.intro q1 ?_
  refine And.intro r2 ?_
  refine And.intro q2 ?_
  refine And.intro (fun z0 => ?_) (fun z0 => ?_)
  · skip
    refine dcI (cs := s_L_constraint) (by rfl) (mc := 1) (ms := 6) (ht := 2) (by rfl) ⟨rfl, by omega, by omega, rfl⟩ (c_constraint L (SX (i + 1)) (0)) ?_
    rintro k g1 q n1
    refine And.intro r1 ?_
    refine And.intro q1 ?_
    refine And.intro r2 ?_
    refine And.intro q2 ?_
    refine And.intro (fun _ => ?_) (fun e9 => absurd z0 e9)
    refine dcE (cs := s_X10_constraint) (by rfl) (ht := 2) (by rfl) ⟨rfl, by omega, by omega, rfl⟩ q ?_
    rintro y g2 L2 e1 e2 n2
    refine dcT (by rfl) (by rfl) ⟨rfl, by omega, by omega, rfl⟩ ?_
    refine And.intro (fun _ => ?_) (fun e9 => absurd e1 e9)
    refine And.intro (fun _ => ?_) (fun e3 => ?_)
    · skip
      exact hK _ _ _ L2 (B.st (Nat.le_trans n1 n2) L2 (by omega) (by omega))
    · skip
      refine And.intro ⟨by decide, by decide⟩ ?_
      refine And.intro (fun _ => ?_) (fun e9 => absurd (cmpL_z (e2 e3)) e9)
      exact hK _ _ _ L2 (B.st (Nat.le_trans n1 n2) L2 (by omega) (by omega))
  · skip
    refine dcI (cs := s_L_constraint) (by rfl) (mc := 1) (ms := 6) (ht := 2) (by rfl) ⟨rfl, by omega, by omega, rfl⟩ (c_constraint L (SX (i + 1)) (1)) ?_
    rintro k g1 q n1
    refine And.intro r1 ?_
    refine And.intro q1 ?_
    refine And.intro r2 ?_
    refine And.intro q2 ?_
    refine And.intro (fun e9 => absurd e9 z0) (fun _ => ?_)
    refine dcE (cs := s_X10_constraint) (by rfl) (ht := 2) (by rfl) ⟨rfl, by omega, by omega, rfl⟩ q ?_
    rintro y g2 L2 e1 e2 n2
    refine dcT (by rfl) (by rfl) ⟨rfl, by omega, by omega, rfl⟩ ?_
    refine And.intro (fun _ => ?_) (fun e9 => absurd e1 e9)
    refine And.intro (fun _ => ?_) (fun e3 => ?_)
    · skip
      exact hK _ _ _ L2 (B.st (Nat.le_trans n1 n2) L2 (by omega) (by omega))
    · skip
      refine And.intro ⟨by decide, by decide⟩ ?_
      refine And.intro (fun _ => ?_) (fun e9 => absurd (cmpL_z (e2 e3)) e9)
      exact hK _ _ _ L2 (B.st (Nat.le_trans n1 n2) L2 (by omega) (by omega))
set_option maxRecDepth 100000 in
set_option maxHeartbeats 1000000 in
theorem w_satisfiable {n : Int} {SX : Int → Int} {K : AKK} {i : Int} {h : Hp} {u v : Nat} (hn : n ≤ 2048) (i0 : 0 ≤ i) (i4 : i + 4 ≤ n) (L : LI h) (B : Bg i h u v) (hK : ∀ g u9 v9, LI g → Bg (i + 4) g u9 v9 → K 2363 [aX 1000, aX 0, aX 62, aX 77, .inl i] g u9 v9) : aw true 2 601024 7293034 100 (sp clW) [] RtW XW (some n) SX [] cutW K 400 code_LK17 1227 (lmk 0 7 [0, 1, 2, 3, 4] [aX 1000, aX 0, aX 62, aX 77, .inl i]) [] h u v := by
  have b := B.bd i0 i4 hn
  refine dcI (cs := s_X9_satisfiable) (by rfl) (mc := 0) (ms := 0) (ht := 7) (by rfl) ⟨rfl, by omega, by omega, rfl⟩ (c_satisfiable L) ?_
  rintro k g1 q n1
  refine dcF (cs := s_X10_satisfiable) (by rfl) (ht := 8) (by rfl) ⟨rfl, by omega, by omega, rfl⟩ q ?_
  rintro g2 L2 n2
  refine And.intro (fun _ => ?_) (fun e9 => absurd rfl e9)
  exact hK _ _ _ L2 (B.st (Nat.le_trans n1 n2) L2 (by omega) (by omega))
set_option maxRecDepth 100000 in
set_option maxHeartbeats 1000000 in
theorem w_witness {n : Int} {SX : Int → Int} {K : AKK} {i : Int} {h : Hp} {u v : Nat} (hn : n ≤ 2048) (i0 : 0 ≤ i) (i4 : i + 4 ≤ n) (L : LI h) (B : Bg i h u v) (hK : ∀ g u9 v9, LI g → Bg (i + 4) g u9 v9 → K 2363 [aX 1000, aX 0, aX 62, aX 77, .inl i] g u9 v9) : aw true 2 601024 7293034 100 (sp clW) [] RtW XW (some n) SX [] cutW K 400 code_LK18 1240 (lmk 0 7 [0, 1, 2, 3, 4] [aX 1000, aX 0, aX 62, aX 77, .inl i]) [] h u v := by
  have r1 : Rng (i + 1) := ⟨by omega, by omega⟩
  have q1 : inR (i + 1) n := ⟨by omega, by omega⟩
  have b := B.bd i0 i4 hn
  refine And.intro r1 ?_
  refine And.intro q1 ?_
  refine dcI (cs := s_L_witness) (by rfl) (mc := 1) (ms := 6) (ht := 8) (by rfl) ⟨rfl, by omega, by omega, rfl⟩ (c_witness L (SX (i + 1))) ?_
  rintro k g1 q n1
  refine And.intro r1 ?_
  refine And.intro q1 ?_
  refine dcE (cs := s_X10_witness) (by rfl) (ht := 8) (by rfl) ⟨rfl, by omega, by omega, rfl⟩ q ?_
  rintro y g2 L2 e1 e2 n2
  refine dcT (by rfl) (by rfl) ⟨rfl, by omega, by omega, rfl⟩ ?_
  refine And.intro (fun _ => ?_) (fun e9 => absurd e1 e9)
  refine And.intro (fun _ => ?_) (fun e3 => ?_)
  · skip
    exact hK _ _ _ L2 (B.st (Nat.le_trans n1 n2) L2 (by omega) (by omega))
  · skip
    refine And.intro ⟨by decide, by decide⟩ ?_
    refine And.intro (fun _ => ?_) (fun e9 => absurd (cmpL_z (e2 e3)) e9)
    exact hK _ _ _ L2 (B.st (Nat.le_trans n1 n2) L2 (by omega) (by omega))
set_option maxRecDepth 100000 in
set_option maxHeartbeats 1000000 in
theorem w_extreme {n : Int} {SX : Int → Int} {K : AKK} {i : Int} {h : Hp} {u v : Nat} (hn : n ≤ 2048) (i0 : 0 ≤ i) (i4 : i + 4 ≤ n) (L : LI h) (B : Bg i h u v) (hK : ∀ g u9 v9, LI g → Bg (i + 4) g u9 v9 → K 2363 [aX 1000, aX 0, aX 62, aX 77, .inl i] g u9 v9) : aw true 2 601024 7293034 100 (sp clW) [] RtW XW (some n) SX [] cutW K 400 code_LK19 1296 (lmk 0 7 [0, 1, 2, 3, 4] [aX 1000, aX 0, aX 62, aX 77, .inl i]) [] h u v := by
  have r1 : Rng (i + 1) := ⟨by omega, by omega⟩
  have q1 : inR (i + 1) n := ⟨by omega, by omega⟩
  have r2 : Rng (i + 2) := ⟨by omega, by omega⟩
  have q2 : inR (i + 2) n := ⟨by omega, by omega⟩
  have r3 : Rng (i + 3) := ⟨by omega, by omega⟩
  have q3 : inR (i + 3) n := ⟨by omega, by omega⟩
  have b := B.bd i0 i4 hn
  refine And.intro r1 ?_
  refine And.intro q1 ?_
  refine And.intro r2 ?_
  refine And.intro q2 ?_
  refine And.intro (fun z0 => ?_) (fun z0 => ?_)
  · skip
    refine And.intro r3 ?_
    refine And.intro q3 ?_
    refine And.intro (fun z1 => ?_) (fun z1 => ?_)
    · skip
      refine dcI (cs := s_L_extreme) (by rfl) (mc := 2) (ms := 12) (ht := 8) (by rfl) ⟨rfl, by omega, by omega, rfl⟩ (c_extreme L (SX (i + 1)) (0) (0)) ?_
      rintro k g1 q n1
      refine And.intro r1 ?_
      refine And.intro q1 ?_
      refine And.intro r2 ?_
      refine And.intro q2 ?_
      refine And.intro (fun _ => ?_) (fun e9 => absurd z0 e9)
      refine And.intro r3 ?_
      refine And.intro q3 ?_
      refine And.intro (fun _ => ?_) (fun e9 => absurd z1 e9)
      refine dcE (cs := s_X10_extreme) (by rfl) (ht := 9) (by rfl) ⟨rfl, by omega, by omega, rfl⟩ q ?_
      rintro y g2 L2 e1 e2 n2
      refine dcT (by rfl) (by rfl) ⟨rfl, by omega, by omega, rfl⟩ ?_
      refine And.intro (fun _ => ?_) (fun e9 => absurd e1 e9)
      refine And.intro (fun _ => ?_) (fun e3 => ?_)
      · skip
        exact hK _ _ _ L2 (B.st (Nat.le_trans n1 n2) L2 (by omega) (by omega))
      · skip
        refine And.intro ⟨by decide, by decide⟩ ?_
        refine And.intro (fun _ => ?_) (fun e9 => absurd (cmpL_z (e2 e3)) e9)
        exact hK _ _ _ L2 (B.st (Nat.le_trans n1 n2) L2 (by omega) (by omega))
    · skip
      refine dcI (cs := s_L_extreme) (by rfl) (mc := 2) (ms := 12) (ht := 8) (by rfl) ⟨rfl, by omega, by omega, rfl⟩ (c_extreme L (SX (i + 1)) (0) (1)) ?_
      rintro k g1 q n1
      refine And.intro r1 ?_
      refine And.intro q1 ?_
      refine And.intro r2 ?_
      refine And.intro q2 ?_
      refine And.intro (fun _ => ?_) (fun e9 => absurd z0 e9)
      refine And.intro r3 ?_
      refine And.intro q3 ?_
      refine And.intro (fun e9 => absurd e9 z1) (fun _ => ?_)
      refine dcE (cs := s_X10_extreme) (by rfl) (ht := 9) (by rfl) ⟨rfl, by omega, by omega, rfl⟩ q ?_
      rintro y g2 L2 e1 e2 n2
      refine dcT (by rfl) (by rfl) ⟨rfl, by omega, by omega, rfl⟩ ?_
      refine And.intro (fun _ => ?_) (fun e9 => absurd e1 e9)
      refine And.intro (fun _ => ?_) (fun e3 => ?_)
      · skip
        exact hK _ _ _ L2 (B.st (Nat.le_trans n1 n2) L2 (by omega) (by omega))
      · skip
        refine And.intro ⟨by decide, by decide⟩ ?_
        refine And.intro (fun _ => ?_) (fun e9 => absurd (cmpL_z (e2 e3)) e9)
        exact hK _ _ _ L2 (B.st (Nat.le_trans n1 n2) L2 (by omega) (by omega))
  · skip
    refine And.intro r3 ?_
    refine And.intro q3 ?_
    refine And.intro (fun z1 => ?_) (fun z1 => ?_)
    · skip
      refine dcI (cs := s_L_extreme) (by rfl) (mc := 2) (ms := 12) (ht := 8) (by rfl) ⟨rfl, by omega, by omega, rfl⟩ (c_extreme L (SX (i + 1)) (1) (0)) ?_
      rintro k g1 q n1
      refine And.intro r1 ?_
      refine And.intro q1 ?_
      refine And.intro r2 ?_
      refine And.intro q2 ?_
      refine And.intro (fun e9 => absurd e9 z0) (fun _ => ?_)
      refine And.intro r3 ?_
      refine And.intro q3 ?_
      refine And.intro (fun _ => ?_) (fun e9 => absurd z1 e9)
      refine dcE (cs := s_X10_extreme) (by rfl) (ht := 9) (by rfl) ⟨rfl, by omega, by omega, rfl⟩ q ?_
      rintro y g2 L2 e1 e2 n2
      refine dcT (by rfl) (by rfl) ⟨rfl, by omega, by omega, rfl⟩ ?_
      refine And.intro (fun _ => ?_) (fun e9 => absurd e1 e9)
      refine And.intro (fun _ => ?_) (fun e3 => ?_)
      · skip
        exact hK _ _ _ L2 (B.st (Nat.le_trans n1 n2) L2 (by omega) (by omega))
      · skip
        refine And.intro ⟨by decide, by decide⟩ ?_
        refine And.intro (fun _ => ?_) (fun e9 => absurd (cmpL_z (e2 e3)) e9)
        exact hK _ _ _ L2 (B.st (Nat.le_trans n1 n2) L2 (by omega) (by omega))
    · skip
      refine dcI (cs := s_L_extreme) (by rfl) (mc := 2) (ms := 12) (ht := 8) (by rfl) ⟨rfl, by omega, by omega, rfl⟩ (c_extreme L (SX (i + 1)) (1) (1)) ?_
      rintro k g1 q n1
      refine And.intro r1 ?_
      refine And.intro q1 ?_
      refine And.intro r2 ?_
      refine And.intro q2 ?_
      refine And.intro (fun e9 => absurd e9 z0) (fun _ => ?_)
      refine And.intro r3 ?_
      refine And.intro q3 ?_
      refine And.intro (fun e9 => absurd e9 z1) (fun _ => ?_)
      refine dcE (cs := s_X10_extreme) (by rfl) (ht := 9) (by rfl) ⟨rfl, by omega, by omega, rfl⟩ q ?_
      rintro y g2 L2 e1 e2 n2
      refine dcT (by rfl) (by rfl) ⟨rfl, by omega, by omega, rfl⟩ ?_
      refine And.intro (fun _ => ?_) (fun e9 => absurd e1 e9)
      refine And.intro (fun _ => ?_) (fun e3 => ?_)
      · skip
        exact hK _ _ _ L2 (B.st (Nat.le_trans n1 n2) L2 (by omega) (by omega))
      · skip
        refine And.intro ⟨by decide, by decide⟩ ?_
        refine And.intro (fun _ => ?_) (fun e9 => absurd (cmpL_z (e2 e3)) e9)
        exact hK _ _ _ L2 (B.st (Nat.le_trans n1 n2) L2 (by omega) (by omega))

/-! ===== the law's cases ===== -/
set_option maxRecDepth 100000 in
set_option maxHeartbeats 1000000 in
theorem w_extremeWitness {n : Int} {SX : Int → Int} {K : AKK} {i : Int} {h : Hp} {u v : Nat} (hn : n ≤ 2048) (i0 : 0 ≤ i) (i4 : i + 4 ≤ n) (L : LI h) (B : Bg i h u v) (hK : ∀ g u9 v9, LI g → Bg (i + 4) g u9 v9 → K 2363 [aX 1000, aX 0, aX 62, aX 77, .inl i] g u9 v9) : aw true 2 601024 7293034 100 (sp clW) [] RtW XW (some n) SX [] cutW K 400 code_LK20 1408 (lmk 0 7 [0, 1, 2, 3, 4] [aX 1000, aX 0, aX 62, aX 77, .inl i]) [] h u v := by
  have r1 : Rng (i + 1) := ⟨by omega, by omega⟩
  have q1 : inR (i + 1) n := ⟨by omega, by omega⟩
  have r2 : Rng (i + 2) := ⟨by omega, by omega⟩
  have q2 : inR (i + 2) n := ⟨by omega, by omega⟩
  have r3 : Rng (i + 3) := ⟨by omega, by omega⟩
  have q3 : inR (i + 3) n := ⟨by omega, by omega⟩
  have b := B.bd i0 i4 hn
  refine And.intro r1 ?_
  refine And.intro q1 ?_
  refine And.intro r2 ?_
  refine And.intro q2 ?_
  refine And.intro (fun z0 => ?_) (fun z0 => ?_)
  · skip
    refine And.intro r3 ?_
    refine And.intro q3 ?_
    refine dcI (cs := s_L_extremeWitness) (by rfl) (mc := 2) (ms := 12) (ht := 8) (by rfl) ⟨rfl, by omega, by omega, rfl⟩ (c_extremeWitness L (SX (i + 1)) (0) (SX (i + 3))) ?_
    rintro k g1 q n1
    refine And.intro r1 ?_
    refine And.intro q1 ?_
    refine And.intro r2 ?_
    refine And.intro q2 ?_
    refine And.intro (fun _ => ?_) (fun e9 => absurd z0 e9)
    refine And.intro r3 ?_
    refine And.intro q3 ?_
    refine dcE (cs := s_X10_extremeWitness) (by rfl) (ht := 9) (by rfl) ⟨rfl, by omega, by omega, rfl⟩ q ?_
    rintro y g2 L2 e1 e2 n2
    refine dcT (by rfl) (by rfl) ⟨rfl, by omega, by omega, rfl⟩ ?_
    refine And.intro (fun _ => ?_) (fun e9 => absurd e1 e9)
    refine And.intro (fun _ => ?_) (fun e3 => ?_)
    · skip
      exact hK _ _ _ L2 (B.st (Nat.le_trans n1 n2) L2 (by omega) (by omega))
    · skip
      refine And.intro ⟨by decide, by decide⟩ ?_
      refine And.intro (fun _ => ?_) (fun e9 => absurd (cmpL_z (e2 e3)) e9)
      exact hK _ _ _ L2 (B.st (Nat.le_trans n1 n2) L2 (by omega) (by omega))
  · skip
    refine And.intro r3 ?_
    refine And.intro q3 ?_
    refine dcI (cs := s_L_extremeWitness) (by rfl) (mc := 2) (ms := 12) (ht := 8) (by rfl) ⟨rfl, by omega, by omega, rfl⟩ (c_extremeWitness L (SX (i + 1)) (1) (SX (i + 3))) ?_
    rintro k g1 q n1
    refine And.intro r1 ?_
    refine And.intro q1 ?_
    refine And.intro r2 ?_
    refine And.intro q2 ?_
    refine And.intro (fun e9 => absurd e9 z0) (fun _ => ?_)
    refine And.intro r3 ?_
    refine And.intro q3 ?_
    refine dcE (cs := s_X10_extremeWitness) (by rfl) (ht := 9) (by rfl) ⟨rfl, by omega, by omega, rfl⟩ q ?_
    rintro y g2 L2 e1 e2 n2
    refine dcT (by rfl) (by rfl) ⟨rfl, by omega, by omega, rfl⟩ ?_
    refine And.intro (fun _ => ?_) (fun e9 => absurd e1 e9)
    refine And.intro (fun _ => ?_) (fun e3 => ?_)
    · skip
      exact hK _ _ _ L2 (B.st (Nat.le_trans n1 n2) L2 (by omega) (by omega))
    · skip
      refine And.intro ⟨by decide, by decide⟩ ?_
      refine And.intro (fun _ => ?_) (fun e9 => absurd (cmpL_z (e2 e3)) e9)
      exact hK _ _ _ L2 (B.st (Nat.le_trans n1 n2) L2 (by omega) (by omega))
set_option maxRecDepth 100000 in
set_option maxHeartbeats 1000000 in
theorem w_fixed {n : Int} {SX : Int → Int} {K : AKK} {i : Int} {h : Hp} {u v : Nat} (hn : n ≤ 2048) (i0 : 0 ≤ i) (i4 : i + 4 ≤ n) (L : LI h) (B : Bg i h u v) (hK : ∀ g u9 v9, LI g → Bg (i + 4) g u9 v9 → K 2363 [aX 1000, aX 0, aX 62, aX 77, .inl i] g u9 v9) : aw true 2 601024 7293034 100 (sp clW) [] RtW XW (some n) SX [] cutW K 400 code_LK21 1504 (lmk 0 7 [0, 1, 2, 3, 4] [aX 1000, aX 0, aX 62, aX 77, .inl i]) [] h u v := by
  have r1 : Rng (i + 1) := ⟨by omega, by omega⟩
  have q1 : inR (i + 1) n := ⟨by omega, by omega⟩
  have r2 : Rng (i + 2) := ⟨by omega, by omega⟩
  have q2 : inR (i + 2) n := ⟨by omega, by omega⟩
  have b := B.bd i0 i4 hn
  refine And.intro r1 ?_
  refine And.intro q1 ?_
  refine And.intro r2 ?_
  refine And.intro q2 ?_
  refine And.intro (fun z0 => ?_) (fun z0 => ?_)
  · skip
    refine dcI (cs := s_L_fixed) (by rfl) (mc := 1) (ms := 6) (ht := 8) (by rfl) ⟨rfl, by omega, by omega, rfl⟩ (c_fixed L (SX (i + 1)) (0)) ?_
    rintro k g1 q n1
    refine And.intro r1 ?_
    refine And.intro q1 ?_
    refine And.intro r2 ?_
    refine And.intro q2 ?_
    refine And.intro (fun _ => ?_) (fun e9 => absurd z0 e9)
    refine dcE (cs := s_X10_fixed) (by rfl) (ht := 8) (by rfl) ⟨rfl, by omega, by omega, rfl⟩ q ?_
    rintro y g2 L2 e1 e2 n2
    refine dcT (by rfl) (by rfl) ⟨rfl, by omega, by omega, rfl⟩ ?_
    refine And.intro (fun _ => ?_) (fun e9 => absurd e1 e9)
    refine And.intro (fun _ => ?_) (fun e3 => ?_)
    · skip
      exact hK _ _ _ L2 (B.st (Nat.le_trans n1 n2) L2 (by omega) (by omega))
    · skip
      refine And.intro ⟨by decide, by decide⟩ ?_
      refine And.intro (fun _ => ?_) (fun e9 => absurd (cmpL_z (e2 e3)) e9)
      exact hK _ _ _ L2 (B.st (Nat.le_trans n1 n2) L2 (by omega) (by omega))
  · skip
    refine dcI (cs := s_L_fixed) (by rfl) (mc := 1) (ms := 6) (ht := 8) (by rfl) ⟨rfl, by omega, by omega, rfl⟩ (c_fixed L (SX (i + 1)) (1)) ?_
    rintro k g1 q n1
    refine And.intro r1 ?_
    refine And.intro q1 ?_
    refine And.intro r2 ?_
    refine And.intro q2 ?_
    refine And.intro (fun e9 => absurd e9 z0) (fun _ => ?_)
    refine dcE (cs := s_X10_fixed) (by rfl) (ht := 8) (by rfl) ⟨rfl, by omega, by omega, rfl⟩ q ?_
    rintro y g2 L2 e1 e2 n2
    refine dcT (by rfl) (by rfl) ⟨rfl, by omega, by omega, rfl⟩ ?_
    refine And.intro (fun _ => ?_) (fun e9 => absurd e1 e9)
    refine And.intro (fun _ => ?_) (fun e3 => ?_)
    · skip
      exact hK _ _ _ L2 (B.st (Nat.le_trans n1 n2) L2 (by omega) (by omega))
    · skip
      refine And.intro ⟨by decide, by decide⟩ ?_
      refine And.intro (fun _ => ?_) (fun e9 => absurd (cmpL_z (e2 e3)) e9)
      exact hK _ _ _ L2 (B.st (Nat.le_trans n1 n2) L2 (by omega) (by omega))
set_option maxRecDepth 100000 in
set_option maxHeartbeats 1000000 in
theorem w_models {n : Int} {SX : Int → Int} {K : AKK} {i : Int} {h : Hp} {u v : Nat} (hn : n ≤ 2048) (i0 : 0 ≤ i) (i4 : i + 4 ≤ n) (L : LI h) (B : Bg i h u v) (hK : ∀ g u9 v9, LI g → Bg (i + 4) g u9 v9 → K 2363 [aX 1000, aX 0, aX 62, aX 77, .inl i] g u9 v9) : aw true 2 601024 7293034 100 (sp clW) [] RtW XW (some n) SX [] cutW K 400 code_LK22 1588 (lmk 0 7 [0, 1, 2, 3, 4] [aX 1000, aX 0, aX 62, aX 77, .inl i]) [] h u v := by
  have r1 : Rng (i + 1) := ⟨by omega, by omega⟩
  have q1 : inR (i + 1) n := ⟨by omega, by omega⟩
  have b := B.bd i0 i4 hn
  refine And.intro r1 ?_
  refine And.intro q1 ?_
  refine dcI (cs := s_L_models) (by rfl) (mc := 1) (ms := 6) (ht := 8) (by rfl) ⟨rfl, by omega, by omega, rfl⟩ (c_models L (SX (i + 1))) ?_
  rintro k g1 q n1
  refine And.intro r1 ?_
  refine And.intro q1 ?_
  refine dcE (cs := s_X10_models) (by rfl) (ht := 8) (by rfl) ⟨rfl, by omega, by omega, rfl⟩ q ?_
  rintro y g2 L2 e1 e2 n2
  refine dcT (by rfl) (by rfl) ⟨rfl, by omega, by omega, rfl⟩ ?_
  refine And.intro (fun _ => ?_) (fun e9 => absurd e1 e9)
  refine And.intro (fun _ => ?_) (fun e3 => ?_)
  · skip
    exact hK _ _ _ L2 (B.st (Nat.le_trans n1 n2) L2 (by omega) (by omega))
  · skip
    refine And.intro ⟨by decide, by decide⟩ ?_
    refine And.intro (fun _ => ?_) (fun e9 => absurd (cmpL_z (e2 e3)) e9)
    exact hK _ _ _ L2 (B.st (Nat.le_trans n1 n2) L2 (by omega) (by omega))
set_option maxRecDepth 100000 in
set_option maxHeartbeats 1000000 in
theorem w_values {n : Int} {SX : Int → Int} {K : AKK} {i : Int} {h : Hp} {u v : Nat} (hn : n ≤ 2048) (i0 : 0 ≤ i) (i4 : i + 4 ≤ n) (L : LI h) (B : Bg i h u v) (hK : ∀ g u9 v9, LI g → Bg (i + 4) g u9 v9 → K 2363 [aX 1000, aX 0, aX 62, aX 77, .inl i] g u9 v9) : aw true 2 601024 7293034 100 (sp clW) [] RtW XW (some n) SX [] cutW K 400 code_LK23 1644 (lmk 0 7 [0, 1, 2, 3, 4] [aX 1000, aX 0, aX 62, aX 77, .inl i]) [] h u v := by
  have r1 : Rng (i + 1) := ⟨by omega, by omega⟩
  have q1 : inR (i + 1) n := ⟨by omega, by omega⟩
  have r2 : Rng (i + 2) := ⟨by omega, by omega⟩
  have q2 : inR (i + 2) n := ⟨by omega, by omega⟩
  have b := B.bd i0 i4 hn
  refine And.intro r1 ?_
  refine And.intro q1 ?_
  refine And.intro r2 ?_
  refine And.intro q2 ?_
  refine dcI (cs := s_L_values) (by rfl) (mc := 2) (ms := 12) (ht := 8) (by rfl) ⟨rfl, by omega, by omega, rfl⟩ (c_values L (SX (i + 1)) (SX (i + 2))) ?_
  rintro k g1 q n1
  refine And.intro r1 ?_
  refine And.intro q1 ?_
  refine And.intro r2 ?_
  refine And.intro q2 ?_
  refine dcE (cs := s_X10_values) (by rfl) (ht := 9) (by rfl) ⟨rfl, by omega, by omega, rfl⟩ q ?_
  rintro y g2 L2 e1 e2 n2
  refine dcT (by rfl) (by rfl) ⟨rfl, by omega, by omega, rfl⟩ ?_
  refine And.intro (fun _ => ?_) (fun e9 => absurd e1 e9)
  refine And.intro (fun _ => ?_) (fun e3 => ?_)
  · skip
    exact hK _ _ _ L2 (B.st (Nat.le_trans n1 n2) L2 (by omega) (by omega))
  · skip
    refine And.intro ⟨by decide, by decide⟩ ?_
    refine And.intro (fun _ => ?_) (fun e9 => absurd (cmpL_z (e2 e3)) e9)
    exact hK _ _ _ L2 (B.st (Nat.le_trans n1 n2) L2 (by omega) (by omega))
set_option maxRecDepth 100000 in
set_option maxHeartbeats 1000000 in
theorem w_valueAt {n : Int} {SX : Int → Int} {K : AKK} {i : Int} {h : Hp} {u v : Nat} (hn : n ≤ 2048) (i0 : 0 ≤ i) (i4 : i + 4 ≤ n) (L : LI h) (B : Bg i h u v) (hK : ∀ g u9 v9, LI g → Bg (i + 4) g u9 v9 → K 2363 [aX 1000, aX 0, aX 62, aX 77, .inl i] g u9 v9) : aw true 2 601024 7293034 100 (sp clW) [] RtW XW (some n) SX [] cutW K 400 code_LK24 1712 (lmk 0 7 [0, 1, 2, 3, 4] [aX 1000, aX 0, aX 62, aX 77, .inl i]) [] h u v := by
  have r1 : Rng (i + 1) := ⟨by omega, by omega⟩
  have q1 : inR (i + 1) n := ⟨by omega, by omega⟩
  have r2 : Rng (i + 2) := ⟨by omega, by omega⟩
  have q2 : inR (i + 2) n := ⟨by omega, by omega⟩
  have b := B.bd i0 i4 hn
  refine And.intro r1 ?_
  refine And.intro q1 ?_
  refine And.intro r2 ?_
  refine And.intro q2 ?_
  refine dcI (cs := s_L_valueAt) (by rfl) (mc := 1) (ms := 6) (ht := 8) (by rfl) ⟨rfl, by omega, by omega, rfl⟩ (c_valueAt L (SX (i + 1)) (SX (i + 2))) ?_
  rintro k g1 q n1
  refine And.intro r1 ?_
  refine And.intro q1 ?_
  refine And.intro r2 ?_
  refine And.intro q2 ?_
  refine dcE (cs := s_X10_valueAt) (by rfl) (ht := 9) (by rfl) ⟨rfl, by omega, by omega, rfl⟩ q ?_
  rintro y g2 L2 e1 e2 n2
  refine dcT (by rfl) (by rfl) ⟨rfl, by omega, by omega, rfl⟩ ?_
  refine And.intro (fun _ => ?_) (fun e9 => absurd e1 e9)
  refine And.intro (fun _ => ?_) (fun e3 => ?_)
  · skip
    exact hK _ _ _ L2 (B.st (Nat.le_trans n1 n2) L2 (by omega) (by omega))
  · skip
    refine And.intro ⟨by decide, by decide⟩ ?_
    refine And.intro (fun _ => ?_) (fun e9 => absurd (cmpL_z (e2 e3)) e9)
    exact hK _ _ _ L2 (B.st (Nat.le_trans n1 n2) L2 (by omega) (by omega))
set_option maxRecDepth 100000 in
set_option maxHeartbeats 1000000 in
theorem w_equivalent {n : Int} {SX : Int → Int} {K : AKK} {i : Int} {h : Hp} {u v : Nat} (hn : n ≤ 2048) (i0 : 0 ≤ i) (i4 : i + 4 ≤ n) (L : LI h) (B : Bg i h u v) (hK : ∀ g u9 v9, LI g → Bg (i + 4) g u9 v9 → K 2363 [aX 1000, aX 0, aX 62, aX 77, .inl i] g u9 v9) : aw true 2 601024 7293034 100 (sp clW) [] RtW XW (some n) SX [] cutW K 400 code_LK25 1780 (lmk 0 7 [0, 1, 2, 3, 4] [aX 1000, aX 0, aX 62, aX 77, .inl i]) [] h u v := by
  have r1 : Rng (i + 1) := ⟨by omega, by omega⟩
  have q1 : inR (i + 1) n := ⟨by omega, by omega⟩
  have r2 : Rng (i + 2) := ⟨by omega, by omega⟩
  have q2 : inR (i + 2) n := ⟨by omega, by omega⟩
  have b := B.bd i0 i4 hn
  refine And.intro r1 ?_
  refine And.intro q1 ?_
  refine And.intro r2 ?_
  refine And.intro q2 ?_
  refine dcI (cs := s_L_equivalent) (by rfl) (mc := 3) (ms := 18) (ht := 8) (by rfl) ⟨rfl, by omega, by omega, rfl⟩ (c_equivalentB L (SX (i + 1)) (SX (i + 2))) ?_
  rintro k g1 q n1
  refine And.intro r1 ?_
  refine And.intro q1 ?_
  refine And.intro r2 ?_
  refine And.intro q2 ?_
  refine dcEB (cs := s_X10_equivalent) (by rfl) (ht := 9) (by rfl) ⟨rfl, by omega, by omega, rfl⟩ q ?_
  rintro y g2 L2 e1 e2 eb n2
  refine dcT (by rfl) (by rfl) ⟨rfl, by omega, by omega, rfl⟩ ?_
  refine And.intro (fun _ => ?_) (fun e9 => absurd e1 e9)
  refine And.intro (fun _ => ?_) (fun e3 => ?_)
  · skip
    exact hK _ _ _ L2 (B.st (Nat.le_trans n1 n2) L2 (by omega) (by omega))
  · skip
    refine And.intro ⟨by decide, by decide⟩ ?_
    refine And.intro (fun e5 => ?_) (fun e5 => ?_)
    · skip
      refine And.intro (fun _ => ?_) (fun e9 => absurd (cmpL_z ((e2 e3).trans (by rw [e5]; decide))) e9)
      exact hK _ _ _ L2 (B.st (Nat.le_trans n1 n2) L2 (by omega) (by omega))
    · skip
      refine And.intro (fun _ => ?_) (fun e9 => absurd (cmpL_z ((e2 e3).trans (by rw [eb.resolve_left e5]; decide))) e9)
      exact hK _ _ _ L2 (B.st (Nat.le_trans n1 n2) L2 (by omega) (by omega))
set_option maxRecDepth 100000 in
set_option maxHeartbeats 1000000 in
theorem w_counterexample {n : Int} {SX : Int → Int} {K : AKK} {i : Int} {h : Hp} {u v : Nat} (hn : n ≤ 2048) (i0 : 0 ≤ i) (i4 : i + 4 ≤ n) (L : LI h) (B : Bg i h u v) (hK : ∀ g u9 v9, LI g → Bg (i + 4) g u9 v9 → K 2363 [aX 1000, aX 0, aX 62, aX 77, .inl i] g u9 v9) : aw true 2 601024 7293034 100 (sp clW) [] RtW XW (some n) SX [] cutW K 400 code_LK26 1855 (lmk 0 7 [0, 1, 2, 3, 4] [aX 1000, aX 0, aX 62, aX 77, .inl i]) [] h u v := by
  have r1 : Rng (i + 1) := ⟨by omega, by omega⟩
  have q1 : inR (i + 1) n := ⟨by omega, by omega⟩
  have r2 : Rng (i + 2) := ⟨by omega, by omega⟩
  have q2 : inR (i + 2) n := ⟨by omega, by omega⟩
  have r3 : Rng (i + 3) := ⟨by omega, by omega⟩
  have q3 : inR (i + 3) n := ⟨by omega, by omega⟩
  have b := B.bd i0 i4 hn
  refine And.intro r1 ?_
  refine And.intro q1 ?_
  refine And.intro r2 ?_
  refine And.intro q2 ?_
  refine And.intro r3 ?_
  refine And.intro q3 ?_
  refine dcI (cs := s_L_counterexample) (by rfl) (mc := 4) (ms := 24) (ht := 8) (by rfl) ⟨rfl, by omega, by omega, rfl⟩ (c_counterexample L (SX (i + 1)) (SX (i + 2)) (SX (i + 3))) ?_
  rintro k g1 q n1
  refine And.intro r1 ?_
  refine And.intro q1 ?_
  refine And.intro r2 ?_
  refine And.intro q2 ?_
  refine And.intro r3 ?_
  refine And.intro q3 ?_
  refine dcE (cs := s_X10_counterexample) (by rfl) (ht := 9) (by rfl) ⟨rfl, by omega, by omega, rfl⟩ q ?_
  rintro y g2 L2 e1 e2 n2
  refine dcT (by rfl) (by rfl) ⟨rfl, by omega, by omega, rfl⟩ ?_
  refine And.intro (fun _ => ?_) (fun e9 => absurd e1 e9)
  refine And.intro (fun _ => ?_) (fun e3 => ?_)
  · skip
    exact hK _ _ _ L2 (B.st (Nat.le_trans n1 n2) L2 (by omega) (by omega))
  · skip
    refine And.intro ⟨by decide, by decide⟩ ?_
    refine And.intro (fun _ => ?_) (fun e9 => absurd (cmpL_z (e2 e3)) e9)
    exact hK _ _ _ L2 (B.st (Nat.le_trans n1 n2) L2 (by omega) (by omega))
set_option maxRecDepth 100000 in
set_option maxHeartbeats 1000000 in
theorem w_core {n : Int} {SX : Int → Int} {K : AKK} {i : Int} {h : Hp} {u v : Nat} (hn : n ≤ 2048) (i0 : 0 ≤ i) (i4 : i + 4 ≤ n) (L : LI h) (B : Bg i h u v) (hK : ∀ g u9 v9, LI g → Bg (i + 4) g u9 v9 → K 2363 [aX 1000, aX 0, aX 62, aX 77, .inl i] g u9 v9) : aw true 2 601024 7293034 100 (sp clW) [] RtW XW (some n) SX [] cutW K 400 code_LK27 1935 (lmk 0 7 [0, 1, 2, 3, 4] [aX 1000, aX 0, aX 62, aX 77, .inl i]) [] h u v := by
  have b := B.bd i0 i4 hn
  refine dcC (by rfl) (by rfl) i0 i4 hn B L (by rfl) ⟨rfl, rfl, rfl⟩ ?_
  rintro k g1 u1 v1 B1 q
  have b := B1.bd i0 i4 hn
  refine dcF (cs := s_X10_core) (by rfl) (ht := 8) (by rfl) ⟨rfl, by omega, by omega, rfl⟩ q ?_
  rintro g2 L2 n2
  refine And.intro (fun _ => ?_) (fun e9 => absurd rfl e9)
  exact hK _ _ _ L2 (B1.st n2 L2 (by omega) (by omega))
set_option maxRecDepth 100000 in
set_option maxHeartbeats 1000000 in
theorem w_wish {n : Int} {SX : Int → Int} {K : AKK} {i : Int} {h : Hp} {u v : Nat} (hn : n ≤ 2048) (i0 : 0 ≤ i) (i4 : i + 4 ≤ n) (L : LI h) (B : Bg i h u v) (hK : ∀ g u9 v9, LI g → Bg (i + 4) g u9 v9 → K 2363 [aX 1000, aX 0, aX 62, aX 77, .inl i] g u9 v9) : aw true 2 601024 7293034 100 (sp clW) [] RtW XW (some n) SX [] cutW K 400 code_LK28 1948 (lmk 0 7 [0, 1, 2, 3, 4] [aX 1000, aX 0, aX 62, aX 77, .inl i]) [] h u v := by
  have r1 : Rng (i + 1) := ⟨by omega, by omega⟩
  have q1 : inR (i + 1) n := ⟨by omega, by omega⟩
  have r2 : Rng (i + 2) := ⟨by omega, by omega⟩
  have q2 : inR (i + 2) n := ⟨by omega, by omega⟩
  have b := B.bd i0 i4 hn
  refine And.intro r1 ?_
  refine And.intro q1 ?_
  refine And.intro r2 ?_
  refine And.intro q2 ?_
  refine dcI (cs := s_L_wish) (by rfl) (mc := 2) (ms := 12) (ht := 5) (by rfl) ⟨rfl, by omega, by omega, rfl⟩ (c_wish L (SX (i + 1)) (SX (i + 2))) ?_
  rintro k g1 q n1
  refine And.intro r1 ?_
  refine And.intro q1 ?_
  refine And.intro r2 ?_
  refine And.intro q2 ?_
  refine dcE (cs := s_X10_wish) (by rfl) (ht := 3) (by rfl) ⟨rfl, by omega, by omega, rfl⟩ q ?_
  rintro y g2 L2 e1 e2 n2
  refine dcT (by rfl) (by rfl) ⟨rfl, by omega, by omega, rfl⟩ ?_
  refine And.intro (fun _ => ?_) (fun e9 => absurd e1 e9)
  refine And.intro (fun _ => ?_) (fun e3 => ?_)
  · skip
    exact hK _ _ _ L2 (B.st (Nat.le_trans n1 n2) L2 (by omega) (by omega))
  · skip
    refine And.intro ⟨by decide, by decide⟩ ?_
    refine And.intro (fun _ => ?_) (fun e9 => absurd (cmpL_z (e2 e3)) e9)
    exact hK _ _ _ L2 (B.st (Nat.le_trans n1 n2) L2 (by omega) (by omega))
set_option maxRecDepth 100000 in
set_option maxHeartbeats 1000000 in
theorem w_clearWishes {n : Int} {SX : Int → Int} {K : AKK} {i : Int} {h : Hp} {u v : Nat} (hn : n ≤ 2048) (i0 : 0 ≤ i) (i4 : i + 4 ≤ n) (L : LI h) (B : Bg i h u v) (hK : ∀ g u9 v9, LI g → Bg (i + 4) g u9 v9 → K 2363 [aX 1000, aX 0, aX 62, aX 77, .inl i] g u9 v9) : aw true 2 601024 7293034 100 (sp clW) [] RtW XW (some n) SX [] cutW K 400 code_LK29 2016 (lmk 0 7 [0, 1, 2, 3, 4] [aX 1000, aX 0, aX 62, aX 77, .inl i]) [] h u v := by
  have b := B.bd i0 i4 hn
  refine dcI (cs := s_X9_clearWishes) (by rfl) (mc := 0) (ms := 0) (ht := 4) (by rfl) ⟨rfl, by omega, by omega, rfl⟩ (c_clearWishes L) ?_
  rintro k g1 q n1
  refine dcF (cs := s_X10_clearWishes) (by rfl) (ht := 2) (by rfl) ⟨rfl, by omega, by omega, rfl⟩ q ?_
  rintro g2 L2 n2
  refine And.intro (fun _ => ?_) (fun e9 => absurd rfl e9)
  exact hK _ _ _ L2 (B.st (Nat.le_trans n1 n2) L2 (by omega) (by omega))

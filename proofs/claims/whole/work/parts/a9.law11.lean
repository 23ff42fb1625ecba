/-! ===== the law's cases ===== -/
set_option maxRecDepth 100000 in
set_option maxHeartbeats 1000000 in
theorem w_variable {n : Int} {SX : Int → Int} {K : AKK} {i : Int} {h : Hp} {u v : Nat} (hn : n ≤ 2048) (i0 : 0 ≤ i) (i4 : i + 4 ≤ n) (L : LI h) (B : Bg i h u v) (hK : ∀ g u9 v9, LI g → Bg (i + 4) g u9 v9 → K 2363 [aX 1000, aX 0, aX 62, aX 77, .inl i] g u9 v9) : aw true 2 601024 7293034 100 (sp clW) [] RtW XW (some n) SX [] cutW K 400 code_LK0 212 (lmk 0 7 [0, 1, 2, 3, 4] [aX 1000, aX 0, aX 62, aX 77, .inl i]) [] h u v := by
  have r1 : Rng (i + 1) := ⟨by omega, by omega⟩
  have q1 : inR (i + 1) n := ⟨by omega, by omega⟩
  have b := B.bd i0 i4 hn
  refine And.intro r1 ?_
  refine And.intro q1 ?_
  refine dcI (cs := s_L_variable) (by rfl) (mc := 2) (ms := 12) (ht := 5) (by rfl) ⟨rfl, by omega, by omega, rfl⟩ (c_variable L (SX (i + 1))) ?_
  rintro k g1 q n1
  refine And.intro r1 ?_
  refine And.intro q1 ?_
  refine dcE (cs := s_X10_variable) (by rfl) (ht := 4) (by rfl) ⟨rfl, by omega, by omega, rfl⟩ q ?_
  rintro y g2 L2 e1 e2 n2
  refine dcT (by rfl) (by rfl) ⟨rfl, by omega, by omega, rfl⟩ ?_
  refine And.intro (fun _ => ?_) (fun e9 => absurd e1 e9)
  refine And.intro (fun _ => ?_) (fun e3 => ?_)
  · skip
    exact hK _ _ _ L2 (B.st (Nat.le_trans n1 n2) L2 (by omega) (by omega))
  · skip
    refine And.intro ⟨by decide, by decide⟩ ?_
    refine And.intro (fun _ => ?_) (fun e9 => absurd (cmpL_z (e2 e3)) e9)
    exact hK _ _ _ L2 (B.st (Nat.le_trans n1 n2) L2 (by omega) (by omega))
set_option maxRecDepth 100000 in
set_option maxHeartbeats 1000000 in
theorem w_constant {n : Int} {SX : Int → Int} {K : AKK} {i : Int} {h : Hp} {u v : Nat} (hn : n ≤ 2048) (i0 : 0 ≤ i) (i4 : i + 4 ≤ n) (L : LI h) (B : Bg i h u v) (hK : ∀ g u9 v9, LI g → Bg (i + 4) g u9 v9 → K 2363 [aX 1000, aX 0, aX 62, aX 77, .inl i] g u9 v9) : aw true 2 601024 7293034 100 (sp clW) [] RtW XW (some n) SX [] cutW K 400 code_LK1 268 (lmk 0 7 [0, 1, 2, 3, 4] [aX 1000, aX 0, aX 62, aX 77, .inl i]) [] h u v := by
  have r1 : Rng (i + 1) := ⟨by omega, by omega⟩
  have q1 : inR (i + 1) n := ⟨by omega, by omega⟩
  have r2 : Rng (i + 2) := ⟨by omega, by omega⟩
  have q2 : inR (i + 2) n := ⟨by omega, by omega⟩
  have b := B.bd i0 i4 hn
  refine And.intro r1 ?_
  refine And.intro q1 ?_
  refine And.intro r2 ?_
  refine And.intro q2 ?_
  refine dcI (cs := s_L_constant) (by rfl) (mc := 2) (ms := 12) (ht := 5) (by rfl) ⟨rfl, by omega, by omega, rfl⟩ (c_constant L (SX (i + 1)) (SX (i + 2))) ?_
  rintro k g1 q n1
  refine And.intro r1 ?_
  refine And.intro q1 ?_
  refine And.intro r2 ?_
  refine And.intro q2 ?_
  refine dcE (cs := s_X10_constant) (by rfl) (ht := 5) (by rfl) ⟨rfl, by omega, by omega, rfl⟩ q ?_
  rintro y g2 L2 e1 e2 n2
  refine dcT (by rfl) (by rfl) ⟨rfl, by omega, by omega, rfl⟩ ?_
  refine And.intro (fun _ => ?_) (fun e9 => absurd e1 e9)
  refine And.intro (fun _ => ?_) (fun e3 => ?_)
  · skip
    exact hK _ _ _ L2 (B.st (Nat.le_trans n1 n2) L2 (by omega) (by omega))
  · skip
    refine And.intro ⟨by decide, by decide⟩ ?_
    refine And.intro (fun _ => ?_) (fun e9 => absurd (cmpL_z (e2 e3)) e9)
    exact hK _ _ _ L2 (B.st (Nat.le_trans n1 n2) L2 (by omega) (by omega))
set_option maxRecDepth 100000 in
set_option maxHeartbeats 1000000 in
theorem w_binary {n : Int} {SX : Int → Int} {K : AKK} {i : Int} {h : Hp} {u v : Nat} (hn : n ≤ 2048) (i0 : 0 ≤ i) (i4 : i + 4 ≤ n) (L : LI h) (B : Bg i h u v) (hK : ∀ g u9 v9, LI g → Bg (i + 4) g u9 v9 → K 2363 [aX 1000, aX 0, aX 62, aX 77, .inl i] g u9 v9) : aw true 2 601024 7293034 100 (sp clW) [] RtW XW (some n) SX [] cutW K 400 code_LK2 336 (lmk 0 7 [0, 1, 2, 3, 4] [aX 1000, aX 0, aX 62, aX 77, .inl i]) [] h u v := by
  have r1 : Rng (i + 1) := ⟨by omega, by omega⟩
  have q1 : inR (i + 1) n := ⟨by omega, by omega⟩
  have r2 : Rng (i + 2) := ⟨by omega, by omega⟩
  have q2 : inR (i + 2) n := ⟨by omega, by omega⟩
  have r3 : Rng (i + 3) := ⟨by omega, by omega⟩
  have q3 : inR (i + 3) n := ⟨by omega, by omega⟩
  have b := B.bd i0 i4 hn
  refine And.intro r1 ?_
  refine And.intro q1 ?_
  refine And.intro r2 ?_
  refine And.intro q2 ?_
  refine And.intro r3 ?_
  refine And.intro q3 ?_
  refine dcI (cs := s_L_binary) (by rfl) (mc := 4) (ms := 24) (ht := 6) (by rfl) ⟨rfl, by omega, by omega, rfl⟩ (c_binary L (SX (i + 1)) (SX (i + 2)) (SX (i + 3))) ?_
  rintro k g1 q n1
  refine And.intro r1 ?_
  refine And.intro q1 ?_
  refine And.intro r2 ?_
  refine And.intro q2 ?_
  refine And.intro r3 ?_
  refine And.intro q3 ?_
  refine dcE (cs := s_X10_binary) (by rfl) (ht := 5) (by rfl) ⟨rfl, by omega, by omega, rfl⟩ q ?_
  rintro y g2 L2 e1 e2 n2
  refine dcT (by rfl) (by rfl) ⟨rfl, by omega, by omega, rfl⟩ ?_
  refine And.intro (fun _ => ?_) (fun e9 => absurd e1 e9)
  refine And.intro (fun _ => ?_) (fun e3 => ?_)
  · skip
    exact hK _ _ _ L2 (B.st (Nat.le_trans n1 n2) L2 (by omega) (by omega))
  · skip
    refine And.intro ⟨by decide, by decide⟩ ?_
    refine And.intro (fun _ => ?_) (fun e9 => absurd (cmpL_z (e2 e3)) e9)
    exact hK _ _ _ L2 (B.st (Nat.le_trans n1 n2) L2 (by omega) (by omega))
set_option maxRecDepth 100000 in
set_option maxHeartbeats 1000000 in
theorem w_unary {n : Int} {SX : Int → Int} {K : AKK} {i : Int} {h : Hp} {u v : Nat} (hn : n ≤ 2048) (i0 : 0 ≤ i) (i4 : i + 4 ≤ n) (L : LI h) (B : Bg i h u v) (hK : ∀ g u9 v9, LI g → Bg (i + 4) g u9 v9 → K 2363 [aX 1000, aX 0, aX 62, aX 77, .inl i] g u9 v9) : aw true 2 601024 7293034 100 (sp clW) [] RtW XW (some n) SX [] cutW K 400 code_LK3 416 (lmk 0 7 [0, 1, 2, 3, 4] [aX 1000, aX 0, aX 62, aX 77, .inl i]) [] h u v := by
  have r1 : Rng (i + 1) := ⟨by omega, by omega⟩
  have q1 : inR (i + 1) n := ⟨by omega, by omega⟩
  have r2 : Rng (i + 2) := ⟨by omega, by omega⟩
  have q2 : inR (i + 2) n := ⟨by omega, by omega⟩
  have b := B.bd i0 i4 hn
  refine And.intro r1 ?_
  refine And.intro q1 ?_
  refine And.intro r2 ?_
  refine And.intro q2 ?_
  refine dcI (cs := s_L_unary) (by rfl) (mc := 3) (ms := 18) (ht := 5) (by rfl) ⟨rfl, by omega, by omega, rfl⟩ (c_unary L (SX (i + 1)) (SX (i + 2))) ?_
  rintro k g1 q n1
  refine And.intro r1 ?_
  refine And.intro q1 ?_
  refine And.intro r2 ?_
  refine And.intro q2 ?_
  refine dcE (cs := s_X10_unary) (by rfl) (ht := 5) (by rfl) ⟨rfl, by omega, by omega, rfl⟩ q ?_
  rintro y g2 L2 e1 e2 n2
  refine dcT (by rfl) (by rfl) ⟨rfl, by omega, by omega, rfl⟩ ?_
  refine And.intro (fun _ => ?_) (fun e9 => absurd e1 e9)
  refine And.intro (fun _ => ?_) (fun e3 => ?_)
  · skip
    exact hK _ _ _ L2 (B.st (Nat.le_trans n1 n2) L2 (by omega) (by omega))
  · skip
    refine And.intro ⟨by decide, by decide⟩ ?_
    refine And.intro (fun _ => ?_) (fun e9 => absurd (cmpL_z (e2 e3)) e9)
    exact hK _ _ _ L2 (B.st (Nat.le_trans n1 n2) L2 (by omega) (by omega))
set_option maxRecDepth 100000 in
set_option maxHeartbeats 1000000 in
theorem w_slice {n : Int} {SX : Int → Int} {K : AKK} {i : Int} {h : Hp} {u v : Nat} (hn : n ≤ 2048) (i0 : 0 ≤ i) (i4 : i + 4 ≤ n) (L : LI h) (B : Bg i h u v) (hK : ∀ g u9 v9, LI g → Bg (i + 4) g u9 v9 → K 2363 [aX 1000, aX 0, aX 62, aX 77, .inl i] g u9 v9) : aw true 2 601024 7293034 100 (sp clW) [] RtW XW (some n) SX [] cutW K 400 code_LK4 484 (lmk 0 7 [0, 1, 2, 3, 4] [aX 1000, aX 0, aX 62, aX 77, .inl i]) [] h u v := by
  have r1 : Rng (i + 1) := ⟨by omega, by omega⟩
  have q1 : inR (i + 1) n := ⟨by omega, by omega⟩
  have r2 : Rng (i + 2) := ⟨by omega, by omega⟩
  have q2 : inR (i + 2) n := ⟨by omega, by omega⟩
  have r3 : Rng (i + 3) := ⟨by omega, by omega⟩
  have q3 : inR (i + 3) n := ⟨by omega, by omega⟩
  have b := B.bd i0 i4 hn
  refine And.intro r1 ?_
  refine And.intro q1 ?_
  refine And.intro r2 ?_
  refine And.intro q2 ?_
  refine And.intro r3 ?_
  refine And.intro q3 ?_
  refine dcI (cs := s_L_slice) (by rfl) (mc := 3) (ms := 18) (ht := 6) (by rfl) ⟨rfl, by omega, by omega, rfl⟩ (c_slice L (SX (i + 1)) (SX (i + 2)) (SX (i + 3))) ?_
  rintro k g1 q n1
  refine And.intro r1 ?_
  refine And.intro q1 ?_
  refine And.intro r2 ?_
  refine And.intro q2 ?_
  refine And.intro r3 ?_
  refine And.intro q3 ?_
  refine dcE (cs := s_X10_slice) (by rfl) (ht := 5) (by rfl) ⟨rfl, by omega, by omega, rfl⟩ q ?_
  rintro y g2 L2 e1 e2 n2
  refine dcT (by rfl) (by rfl) ⟨rfl, by omega, by omega, rfl⟩ ?_
  refine And.intro (fun _ => ?_) (fun e9 => absurd e1 e9)
  refine And.intro (fun _ => ?_) (fun e3 => ?_)
  · skip
    exact hK _ _ _ L2 (B.st (Nat.le_trans n1 n2) L2 (by omega) (by omega))
  · skip
    refine And.intro ⟨by decide, by decide⟩ ?_
    refine And.intro (fun _ => ?_) (fun e9 => absurd (cmpL_z (e2 e3)) e9)
    exact hK _ _ _ L2 (B.st (Nat.le_trans n1 n2) L2 (by omega) (by omega))
set_option maxRecDepth 100000 in
set_option maxHeartbeats 1000000 in
theorem w_extend {n : Int} {SX : Int → Int} {K : AKK} {i : Int} {h : Hp} {u v : Nat} (hn : n ≤ 2048) (i0 : 0 ≤ i) (i4 : i + 4 ≤ n) (L : LI h) (B : Bg i h u v) (hK : ∀ g u9 v9, LI g → Bg (i + 4) g u9 v9 → K 2363 [aX 1000, aX 0, aX 62, aX 77, .inl i] g u9 v9) : aw true 2 601024 7293034 100 (sp clW) [] RtW XW (some n) SX [] cutW K 400 code_LK5 564 (lmk 0 7 [0, 1, 2, 3, 4] [aX 1000, aX 0, aX 62, aX 77, .inl i]) [] h u v := by
  have r1 : Rng (i + 1) := ⟨by omega, by omega⟩
  have q1 : inR (i + 1) n := ⟨by omega, by omega⟩
  have r2 : Rng (i + 2) := ⟨by omega, by omega⟩
  have q2 : inR (i + 2) n := ⟨by omega, by omega⟩
  have r3 : Rng (i + 3) := ⟨by omega, by omega⟩
  have q3 : inR (i + 3) n := ⟨by omega, by omega⟩
  have b := B.bd i0 i4 hn
  refine And.intro r1 ?_
  refine And.intro q1 ?_
  refine And.intro r2 ?_
  refine And.intro q2 ?_
  refine And.intro r3 ?_
  refine And.intro q3 ?_
  refine And.intro (fun z0 => ?_) (fun z0 => ?_)
  · skip
    refine dcI (cs := s_L_extend) (by rfl) (mc := 3) (ms := 18) (ht := 6) (by rfl) ⟨rfl, by omega, by omega, rfl⟩ (c_extend L (SX (i + 1)) (SX (i + 2)) (0)) ?_
    rintro k g1 q n1
    refine And.intro r1 ?_
    refine And.intro q1 ?_
    refine And.intro r2 ?_
    refine And.intro q2 ?_
    refine And.intro r3 ?_
    refine And.intro q3 ?_
    refine And.intro (fun _ => ?_) (fun e9 => absurd z0 e9)
    refine dcE (cs := s_X10_extend) (by rfl) (ht := 5) (by rfl) ⟨rfl, by omega, by omega, rfl⟩ q ?_
    rintro y g2 L2 e1 e2 n2
    refine dcT (by rfl) (by rfl) ⟨rfl, by omega, by omega, rfl⟩ ?_
    refine And.intro (fun _ => ?_) (fun e9 => absurd e1 e9)
    refine And.intro (fun _ => ?_) (fun e3 => ?_)
    · skip
      exact hK _ _ _ L2 (B.st (Nat.le_trans n1 n2) L2 (by omega) (by omega))
    · skip
      refine And.intro ⟨by decide, by decide⟩ ?_
      refine And.intro (fun _ => ?_) (fun e9 => absurd (cmpL_z (e2 e3)) e9)
      exact hK _ _ _ L2 (B.st (Nat.le_trans n1 n2) L2 (by omega) (by omega))
  · skip
    refine dcI (cs := s_L_extend) (by rfl) (mc := 3) (ms := 18) (ht := 6) (by rfl) ⟨rfl, by omega, by omega, rfl⟩ (c_extend L (SX (i + 1)) (SX (i + 2)) (1)) ?_
    rintro k g1 q n1
    refine And.intro r1 ?_
    refine And.intro q1 ?_
    refine And.intro r2 ?_
    refine And.intro q2 ?_
    refine And.intro r3 ?_
    refine And.intro q3 ?_
    refine And.intro (fun e9 => absurd e9 z0) (fun _ => ?_)
    refine dcE (cs := s_X10_extend) (by rfl) (ht := 5) (by rfl) ⟨rfl, by omega, by omega, rfl⟩ q ?_
    rintro y g2 L2 e1 e2 n2
    refine dcT (by rfl) (by rfl) ⟨rfl, by omega, by omega, rfl⟩ ?_
    refine And.intro (fun _ => ?_) (fun e9 => absurd e1 e9)
    refine And.intro (fun _ => ?_) (fun e3 => ?_)
    · skip
      exact hK _ _ _ L2 (B.st (Nat.le_trans n1 n2) L2 (by omega) (by omega))
    · skip
      refine And.intro ⟨by decide, by decide⟩ ?_
      refine And.intro (fun _ => ?_) (fun e9 => absurd (cmpL_z (e2 e3)) e9)
      exact hK _ _ _ L2 (B.st (Nat.le_trans n1 n2) L2 (by omega) (by omega))
set_option maxRecDepth 100000 in
set_option maxHeartbeats 1000000 in
theorem w_choice {n : Int} {SX : Int → Int} {K : AKK} {i : Int} {h : Hp} {u v : Nat} (hn : n ≤ 2048) (i0 : 0 ≤ i) (i4 : i + 4 ≤ n) (L : LI h) (B : Bg i h u v) (hK : ∀ g u9 v9, LI g → Bg (i + 4) g u9 v9 → K 2363 [aX 1000, aX 0, aX 62, aX 77, .inl i] g u9 v9) : aw true 2 601024 7293034 100 (sp clW) [] RtW XW (some n) SX [] cutW K 400 code_LK6 660 (lmk 0 7 [0, 1, 2, 3, 4] [aX 1000, aX 0, aX 62, aX 77, .inl i]) [] h u v := by
  have r1 : Rng (i + 1) := ⟨by omega, by omega⟩
  have q1 : inR (i + 1) n := ⟨by omega, by omega⟩
  have r2 : Rng (i + 2) := ⟨by omega, by omega⟩
  have q2 : inR (i + 2) n := ⟨by omega, by omega⟩
  have r3 : Rng (i + 3) := ⟨by omega, by omega⟩
  have q3 : inR (i + 3) n := ⟨by omega, by omega⟩
  have b := B.bd i0 i4 hn
  refine And.intro r1 ?_
  refine And.intro q1 ?_
  refine And.intro r2 ?_
  refine And.intro q2 ?_
  refine And.intro r3 ?_
  refine And.intro q3 ?_
  refine dcI (cs := s_L_choice) (by rfl) (mc := 4) (ms := 24) (ht := 5) (by rfl) ⟨rfl, by omega, by omega, rfl⟩ (c_choice L (SX (i + 1)) (SX (i + 2)) (SX (i + 3))) ?_
  rintro k g1 q n1
  refine And.intro r1 ?_
  refine And.intro q1 ?_
  refine And.intro r2 ?_
  refine And.intro q2 ?_
  refine And.intro r3 ?_
  refine And.intro q3 ?_
  refine dcE (cs := s_X10_choice) (by rfl) (ht := 5) (by rfl) ⟨rfl, by omega, by omega, rfl⟩ q ?_
  rintro y g2 L2 e1 e2 n2
  refine dcT (by rfl) (by rfl) ⟨rfl, by omega, by omega, rfl⟩ ?_
  refine And.intro (fun _ => ?_) (fun e9 => absurd e1 e9)
  refine And.intro (fun _ => ?_) (fun e3 => ?_)
  · skip
    exact hK _ _ _ L2 (B.st (Nat.le_trans n1 n2) L2 (by omega) (by omega))
  · skip
    refine And.intro ⟨by decide, by decide⟩ ?_
    refine And.intro (fun _ => ?_) (fun e9 => absurd (cmpL_z (e2 e3)) e9)
    exact hK _ _ _ L2 (B.st (Nat.le_trans n1 n2) L2 (by omega) (by omega))
set_option maxRecDepth 100000 in
set_option maxHeartbeats 1000000 in
theorem w_nodes {n : Int} {SX : Int → Int} {K : AKK} {i : Int} {h : Hp} {u v : Nat} (hn : n ≤ 2048) (i0 : 0 ≤ i) (i4 : i + 4 ≤ n) (L : LI h) (B : Bg i h u v) (hK : ∀ g u9 v9, LI g → Bg (i + 4) g u9 v9 → K 2363 [aX 1000, aX 0, aX 62, aX 77, .inl i] g u9 v9) : aw true 2 601024 7293034 100 (sp clW) [] RtW XW (some n) SX [] cutW K 400 code_LK7 740 (lmk 0 7 [0, 1, 2, 3, 4] [aX 1000, aX 0, aX 62, aX 77, .inl i]) [] h u v := by
  have b := B.bd i0 i4 hn
  refine dcI (cs := s_X9_nodes) (by rfl) (mc := 0) (ms := 0) (ht := 2) (by rfl) ⟨rfl, by omega, by omega, rfl⟩ (c_nodes L) ?_
  rintro k g1 q n1
  refine dcF (cs := s_X10_nodes) (by rfl) (ht := 1) (by rfl) ⟨rfl, by omega, by omega, rfl⟩ q ?_
  rintro g2 L2 n2
  refine And.intro (fun _ => ?_) (fun e9 => absurd rfl e9)
  exact hK _ _ _ L2 (B.st (Nat.le_trans n1 n2) L2 (by omega) (by omega))
set_option maxRecDepth 100000 in
set_option maxHeartbeats 1000000 in
theorem w_variables {n : Int} {SX : Int → Int} {K : AKK} {i : Int} {h : Hp} {u v : Nat} (hn : n ≤ 2048) (i0 : 0 ≤ i) (i4 : i + 4 ≤ n) (L : LI h) (B : Bg i h u v) (hK : ∀ g u9 v9, LI g → Bg (i + 4) g u9 v9 → K 2363 [aX 1000, aX 0, aX 62, aX 77, .inl i] g u9 v9) : aw true 2 601024 7293034 100 (sp clW) [] RtW XW (some n) SX [] cutW K 400 code_LK8 753 (lmk 0 7 [0, 1, 2, 3, 4] [aX 1000, aX 0, aX 62, aX 77, .inl i]) [] h u v := by
  have b := B.bd i0 i4 hn
  refine dcI (cs := s_X9_variables) (by rfl) (mc := 0) (ms := 0) (ht := 2) (by rfl) ⟨rfl, by omega, by omega, rfl⟩ (c_variables L) ?_
  rintro k g1 q n1
  refine dcF (cs := s_X10_variables) (by rfl) (ht := 1) (by rfl) ⟨rfl, by omega, by omega, rfl⟩ q ?_
  rintro g2 L2 n2
  refine And.intro (fun _ => ?_) (fun e9 => absurd rfl e9)
  exact hK _ _ _ L2 (B.st (Nat.le_trans n1 n2) L2 (by omega) (by omega))
set_option maxRecDepth 100000 in
set_option maxHeartbeats 1000000 in
theorem w_info {n : Int} {SX : Int → Int} {K : AKK} {i : Int} {h : Hp} {u v : Nat} (hn : n ≤ 2048) (i0 : 0 ≤ i) (i4 : i + 4 ≤ n) (L : LI h) (B : Bg i h u v) (hK : ∀ g u9 v9, LI g → Bg (i + 4) g u9 v9 → K 2363 [aX 1000, aX 0, aX 62, aX 77, .inl i] g u9 v9) : aw true 2 601024 7293034 100 (sp clW) [] RtW XW (some n) SX [] cutW K 400 code_LK9 766 (lmk 0 7 [0, 1, 2, 3, 4] [aX 1000, aX 0, aX 62, aX 77, .inl i]) [] h u v := by
  have r1 : Rng (i + 1) := ⟨by omega, by omega⟩
  have q1 : inR (i + 1) n := ⟨by omega, by omega⟩
  have r2 : Rng (i + 2) := ⟨by omega, by omega⟩
  have q2 : inR (i + 2) n := ⟨by omega, by omega⟩
  have b := B.bd i0 i4 hn
  refine And.intro r1 ?_
  refine And.intro q1 ?_
  refine And.intro r2 ?_
  refine And.intro q2 ?_
  refine dcI (cs := s_L_info) (by rfl) (mc := 2) (ms := 12) (ht := 4) (by rfl) ⟨rfl, by omega, by omega, rfl⟩ (c_info L (SX (i + 1)) (SX (i + 2))) ?_
  rintro k g1 q n1
  refine And.intro r1 ?_
  refine And.intro q1 ?_
  refine And.intro r2 ?_
  refine And.intro q2 ?_
  refine dcE (cs := s_X10_info) (by rfl) (ht := 4) (by rfl) ⟨rfl, by omega, by omega, rfl⟩ q ?_
  rintro y g2 L2 e1 e2 n2
  refine dcT (by rfl) (by rfl) ⟨rfl, by omega, by omega, rfl⟩ ?_
  refine And.intro (fun _ => ?_) (fun e9 => absurd e1 e9)
  refine And.intro (fun _ => ?_) (fun e3 => ?_)
  · skip
    exact hK _ _ _ L2 (B.st (Nat.le_trans n1 n2) L2 (by omega) (by omega))
  · skip
    refine And.intro ⟨by decide, by decide⟩ ?_
    refine And.intro (fun _ => ?_) (fun e9 => absurd (cmpL_z (e2 e3)) e9)
    exact hK _ _ _ L2 (B.st (Nat.le_trans n1 n2) L2 (by omega) (by omega))

/-! ===== the law's cases ===== -/
set_option maxRecDepth 100000 in
set_option maxHeartbeats 1000000 in
theorem w_extremeWitness {n : Int} {SX : Int → Int} {K : AKK} {i : Int} {h : Hp} {u v : Nat} (hn : n ≤ 2048) (i0 : 0 ≤ i) (i4 : i + 4 ≤ n) (L : LI h) (B : Bg i h u v) (hK : ∀ g u9 v9, LI g → Bg (i + 4) g u9 v9 → K 2363 [aX 1000, aX 0, aX 62, aX 77, .inl i] g u9 v9) : aw true 2 601024 7293034 100 (sp clW) [] RtW XW (some n) SX [] cutW K 400 code_LK20 1408 (lmk 0 7 [0, 1, 2, 3, 4] [aX 1000, aX 0, aX 62, aX 77, .inl i]) [] h u v := by
  have r1 : Rng (i + 1) := ⟨by omega, by omega⟩
  have q1 : inR (i + 1) n := ⟨by omega, by omega⟩
  have r2 : Rng (i + 2) := ⟨by omega, by omega⟩
  have q2 : inR (i + 2) n := ⟨by omega, by omega⟩
  have r3 : Rng (i + 3) := ⟨by omega, by omega⟩
  have q3 : inR (i + 3) n := ⟨by omega, by omega⟩
  have b := B.bd i0 i4 hn
  refine And.intro r1 ?_
  refine And.intro q1 ?_
  refine And.intro r2 ?_
  refine And.intro q2 ?_
  refine And.intro (fun z0 => ?_) (fun z0 => ?_)
  · skip
    refine And.intro r3 ?_
    refine And.intro q3 ?_
    show doC 601024 7293034 100 (sp clW) [] XW (kw n SX K 380 (code_LK20.drop 22)) 1436 1439 (lmk 0 7 [0, 1, 2, 3, 4] [aX 1000, aX 0, aX 62, aX 77, .inl i]) h u v 318 [aX 0, .inl (SX (i + 1)), .inl 0, .inl (SX (i + 3)), aX 77] []
    refine dcI (cs := s_L_extremeWitness) (by rfl) (mc := 2) (ms := 12) (ht := 8) (by rfl) ⟨rfl, by omega, by omega, rfl⟩ (c_extremeWitness L (SX (i + 1)) (0) (SX (i + 3))) ?_
    rintro k g1 q n1
    refine And.intro r1 ?_
    refine And.intro q1 ?_
    refine And.intro r2 ?_
    refine And.intro q2 ?_
    refine And.intro (fun _ => ?_) (fun e9 => absurd z0 e9)
    refine And.intro r3 ?_
    refine And.intro q3 ?_
    show doC 601024 7293034 100 (sp clW) [] XW (kw n SX K 360 (code_LK20.drop 44)) 1468 1471 (lset1 (lmk 0 7 [0, 1, 2, 3, 4] [aX 1000, aX 0, aX 62, aX 77, .inl i]) 5 (.inl k)) g1 (u + 2) (v + 12) 244 [aX 62, .inl (SX (i + 1)), .inl 0, .inl (SX (i + 3))] []
    refine dcE (cs := s_X10_extremeWitness) (by rfl) (ht := 9) (by rfl) ⟨rfl, by omega, by omega, rfl⟩ q ?_
    rintro y g2 L2 e1 e2 n2
    show doC 601024 7293034 100 (sp clW) [] XW (kw n SX K 357 (code_LK20.drop 47)) 1474 1477 (lset1 (lset1 (lmk 0 7 [0, 1, 2, 3, 4] [aX 1000, aX 0, aX 62, aX 77, .inl i]) 5 (.inl k)) 6 (.inl y)) g2 (u + 2) (v + 12) 190 [aX 62] []
    refine dcT (by rfl) (by rfl) ⟨rfl, by omega, by omega, rfl⟩ ?_
    refine And.intro (fun _ => ?_) (fun e9 => absurd e1 e9)
    refine And.intro (fun _ => ?_) (fun e3 => ?_)
    · skip
      exact hK _ _ _ L2 (B.st (Nat.le_trans n1 n2) L2 (by omega) (by omega))
    · skip
      refine And.intro ⟨by decide, by decide⟩ ?_
      refine And.intro (fun _ => ?_) (fun e9 => absurd (cmpL_z (e2 e3)) e9)
      exact hK _ _ _ L2 (B.st (Nat.le_trans n1 n2) L2 (by omega) (by omega))
  · skip
    refine And.intro r3 ?_
    refine And.intro q3 ?_
    show doC 601024 7293034 100 (sp clW) [] XW (kw n SX K 379 (code_LK20.drop 22)) 1436 1439 (lmk 0 7 [0, 1, 2, 3, 4] [aX 1000, aX 0, aX 62, aX 77, .inl i]) h u v 318 [aX 0, .inl (SX (i + 1)), .inl 1, .inl (SX (i + 3)), aX 77] []
    refine dcI (cs := s_L_extremeWitness) (by rfl) (mc := 2) (ms := 12) (ht := 8) (by rfl) ⟨rfl, by omega, by omega, rfl⟩ (c_extremeWitness L (SX (i + 1)) (1) (SX (i + 3))) ?_
    rintro k g1 q n1
    refine And.intro r1 ?_
    refine And.intro q1 ?_
    refine And.intro r2 ?_
    refine And.intro q2 ?_
    refine And.intro (fun e9 => absurd e9 z0) (fun _ => ?_)
    refine And.intro r3 ?_
    refine And.intro q3 ?_
    show doC 601024 7293034 100 (sp clW) [] XW (kw n SX K 358 (code_LK20.drop 44)) 1468 1471 (lset1 (lmk 0 7 [0, 1, 2, 3, 4] [aX 1000, aX 0, aX 62, aX 77, .inl i]) 5 (.inl k)) g1 (u + 2) (v + 12) 244 [aX 62, .inl (SX (i + 1)), .inl 1, .inl (SX (i + 3))] []
    refine dcE (cs := s_X10_extremeWitness) (by rfl) (ht := 9) (by rfl) ⟨rfl, by omega, by omega, rfl⟩ q ?_
    rintro y g2 L2 e1 e2 n2
    show doC 601024 7293034 100 (sp clW) [] XW (kw n SX K 355 (code_LK20.drop 47)) 1474 1477 (lset1 (lset1 (lmk 0 7 [0, 1, 2, 3, 4] [aX 1000, aX 0, aX 62, aX 77, .inl i]) 5 (.inl k)) 6 (.inl y)) g2 (u + 2) (v + 12) 190 [aX 62] []
    refine dcT (by rfl) (by rfl) ⟨rfl, by omega, by omega, rfl⟩ ?_
    refine And.intro (fun _ => ?_) (fun e9 => absurd e1 e9)
    refine And.intro (fun _ => ?_) (fun e3 => ?_)
    · skip
      exact hK _ _ _ L2 (B.st (Nat.le_trans n1 n2) L2 (by omega) (by omega))
    · skip
      refine And.intro ⟨by decide, by decide⟩ ?_
      refine And.intro (fun _ => ?_) (fun e9 => absurd (cmpL_z (e2 e3)) e9)
      exact hK _ _ _ L2 (B.st (Nat.le_trans n1 n2) L2 (by omega) (by omega))
set_option maxRecDepth 100000 in
set_option maxHeartbeats 1000000 in
theorem w_fixed {n : Int} {SX : Int → Int} {K : AKK} {i : Int} {h : Hp} {u v : Nat} (hn : n ≤ 2048) (i0 : 0 ≤ i) (i4 : i + 4 ≤ n) (L : LI h) (B : Bg i h u v) (hK : ∀ g u9 v9, LI g → Bg (i + 4) g u9 v9 → K 2363 [aX 1000, aX 0, aX 62, aX 77, .inl i] g u9 v9) : aw true 2 601024 7293034 100 (sp clW) [] RtW XW (some n) SX [] cutW K 400 code_LK21 1504 (lmk 0 7 [0, 1, 2, 3, 4] [aX 1000, aX 0, aX 62, aX 77, .inl i]) [] h u v := by
  have r1 : Rng (i + 1) := ⟨by omega, by omega⟩
  have q1 : inR (i + 1) n := ⟨by omega, by omega⟩
  have r2 : Rng (i + 2) := ⟨by omega, by omega⟩
  have q2 : inR (i + 2) n := ⟨by omega, by omega⟩
  have b := B.bd i0 i4 hn
  refine And.intro r1 ?_
  refine And.intro q1 ?_
  refine And.intro r2 ?_
  refine And.intro q2 ?_
  refine And.intro (fun z0 => ?_) (fun z0 => ?_)
  · skip
    show doC 601024 7293034 100 (sp clW) [] XW (kw n SX K 385 (code_LK21.drop 17)) 1526 1529 (lmk 0 7 [0, 1, 2, 3, 4] [aX 1000, aX 0, aX 62, aX 77, .inl i]) h u v 319 [aX 0, .inl (SX (i + 1)), .inl 0, aX 77] []
    refine dcI (cs := s_L_fixed) (by rfl) (mc := 1) (ms := 6) (ht := 8) (by rfl) ⟨rfl, by omega, by omega, rfl⟩ (c_fixed L (SX (i + 1)) (0)) ?_
    rintro k g1 q n1
    refine And.intro r1 ?_
    refine And.intro q1 ?_
    refine And.intro r2 ?_
    refine And.intro q2 ?_
    refine And.intro (fun _ => ?_) (fun e9 => absurd z0 e9)
    show doC 601024 7293034 100 (sp clW) [] XW (kw n SX K 370 (code_LK21.drop 34)) 1552 1555 (lset1 (lmk 0 7 [0, 1, 2, 3, 4] [aX 1000, aX 0, aX 62, aX 77, .inl i]) 5 (.inl k)) g1 (u + 1) (v + 6) 245 [aX 62, .inl (SX (i + 1)), .inl 0] []
    refine dcE (cs := s_X10_fixed) (by rfl) (ht := 8) (by rfl) ⟨rfl, by omega, by omega, rfl⟩ q ?_
    rintro y g2 L2 e1 e2 n2
    show doC 601024 7293034 100 (sp clW) [] XW (kw n SX K 367 (code_LK21.drop 37)) 1558 1561 (lset1 (lset1 (lmk 0 7 [0, 1, 2, 3, 4] [aX 1000, aX 0, aX 62, aX 77, .inl i]) 5 (.inl k)) 6 (.inl y)) g2 (u + 1) (v + 6) 190 [aX 62] []
    refine dcT (by rfl) (by rfl) ⟨rfl, by omega, by omega, rfl⟩ ?_
    refine And.intro (fun _ => ?_) (fun e9 => absurd e1 e9)
    refine And.intro (fun _ => ?_) (fun e3 => ?_)
    · skip
      exact hK _ _ _ L2 (B.st (Nat.le_trans n1 n2) L2 (by omega) (by omega))
    · skip
      refine And.intro ⟨by decide, by decide⟩ ?_
      refine And.intro (fun _ => ?_) (fun e9 => absurd (cmpL_z (e2 e3)) e9)
      exact hK _ _ _ L2 (B.st (Nat.le_trans n1 n2) L2 (by omega) (by omega))
  · skip
    show doC 601024 7293034 100 (sp clW) [] XW (kw n SX K 384 (code_LK21.drop 17)) 1526 1529 (lmk 0 7 [0, 1, 2, 3, 4] [aX 1000, aX 0, aX 62, aX 77, .inl i]) h u v 319 [aX 0, .inl (SX (i + 1)), .inl 1, aX 77] []
    refine dcI (cs := s_L_fixed) (by rfl) (mc := 1) (ms := 6) (ht := 8) (by rfl) ⟨rfl, by omega, by omega, rfl⟩ (c_fixed L (SX (i + 1)) (1)) ?_
    rintro k g1 q n1
    refine And.intro r1 ?_
    refine And.intro q1 ?_
    refine And.intro r2 ?_
    refine And.intro q2 ?_
    refine And.intro (fun e9 => absurd e9 z0) (fun _ => ?_)
    show doC 601024 7293034 100 (sp clW) [] XW (kw n SX K 368 (code_LK21.drop 34)) 1552 1555 (lset1 (lmk 0 7 [0, 1, 2, 3, 4] [aX 1000, aX 0, aX 62, aX 77, .inl i]) 5 (.inl k)) g1 (u + 1) (v + 6) 245 [aX 62, .inl (SX (i + 1)), .inl 1] []
    refine dcE (cs := s_X10_fixed) (by rfl) (ht := 8) (by rfl) ⟨rfl, by omega, by omega, rfl⟩ q ?_
    rintro y g2 L2 e1 e2 n2
    show doC 601024 7293034 100 (sp clW) [] XW (kw n SX K 365 (code_LK21.drop 37)) 1558 1561 (lset1 (lset1 (lmk 0 7 [0, 1, 2, 3, 4] [aX 1000, aX 0, aX 62, aX 77, .inl i]) 5 (.inl k)) 6 (.inl y)) g2 (u + 1) (v + 6) 190 [aX 62] []
    refine dcT (by rfl) (by rfl) ⟨rfl, by omega, by omega, rfl⟩ ?_
    refine And.intro (fun _ => ?_) (fun e9 => absurd e1 e9)
    refine And.intro (fun _ => ?_) (fun e3 => ?_)
    · skip
      exact hK _ _ _ L2 (B.st (Nat.le_trans n1 n2) L2 (by omega) (by omega))
    · skip
      refine And.intro ⟨by decide, by decide⟩ ?_
      refine And.intro (fun _ => ?_) (fun e9 => absurd (cmpL_z (e2 e3)) e9)
      exact hK _ _ _ L2 (B.st (Nat.le_trans n1 n2) L2 (by omega) (by omega))
set_option maxRecDepth 100000 in
set_option maxHeartbeats 1000000 in
theorem w_models {n : Int} {SX : Int → Int} {K : AKK} {i : Int} {h : Hp} {u v : Nat} (hn : n ≤ 2048) (i0 : 0 ≤ i) (i4 : i + 4 ≤ n) (L : LI h) (B : Bg i h u v) (hK : ∀ g u9 v9, LI g → Bg (i + 4) g u9 v9 → K 2363 [aX 1000, aX 0, aX 62, aX 77, .inl i] g u9 v9) : aw true 2 601024 7293034 100 (sp clW) [] RtW XW (some n) SX [] cutW K 400 code_LK22 1588 (lmk 0 7 [0, 1, 2, 3, 4] [aX 1000, aX 0, aX 62, aX 77, .inl i]) [] h u v := by
  have r1 : Rng (i + 1) := ⟨by omega, by omega⟩
  have q1 : inR (i + 1) n := ⟨by omega, by omega⟩
  have b := B.bd i0 i4 hn
  refine And.intro r1 ?_
  refine And.intro q1 ?_
  show doC 601024 7293034 100 (sp clW) [] XW (kw n SX K 392 (code_LK22.drop 8)) 1596 1599 (lmk 0 7 [0, 1, 2, 3, 4] [aX 1000, aX 0, aX 62, aX 77, .inl i]) h u v 320 [aX 0, .inl (SX (i + 1)), aX 77] []
  refine dcI (cs := s_L_models) (by rfl) (mc := 1) (ms := 6) (ht := 8) (by rfl) ⟨rfl, by omega, by omega, rfl⟩ (c_models L (SX (i + 1))) ?_
  rintro k g1 q n1
  refine And.intro r1 ?_
  refine And.intro q1 ?_
  show doC 601024 7293034 100 (sp clW) [] XW (kw n SX K 384 (code_LK22.drop 16)) 1608 1611 (lset1 (lmk 0 7 [0, 1, 2, 3, 4] [aX 1000, aX 0, aX 62, aX 77, .inl i]) 5 (.inl k)) g1 (u + 1) (v + 6) 246 [aX 62, .inl (SX (i + 1))] []
  refine dcE (cs := s_X10_models) (by rfl) (ht := 8) (by rfl) ⟨rfl, by omega, by omega, rfl⟩ q ?_
  rintro y g2 L2 e1 e2 n2
  show doC 601024 7293034 100 (sp clW) [] XW (kw n SX K 381 (code_LK22.drop 19)) 1614 1617 (lset1 (lset1 (lmk 0 7 [0, 1, 2, 3, 4] [aX 1000, aX 0, aX 62, aX 77, .inl i]) 5 (.inl k)) 6 (.inl y)) g2 (u + 1) (v + 6) 190 [aX 62] []
  refine dcT (by rfl) (by rfl) ⟨rfl, by omega, by omega, rfl⟩ ?_
  refine And.intro (fun _ => ?_) (fun e9 => absurd e1 e9)
  refine And.intro (fun _ => ?_) (fun e3 => ?_)
  · skip
    exact hK _ _ _ L2 (B.st (Nat.le_trans n1 n2) L2 (by omega) (by omega))
  · skip
    refine And.intro ⟨by decide, by decide⟩ ?_
    refine And.intro (fun _ => ?_) (fun e9 => absurd (cmpL_z (e2 e3)) e9)
    exact hK _ _ _ L2 (B.st (Nat.le_trans n1 n2) L2 (by omega) (by omega))
set_option maxRecDepth 100000 in
set_option maxHeartbeats 1000000 in
theorem w_values {n : Int} {SX : Int → Int} {K : AKK} {i : Int} {h : Hp} {u v : Nat} (hn : n ≤ 2048) (i0 : 0 ≤ i) (i4 : i + 4 ≤ n) (L : LI h) (B : Bg i h u v) (hK : ∀ g u9 v9, LI g → Bg (i + 4) g u9 v9 → K 2363 [aX 1000, aX 0, aX 62, aX 77, .inl i] g u9 v9) : aw true 2 601024 7293034 100 (sp clW) [] RtW XW (some n) SX [] cutW K 400 code_LK23 1644 (lmk 0 7 [0, 1, 2, 3, 4] [aX 1000, aX 0, aX 62, aX 77, .inl i]) [] h u v := by
  have r1 : Rng (i + 1) := ⟨by omega, by omega⟩
  have q1 : inR (i + 1) n := ⟨by omega, by omega⟩
  have r2 : Rng (i + 2) := ⟨by omega, by omega⟩
  have q2 : inR (i + 2) n := ⟨by omega, by omega⟩
  have b := B.bd i0 i4 hn
  refine And.intro r1 ?_
  refine And.intro q1 ?_
  refine And.intro r2 ?_
  refine And.intro q2 ?_
  show doC 601024 7293034 100 (sp clW) [] XW (kw n SX K 387 (code_LK23.drop 13)) 1658 1661 (lmk 0 7 [0, 1, 2, 3, 4] [aX 1000, aX 0, aX 62, aX 77, .inl i]) h u v 321 [aX 0, .inl (SX (i + 1)), .inl (SX (i + 2)), aX 77] []
  refine dcI (cs := s_L_values) (by rfl) (mc := 2) (ms := 12) (ht := 8) (by rfl) ⟨rfl, by omega, by omega, rfl⟩ (c_values L (SX (i + 1)) (SX (i + 2))) ?_
  rintro k g1 q n1
  refine And.intro r1 ?_
  refine And.intro q1 ?_
  refine And.intro r2 ?_
  refine And.intro q2 ?_
  show doC 601024 7293034 100 (sp clW) [] XW (kw n SX K 374 (code_LK23.drop 26)) 1676 1679 (lset1 (lmk 0 7 [0, 1, 2, 3, 4] [aX 1000, aX 0, aX 62, aX 77, .inl i]) 5 (.inl k)) g1 (u + 2) (v + 12) 248 [aX 62, .inl (SX (i + 1)), .inl (SX (i + 2))] []
  refine dcE (cs := s_X10_values) (by rfl) (ht := 9) (by rfl) ⟨rfl, by omega, by omega, rfl⟩ q ?_
  rintro y g2 L2 e1 e2 n2
  show doC 601024 7293034 100 (sp clW) [] XW (kw n SX K 371 (code_LK23.drop 29)) 1682 1685 (lset1 (lset1 (lmk 0 7 [0, 1, 2, 3, 4] [aX 1000, aX 0, aX 62, aX 77, .inl i]) 5 (.inl k)) 6 (.inl y)) g2 (u + 2) (v + 12) 190 [aX 62] []
  refine dcT (by rfl) (by rfl) ⟨rfl, by omega, by omega, rfl⟩ ?_
  refine And.intro (fun _ => ?_) (fun e9 => absurd e1 e9)
  refine And.intro (fun _ => ?_) (fun e3 => ?_)
  · skip
    exact hK _ _ _ L2 (B.st (Nat.le_trans n1 n2) L2 (by omega) (by omega))
  · skip
    refine And.intro ⟨by decide, by decide⟩ ?_
    refine And.intro (fun _ => ?_) (fun e9 => absurd (cmpL_z (e2 e3)) e9)
    exact hK _ _ _ L2 (B.st (Nat.le_trans n1 n2) L2 (by omega) (by omega))
set_option maxRecDepth 100000 in
set_option maxHeartbeats 1000000 in
theorem w_valueAt {n : Int} {SX : Int → Int} {K : AKK} {i : Int} {h : Hp} {u v : Nat} (hn : n ≤ 2048) (i0 : 0 ≤ i) (i4 : i + 4 ≤ n) (L : LI h) (B : Bg i h u v) (hK : ∀ g u9 v9, LI g → Bg (i + 4) g u9 v9 → K 2363 [aX 1000, aX 0, aX 62, aX 77, .inl i] g u9 v9) : aw true 2 601024 7293034 100 (sp clW) [] RtW XW (some n) SX [] cutW K 400 code_LK24 1712 (lmk 0 7 [0, 1, 2, 3, 4] [aX 1000, aX 0, aX 62, aX 77, .inl i]) [] h u v := by
  have r1 : Rng (i + 1) := ⟨by omega, by omega⟩
  have q1 : inR (i + 1) n := ⟨by omega, by omega⟩
  have r2 : Rng (i + 2) := ⟨by omega, by omega⟩
  have q2 : inR (i + 2) n := ⟨by omega, by omega⟩
  have b := B.bd i0 i4 hn
  refine And.intro r1 ?_
  refine And.intro q1 ?_
  refine And.intro r2 ?_
  refine And.intro q2 ?_
  show doC 601024 7293034 100 (sp clW) [] XW (kw n SX K 387 (code_LK24.drop 13)) 1726 1729 (lmk 0 7 [0, 1, 2, 3, 4] [aX 1000, aX 0, aX 62, aX 77, .inl i]) h u v 322 [aX 0, .inl (SX (i + 1)), .inl (SX (i + 2)), aX 77] []
  refine dcI (cs := s_L_valueAt) (by rfl) (mc := 1) (ms := 6) (ht := 8) (by rfl) ⟨rfl, by omega, by omega, rfl⟩ (c_valueAt L (SX (i + 1)) (SX (i + 2))) ?_
  rintro k g1 q n1
  refine And.intro r1 ?_
  refine And.intro q1 ?_
  refine And.intro r2 ?_
  refine And.intro q2 ?_
  show doC 601024 7293034 100 (sp clW) [] XW (kw n SX K 374 (code_LK24.drop 26)) 1744 1747 (lset1 (lmk 0 7 [0, 1, 2, 3, 4] [aX 1000, aX 0, aX 62, aX 77, .inl i]) 5 (.inl k)) g1 (u + 1) (v + 6) 249 [aX 62, .inl (SX (i + 1)), .inl (SX (i + 2))] []
  refine dcE (cs := s_X10_valueAt) (by rfl) (ht := 9) (by rfl) ⟨rfl, by omega, by omega, rfl⟩ q ?_
  rintro y g2 L2 e1 e2 n2
  show doC 601024 7293034 100 (sp clW) [] XW (kw n SX K 371 (code_LK24.drop 29)) 1750 1753 (lset1 (lset1 (lmk 0 7 [0, 1, 2, 3, 4] [aX 1000, aX 0, aX 62, aX 77, .inl i]) 5 (.inl k)) 6 (.inl y)) g2 (u + 1) (v + 6) 190 [aX 62] []
  refine dcT (by rfl) (by rfl) ⟨rfl, by omega, by omega, rfl⟩ ?_
  refine And.intro (fun _ => ?_) (fun e9 => absurd e1 e9)
  refine And.intro (fun _ => ?_) (fun e3 => ?_)
  · skip
    exact hK _ _ _ L2 (B.st (Nat.le_trans n1 n2) L2 (by omega) (by omega))
  · skip
    refine And.intro ⟨by decide, by decide⟩ ?_
    refine And.intro (fun _ => ?_) (fun e9 => absurd (cmpL_z (e2 e3)) e9)
    exact hK _ _ _ L2 (B.st (Nat.le_trans n1 n2) L2 (by omega) (by omega))
set_option maxRecDepth 100000 in
set_option maxHeartbeats 1000000 in
theorem w_equivalent {n : Int} {SX : Int → Int} {K : AKK} {i : Int} {h : Hp} {u v : Nat} (hn : n ≤ 2048) (i0 : 0 ≤ i) (i4 : i + 4 ≤ n) (L : LI h) (B : Bg i h u v) (hK : ∀ g u9 v9, LI g → Bg (i + 4) g u9 v9 → K 2363 [aX 1000, aX 0, aX 62, aX 77, .inl i] g u9 v9) : aw true 2 601024 7293034 100 (sp clW) [] RtW XW (some n) SX [] cutW K 400 code_LK25 1780 (lmk 0 7 [0, 1, 2, 3, 4] [aX 1000, aX 0, aX 62, aX 77, .inl i]) [] h u v := by
  have r1 : Rng (i + 1) := ⟨by omega, by omega⟩
  have q1 : inR (i + 1) n := ⟨by omega, by omega⟩
  have r2 : Rng (i + 2) := ⟨by omega, by omega⟩
  have q2 : inR (i + 2) n := ⟨by omega, by omega⟩
  have b := B.bd i0 i4 hn
  refine And.intro r1 ?_
  refine And.intro q1 ?_
  refine And.intro r2 ?_
  refine And.intro q2 ?_
  show doC 601024 7293034 100 (sp clW) [] XW (kw n SX K 387 (code_LK25.drop 13)) 1794 1797 (lmk 0 7 [0, 1, 2, 3, 4] [aX 1000, aX 0, aX 62, aX 77, .inl i]) h u v 323 [aX 0, .inl (SX (i + 1)), .inl (SX (i + 2)), aX 77] []
  refine dcI (cs := s_L_equivalent) (by rfl) (mc := 3) (ms := 18) (ht := 8) (by rfl) ⟨rfl, by omega, by omega, rfl⟩ (c_equivalentB L (SX (i + 1)) (SX (i + 2))) ?_
  rintro k g1 q n1
  refine And.intro r1 ?_
  refine And.intro q1 ?_
  refine And.intro r2 ?_
  refine And.intro q2 ?_
  show doC 601024 7293034 100 (sp clW) [] XW (kw n SX K 374 (code_LK25.drop 26)) 1812 1815 (lset1 (lmk 0 7 [0, 1, 2, 3, 4] [aX 1000, aX 0, aX 62, aX 77, .inl i]) 5 (.inl k)) g1 (u + 3) (v + 18) 251 [aX 62, .inl (SX (i + 1)), .inl (SX (i + 2))] []
  refine dcEB (cs := s_X10_equivalent) (by rfl) (ht := 9) (by rfl) ⟨rfl, by omega, by omega, rfl⟩ q ?_
  rintro y g2 L2 e1 e2 eb n2
  show doC 601024 7293034 100 (sp clW) [] XW (kw n SX K 371 (code_LK25.drop 29)) 1818 1821 (lset1 (lset1 (lmk 0 7 [0, 1, 2, 3, 4] [aX 1000, aX 0, aX 62, aX 77, .inl i]) 5 (.inl k)) 6 (.inl y)) g2 (u + 3) (v + 18) 190 [aX 62] []
  refine dcT (by rfl) (by rfl) ⟨rfl, by omega, by omega, rfl⟩ ?_
  refine And.intro (fun _ => ?_) (fun e9 => absurd e1 e9)
  refine And.intro (fun _ => ?_) (fun e3 => ?_)
  · skip
    exact hK _ _ _ L2 (B.st (Nat.le_trans n1 n2) L2 (by omega) (by omega))
  · skip
    refine And.intro ⟨by decide, by decide⟩ ?_
    refine And.intro (fun e5 => ?_) (fun e5 => ?_)
    · skip
      refine And.intro (fun _ => ?_) (fun e9 => absurd (cmpL_z ((e2 e3).trans (by rw [e5]; decide))) e9)
      exact hK _ _ _ L2 (B.st (Nat.le_trans n1 n2) L2 (by omega) (by omega))
    · skip
      refine And.intro (fun _ => ?_) (fun e9 => absurd (cmpL_z ((e2 e3).trans (by rw [eb.resolve_left e5]; decide))) e9)
      exact hK _ _ _ L2 (B.st (Nat.le_trans n1 n2) L2 (by omega) (by omega))
set_option maxRecDepth 100000 in
set_option maxHeartbeats 1000000 in
theorem w_counterexample {n : Int} {SX : Int → Int} {K : AKK} {i : Int} {h : Hp} {u v : Nat} (hn : n ≤ 2048) (i0 : 0 ≤ i) (i4 : i + 4 ≤ n) (L : LI h) (B : Bg i h u v) (hK : ∀ g u9 v9, LI g → Bg (i + 4) g u9 v9 → K 2363 [aX 1000, aX 0, aX 62, aX 77, .inl i] g u9 v9) : aw true 2 601024 7293034 100 (sp clW) [] RtW XW (some n) SX [] cutW K 400 code_LK26 1855 (lmk 0 7 [0, 1, 2, 3, 4] [aX 1000, aX 0, aX 62, aX 77, .inl i]) [] h u v := by
  have r1 : Rng (i + 1) := ⟨by omega, by omega⟩
  have q1 : inR (i + 1) n := ⟨by omega, by omega⟩
  have r2 : Rng (i + 2) := ⟨by omega, by omega⟩
  have q2 : inR (i + 2) n := ⟨by omega, by omega⟩
  have r3 : Rng (i + 3) := ⟨by omega, by omega⟩
  have q3 : inR (i + 3) n := ⟨by omega, by omega⟩
  have b := B.bd i0 i4 hn
  refine And.intro r1 ?_
  refine And.intro q1 ?_
  refine And.intro r2 ?_
  refine And.intro q2 ?_
  refine And.intro r3 ?_
  refine And.intro q3 ?_
  show doC 601024 7293034 100 (sp clW) [] XW (kw n SX K 382 (code_LK26.drop 18)) 1875 1878 (lmk 0 7 [0, 1, 2, 3, 4] [aX 1000, aX 0, aX 62, aX 77, .inl i]) h u v 324 [aX 0, .inl (SX (i + 1)), .inl (SX (i + 2)), .inl (SX (i + 3)), aX 77] []
  refine dcI (cs := s_L_counterexample) (by rfl) (mc := 4) (ms := 24) (ht := 8) (by rfl) ⟨rfl, by omega, by omega, rfl⟩ (c_counterexample L (SX (i + 1)) (SX (i + 2)) (SX (i + 3))) ?_
  rintro k g1 q n1
  refine And.intro r1 ?_
  refine And.intro q1 ?_
  refine And.intro r2 ?_
  refine And.intro q2 ?_
  refine And.intro r3 ?_
  refine And.intro q3 ?_
  show doC 601024 7293034 100 (sp clW) [] XW (kw n SX K 364 (code_LK26.drop 36)) 1899 1902 (lset1 (lmk 0 7 [0, 1, 2, 3, 4] [aX 1000, aX 0, aX 62, aX 77, .inl i]) 5 (.inl k)) g1 (u + 4) (v + 24) 252 [aX 62, .inl (SX (i + 1)), .inl (SX (i + 2)), .inl (SX (i + 3))] []
  refine dcE (cs := s_X10_counterexample) (by rfl) (ht := 9) (by rfl) ⟨rfl, by omega, by omega, rfl⟩ q ?_
  rintro y g2 L2 e1 e2 n2
  show doC 601024 7293034 100 (sp clW) [] XW (kw n SX K 361 (code_LK26.drop 39)) 1905 1908 (lset1 (lset1 (lmk 0 7 [0, 1, 2, 3, 4] [aX 1000, aX 0, aX 62, aX 77, .inl i]) 5 (.inl k)) 6 (.inl y)) g2 (u + 4) (v + 24) 190 [aX 62] []
  refine dcT (by rfl) (by rfl) ⟨rfl, by omega, by omega, rfl⟩ ?_
  refine And.intro (fun _ => ?_) (fun e9 => absurd e1 e9)
  refine And.intro (fun _ => ?_) (fun e3 => ?_)
  · skip
    exact hK _ _ _ L2 (B.st (Nat.le_trans n1 n2) L2 (by omega) (by omega))
  · skip
    refine And.intro ⟨by decide, by decide⟩ ?_
    refine And.intro (fun _ => ?_) (fun e9 => absurd (cmpL_z (e2 e3)) e9)
    exact hK _ _ _ L2 (B.st (Nat.le_trans n1 n2) L2 (by omega) (by omega))
set_option maxRecDepth 100000 in
set_option maxHeartbeats 1000000 in
theorem w_core {n : Int} {SX : Int → Int} {K : AKK} {i : Int} {h : Hp} {u v : Nat} (hn : n ≤ 2048) (i0 : 0 ≤ i) (i4 : i + 4 ≤ n) (L : LI h) (B : Bg i h u v) (hK : ∀ g u9 v9, LI g → Bg (i + 4) g u9 v9 → K 2363 [aX 1000, aX 0, aX 62, aX 77, .inl i] g u9 v9) : aw true 2 601024 7293034 100 (sp clW) [] RtW XW (some n) SX [] cutW K 400 code_LK27 1935 (lmk 0 7 [0, 1, 2, 3, 4] [aX 1000, aX 0, aX 62, aX 77, .inl i]) [] h u v := by
  have b := B.bd i0 i4 hn
  show doC 601024 7293034 100 (sp clW) [] XW (kw n SX K 398 (code_LK27.drop 2)) 1936 1939 (lmk 0 7 [0, 1, 2, 3, 4] [aX 1000, aX 0, aX 62, aX 77, .inl i]) h u v 163 [aX 0] []
  refine dcC (by rfl) (by rfl) i0 i4 hn B L (by rfl) ⟨rfl, rfl, rfl⟩ ?_
  rintro k g1 u1 v1 B1 q
  have b := B1.bd i0 i4 hn
  show doC 601024 7293034 100 (sp clW) [] XW (kw n SX K 396 (code_LK27.drop 4)) 1940 1943 (lmk 0 7 [0, 1, 2, 3, 4] [aX 1000, aX 0, aX 62, aX 77, .inl i]) g1 u1 v1 254 [aX 62] [.inl k]
  refine dcF (cs := s_X10_core) (by rfl) (ht := 8) (by rfl) ⟨rfl, by omega, by omega, rfl⟩ q ?_
  rintro g2 L2 n2
  refine And.intro (fun _ => ?_) (fun e9 => absurd rfl e9)
  exact hK _ _ _ L2 (B1.st n2 L2 (by omega) (by omega))
set_option maxRecDepth 100000 in
set_option maxHeartbeats 1000000 in
theorem w_wish {n : Int} {SX : Int → Int} {K : AKK} {i : Int} {h : Hp} {u v : Nat} (hn : n ≤ 2048) (i0 : 0 ≤ i) (i4 : i + 4 ≤ n) (L : LI h) (B : Bg i h u v) (hK : ∀ g u9 v9, LI g → Bg (i + 4) g u9 v9 → K 2363 [aX 1000, aX 0, aX 62, aX 77, .inl i] g u9 v9) : aw true 2 601024 7293034 100 (sp clW) [] RtW XW (some n) SX [] cutW K 400 code_LK28 1948 (lmk 0 7 [0, 1, 2, 3, 4] [aX 1000, aX 0, aX 62, aX 77, .inl i]) [] h u v := by
  have r1 : Rng (i + 1) := ⟨by omega, by omega⟩
  have q1 : inR (i + 1) n := ⟨by omega, by omega⟩
  have r2 : Rng (i + 2) := ⟨by omega, by omega⟩
  have q2 : inR (i + 2) n := ⟨by omega, by omega⟩
  have b := B.bd i0 i4 hn
  refine And.intro r1 ?_
  refine And.intro q1 ?_
  refine And.intro r2 ?_
  refine And.intro q2 ?_
  show doC 601024 7293034 100 (sp clW) [] XW (kw n SX K 387 (code_LK28.drop 13)) 1962 1965 (lmk 0 7 [0, 1, 2, 3, 4] [aX 1000, aX 0, aX 62, aX 77, .inl i]) h u v 325 [aX 0, .inl (SX (i + 1)), .inl (SX (i + 2)), aX 77] []
  refine dcI (cs := s_L_wish) (by rfl) (mc := 2) (ms := 12) (ht := 5) (by rfl) ⟨rfl, by omega, by omega, rfl⟩ (c_wish L (SX (i + 1)) (SX (i + 2))) ?_
  rintro k g1 q n1
  refine And.intro r1 ?_
  refine And.intro q1 ?_
  refine And.intro r2 ?_
  refine And.intro q2 ?_
  show doC 601024 7293034 100 (sp clW) [] XW (kw n SX K 374 (code_LK28.drop 26)) 1980 1983 (lset1 (lmk 0 7 [0, 1, 2, 3, 4] [aX 1000, aX 0, aX 62, aX 77, .inl i]) 5 (.inl k)) g1 (u + 2) (v + 12) 255 [aX 62, .inl (SX (i + 1)), .inl (SX (i + 2))] []
  refine dcE (cs := s_X10_wish) (by rfl) (ht := 3) (by rfl) ⟨rfl, by omega, by omega, rfl⟩ q ?_
  rintro y g2 L2 e1 e2 n2
  show doC 601024 7293034 100 (sp clW) [] XW (kw n SX K 371 (code_LK28.drop 29)) 1986 1989 (lset1 (lset1 (lmk 0 7 [0, 1, 2, 3, 4] [aX 1000, aX 0, aX 62, aX 77, .inl i]) 5 (.inl k)) 6 (.inl y)) g2 (u + 2) (v + 12) 190 [aX 62] []
  refine dcT (by rfl) (by rfl) ⟨rfl, by omega, by omega, rfl⟩ ?_
  refine And.intro (fun _ => ?_) (fun e9 => absurd e1 e9)
  refine And.intro (fun _ => ?_) (fun e3 => ?_)
  · skip
    exact hK _ _ _ L2 (B.st (Nat.le_trans n1 n2) L2 (by omega) (by omega))
  · skip
    refine And.intro ⟨by decide, by decide⟩ ?_
    refine And.intro (fun _ => ?_) (fun e9 => absurd (cmpL_z (e2 e3)) e9)
    exact hK _ _ _ L2 (B.st (Nat.le_trans n1 n2) L2 (by omega) (by omega))
set_option maxRecDepth 100000 in
set_option maxHeartbeats 1000000 in
theorem w_clearWishes {n : Int} {SX : Int → Int} {K : AKK} {i : Int} {h : Hp} {u v : Nat} (hn : n ≤ 2048) (i0 : 0 ≤ i) (i4 : i + 4 ≤ n) (L : LI h) (B : Bg i h u v) (hK : ∀ g u9 v9, LI g → Bg (i + 4) g u9 v9 → K 2363 [aX 1000, aX 0, aX 62, aX 77, .inl i] g u9 v9) : aw true 2 601024 7293034 100 (sp clW) [] RtW XW (some n) SX [] cutW K 400 code_LK29 2016 (lmk 0 7 [0, 1, 2, 3, 4] [aX 1000, aX 0, aX 62, aX 77, .inl i]) [] h u v := by
  have b := B.bd i0 i4 hn
  show doC 601024 7293034 100 (sp clW) [] XW (kw n SX K 398 (code_LK29.drop 2)) 2017 2020 (lmk 0 7 [0, 1, 2, 3, 4] [aX 1000, aX 0, aX 62, aX 77, .inl i]) h u v 165 [aX 0] []
  refine dcI (cs := s_X9_clearWishes) (by rfl) (mc := 0) (ms := 0) (ht := 4) (by rfl) ⟨rfl, by omega, by omega, rfl⟩ (c_clearWishes L) ?_
  rintro k g1 q n1
  show doC 601024 7293034 100 (sp clW) [] XW (kw n SX K 396 (code_LK29.drop 4)) 2021 2024 (lmk 0 7 [0, 1, 2, 3, 4] [aX 1000, aX 0, aX 62, aX 77, .inl i]) g1 (u + 0) (v + 0) 256 [aX 62] [.inl k]
  refine dcF (cs := s_X10_clearWishes) (by rfl) (ht := 2) (by rfl) ⟨rfl, by omega, by omega, rfl⟩ q ?_
  rintro g2 L2 n2
  refine And.intro (fun _ => ?_) (fun e9 => absurd rfl e9)
  exact hK _ _ _ L2 (B.st (Nat.le_trans n1 n2) L2 (by omega) (by omega))

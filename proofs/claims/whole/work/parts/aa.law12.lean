/-! ===== the law's cases ===== -/
set_option maxRecDepth 100000 in
set_option maxHeartbeats 1000000 in
theorem w_input {n : Int} {SX : Int → Int} {K : AKK} {i : Int} {h : Hp} {u v : Nat} (hn : n ≤ 2048) (i0 : 0 ≤ i) (i4 : i + 4 ≤ n) (L : LI h) (B : Bg i h u v) (hK : ∀ g u9 v9, LI g → Bg (i + 4) g u9 v9 → K 2363 [aX 1000, aX 0, aX 62, aX 77, .inl i] g u9 v9) : aw true 2 601024 7293034 100 (sp clW) [] RtW XW (some n) SX [] cutW K 400 code_LK10 834 (lmk 0 7 [0, 1, 2, 3, 4] [aX 1000, aX 0, aX 62, aX 77, .inl i]) [] h u v := by
  have r1 : Rng (i + 1) := ⟨by omega, by omega⟩
  have q1 : inR (i + 1) n := ⟨by omega, by omega⟩
  have r2 : Rng (i + 2) := ⟨by omega, by omega⟩
  have q2 : inR (i + 2) n := ⟨by omega, by omega⟩
  have b := B.bd i0 i4 hn
  refine And.intro r1 ?_
  refine And.intro q1 ?_
  refine And.intro r2 ?_
  refine And.intro q2 ?_
  show doC 601024 7293034 100 (sp clW) [] XW (kw n SX K 387 (code_LK10.drop 13)) 848 851 (lmk 0 7 [0, 1, 2, 3, 4] [aX 1000, aX 0, aX 62, aX 77, .inl i]) h u v 310 [aX 0, .inl (SX (i + 1)), .inl (SX (i + 2)), aX 77] []
  refine dcI (cs := s_L_input) (by rfl) (mc := 2) (ms := 12) (ht := 5) (by rfl) ⟨rfl, by omega, by omega, rfl⟩ (c_input L (SX (i + 1)) (SX (i + 2))) ?_
  rintro k g1 q n1
  refine And.intro r1 ?_
  refine And.intro q1 ?_
  refine And.intro r2 ?_
  refine And.intro q2 ?_
  show doC 601024 7293034 100 (sp clW) [] XW (kw n SX K 374 (code_LK10.drop 26)) 866 869 (lset1 (lmk 0 7 [0, 1, 2, 3, 4] [aX 1000, aX 0, aX 62, aX 77, .inl i]) 5 (.inl k)) g1 (u + 2) (v + 12) 223 [aX 62, .inl (SX (i + 1)), .inl (SX (i + 2))] []
  refine dcE (cs := s_X10_input) (by rfl) (ht := 3) (by rfl) ⟨rfl, by omega, by omega, rfl⟩ q ?_
  rintro y g2 L2 e1 e2 n2
  show doC 601024 7293034 100 (sp clW) [] XW (kw n SX K 371 (code_LK10.drop 29)) 872 875 (lset1 (lset1 (lmk 0 7 [0, 1, 2, 3, 4] [aX 1000, aX 0, aX 62, aX 77, .inl i]) 5 (.inl k)) 6 (.inl y)) g2 (u + 2) (v + 12) 190 [aX 62] []
  refine dcT (by rfl) (by rfl) ⟨rfl, by omega, by omega, rfl⟩ ?_
  refine And.intro (fun _ => ?_) (fun e9 => absurd e1 e9)
  refine And.intro (fun _ => ?_) (fun e3 => ?_)
  · skip
    exact hK _ _ _ L2 (B.st (Nat.le_trans n1 n2) L2 (by omega) (by omega))
  · skip
    refine And.intro ⟨by decide, by decide⟩ ?_
    refine And.intro (fun _ => ?_) (fun e9 => absurd (cmpL_z (e2 e3)) e9)
    exact hK _ _ _ L2 (B.st (Nat.le_trans n1 n2) L2 (by omega) (by omega))
set_option maxRecDepth 100000 in
set_option maxHeartbeats 1000000 in
theorem w_value {n : Int} {SX : Int → Int} {K : AKK} {i : Int} {h : Hp} {u v : Nat} (hn : n ≤ 2048) (i0 : 0 ≤ i) (i4 : i + 4 ≤ n) (L : LI h) (B : Bg i h u v) (hK : ∀ g u9 v9, LI g → Bg (i + 4) g u9 v9 → K 2363 [aX 1000, aX 0, aX 62, aX 77, .inl i] g u9 v9) : aw true 2 601024 7293034 100 (sp clW) [] RtW XW (some n) SX [] cutW K 400 code_LK11 902 (lmk 0 7 [0, 1, 2, 3, 4] [aX 1000, aX 0, aX 62, aX 77, .inl i]) [] h u v := by
  have r1 : Rng (i + 1) := ⟨by omega, by omega⟩
  have q1 : inR (i + 1) n := ⟨by omega, by omega⟩
  have r2 : Rng (i + 2) := ⟨by omega, by omega⟩
  have q2 : inR (i + 2) n := ⟨by omega, by omega⟩
  have b := B.bd i0 i4 hn
  refine And.intro r1 ?_
  refine And.intro q1 ?_
  refine And.intro r2 ?_
  refine And.intro q2 ?_
  refine And.intro (fun z0 => ?_) (fun z0 => ?_)
  · skip
    show doC 601024 7293034 100 (sp clW) [] XW (kw n SX K 385 (code_LK11.drop 17)) 924 927 (lmk 0 7 [0, 1, 2, 3, 4] [aX 1000, aX 0, aX 62, aX 77, .inl i]) h u v 311 [aX 0, .inl (SX (i + 1)), .inl 0, aX 77] []
    refine dcI (cs := s_L_value) (by rfl) (mc := 1) (ms := 6) (ht := 6) (by rfl) ⟨rfl, by omega, by omega, rfl⟩ (c_value L (SX (i + 1)) (0)) ?_
    rintro k g1 q n1
    refine And.intro r1 ?_
    refine And.intro q1 ?_
    refine And.intro r2 ?_
    refine And.intro q2 ?_
    refine And.intro (fun _ => ?_) (fun e9 => absurd z0 e9)
    show doC 601024 7293034 100 (sp clW) [] XW (kw n SX K 370 (code_LK11.drop 34)) 950 953 (lset1 (lmk 0 7 [0, 1, 2, 3, 4] [aX 1000, aX 0, aX 62, aX 77, .inl i]) 5 (.inl k)) g1 (u + 1) (v + 6) 231 [aX 62, .inl (SX (i + 1)), .inl 0] []
    refine dcE (cs := s_X10_value) (by rfl) (ht := 6) (by rfl) ⟨rfl, by omega, by omega, rfl⟩ q ?_
    rintro y g2 L2 e1 e2 n2
    show doC 601024 7293034 100 (sp clW) [] XW (kw n SX K 367 (code_LK11.drop 37)) 956 959 (lset1 (lset1 (lmk 0 7 [0, 1, 2, 3, 4] [aX 1000, aX 0, aX 62, aX 77, .inl i]) 5 (.inl k)) 6 (.inl y)) g2 (u + 1) (v + 6) 190 [aX 62] []
    refine dcT (by rfl) (by rfl) ⟨rfl, by omega, by omega, rfl⟩ ?_
    refine And.intro (fun _ => ?_) (fun e9 => absurd e1 e9)
    refine And.intro (fun _ => ?_) (fun e3 => ?_)
    · skip
      exact hK _ _ _ L2 (B.st (Nat.le_trans n1 n2) L2 (by omega) (by omega))
    · skip
      refine And.intro ⟨by decide, by decide⟩ ?_
      refine And.intro (fun _ => ?_) (fun e9 => absurd (cmpL_z (e2 e3)) e9)
      exact hK _ _ _ L2 (B.st (Nat.le_trans n1 n2) L2 (by omega) (by omega))
  · skip
    show doC 601024 7293034 100 (sp clW) [] XW (kw n SX K 384 (code_LK11.drop 17)) 924 927 (lmk 0 7 [0, 1, 2, 3, 4] [aX 1000, aX 0, aX 62, aX 77, .inl i]) h u v 311 [aX 0, .inl (SX (i + 1)), .inl 1, aX 77] []
    refine dcI (cs := s_L_value) (by rfl) (mc := 1) (ms := 6) (ht := 6) (by rfl) ⟨rfl, by omega, by omega, rfl⟩ (c_value L (SX (i + 1)) (1)) ?_
    rintro k g1 q n1
    refine And.intro r1 ?_
    refine And.intro q1 ?_
    refine And.intro r2 ?_
    refine And.intro q2 ?_
    refine And.intro (fun e9 => absurd e9 z0) (fun _ => ?_)
    show doC 601024 7293034 100 (sp clW) [] XW (kw n SX K 368 (code_LK11.drop 34)) 950 953 (lset1 (lmk 0 7 [0, 1, 2, 3, 4] [aX 1000, aX 0, aX 62, aX 77, .inl i]) 5 (.inl k)) g1 (u + 1) (v + 6) 231 [aX 62, .inl (SX (i + 1)), .inl 1] []
    refine dcE (cs := s_X10_value) (by rfl) (ht := 6) (by rfl) ⟨rfl, by omega, by omega, rfl⟩ q ?_
    rintro y g2 L2 e1 e2 n2
    show doC 601024 7293034 100 (sp clW) [] XW (kw n SX K 365 (code_LK11.drop 37)) 956 959 (lset1 (lset1 (lmk 0 7 [0, 1, 2, 3, 4] [aX 1000, aX 0, aX 62, aX 77, .inl i]) 5 (.inl k)) 6 (.inl y)) g2 (u + 1) (v + 6) 190 [aX 62] []
    refine dcT (by rfl) (by rfl) ⟨rfl, by omega, by omega, rfl⟩ ?_
    refine And.intro (fun _ => ?_) (fun e9 => absurd e1 e9)
    refine And.intro (fun _ => ?_) (fun e3 => ?_)
    · skip
      exact hK _ _ _ L2 (B.st (Nat.le_trans n1 n2) L2 (by omega) (by omega))
    · skip
      refine And.intro ⟨by decide, by decide⟩ ?_
      refine And.intro (fun _ => ?_) (fun e9 => absurd (cmpL_z (e2 e3)) e9)
      exact hK _ _ _ L2 (B.st (Nat.le_trans n1 n2) L2 (by omega) (by omega))
set_option maxRecDepth 100000 in
set_option maxHeartbeats 1000000 in
theorem w_require {n : Int} {SX : Int → Int} {K : AKK} {i : Int} {h : Hp} {u v : Nat} (hn : n ≤ 2048) (i0 : 0 ≤ i) (i4 : i + 4 ≤ n) (L : LI h) (B : Bg i h u v) (hK : ∀ g u9 v9, LI g → Bg (i + 4) g u9 v9 → K 2363 [aX 1000, aX 0, aX 62, aX 77, .inl i] g u9 v9) : aw true 2 601024 7293034 100 (sp clW) [] RtW XW (some n) SX [] cutW K 400 code_LK12 986 (lmk 0 7 [0, 1, 2, 3, 4] [aX 1000, aX 0, aX 62, aX 77, .inl i]) [] h u v := by
  have r1 : Rng (i + 1) := ⟨by omega, by omega⟩
  have q1 : inR (i + 1) n := ⟨by omega, by omega⟩
  have b := B.bd i0 i4 hn
  refine And.intro r1 ?_
  refine And.intro q1 ?_
  show doC 601024 7293034 100 (sp clW) [] XW (kw n SX K 392 (code_LK12.drop 8)) 994 997 (lmk 0 7 [0, 1, 2, 3, 4] [aX 1000, aX 0, aX 62, aX 77, .inl i]) h u v 312 [aX 0, .inl (SX (i + 1)), aX 77] []
  refine dcI (cs := s_L_require) (by rfl) (mc := 2) (ms := 12) (ht := 5) (by rfl) ⟨rfl, by omega, by omega, rfl⟩ (c_require L (SX (i + 1))) ?_
  rintro k g1 q n1
  refine And.intro r1 ?_
  refine And.intro q1 ?_
  show doC 601024 7293034 100 (sp clW) [] XW (kw n SX K 384 (code_LK12.drop 16)) 1006 1009 (lset1 (lmk 0 7 [0, 1, 2, 3, 4] [aX 1000, aX 0, aX 62, aX 77, .inl i]) 5 (.inl k)) g1 (u + 2) (v + 12) 232 [aX 62, .inl (SX (i + 1))] []
  refine dcE (cs := s_X10_require) (by rfl) (ht := 3) (by rfl) ⟨rfl, by omega, by omega, rfl⟩ q ?_
  rintro y g2 L2 e1 e2 n2
  show doC 601024 7293034 100 (sp clW) [] XW (kw n SX K 381 (code_LK12.drop 19)) 1012 1015 (lset1 (lset1 (lmk 0 7 [0, 1, 2, 3, 4] [aX 1000, aX 0, aX 62, aX 77, .inl i]) 5 (.inl k)) 6 (.inl y)) g2 (u + 2) (v + 12) 190 [aX 62] []
  refine dcT (by rfl) (by rfl) ⟨rfl, by omega, by omega, rfl⟩ ?_
  refine And.intro (fun _ => ?_) (fun e9 => absurd e1 e9)
  refine And.intro (fun _ => ?_) (fun e3 => ?_)
  · skip
    exact hK _ _ _ L2 (B.st (Nat.le_trans n1 n2) L2 (by omega) (by omega))
  · skip
    refine And.intro ⟨by decide, by decide⟩ ?_
    refine And.intro (fun _ => ?_) (fun e9 => absurd (cmpL_z (e2 e3)) e9)
    exact hK _ _ _ L2 (B.st (Nat.le_trans n1 n2) L2 (by omega) (by omega))
set_option maxRecDepth 100000 in
set_option maxHeartbeats 1000000 in
theorem w_push {n : Int} {SX : Int → Int} {K : AKK} {i : Int} {h : Hp} {u v : Nat} (hn : n ≤ 2048) (i0 : 0 ≤ i) (i4 : i + 4 ≤ n) (L : LI h) (B : Bg i h u v) (hK : ∀ g u9 v9, LI g → Bg (i + 4) g u9 v9 → K 2363 [aX 1000, aX 0, aX 62, aX 77, .inl i] g u9 v9) : aw true 2 601024 7293034 100 (sp clW) [] RtW XW (some n) SX [] cutW K 400 code_LK13 1042 (lmk 0 7 [0, 1, 2, 3, 4] [aX 1000, aX 0, aX 62, aX 77, .inl i]) [] h u v := by
  have b := B.bd i0 i4 hn
  show doC 601024 7293034 100 (sp clW) [] XW (kw n SX K 397 (code_LK13.drop 3)) 1044 1047 (lmk 0 7 [0, 1, 2, 3, 4] [aX 1000, aX 0, aX 62, aX 77, .inl i]) h u v 313 [aX 0, aX 77] []
  refine dcI (cs := s_L_push) (by rfl) (mc := 1) (ms := 6) (ht := 5) (by rfl) ⟨rfl, by omega, by omega, rfl⟩ (c_push L) ?_
  rintro k g1 q n1
  show doC 601024 7293034 100 (sp clW) [] XW (kw n SX K 394 (code_LK13.drop 6)) 1050 1053 (lset1 (lmk 0 7 [0, 1, 2, 3, 4] [aX 1000, aX 0, aX 62, aX 77, .inl i]) 5 (.inl k)) g1 (u + 1) (v + 6) 233 [aX 62] []
  refine dcE (cs := s_X10_push) (by rfl) (ht := 2) (by rfl) ⟨rfl, by omega, by omega, rfl⟩ q ?_
  rintro y g2 L2 e1 e2 n2
  show doC 601024 7293034 100 (sp clW) [] XW (kw n SX K 391 (code_LK13.drop 9)) 1056 1059 (lset1 (lset1 (lmk 0 7 [0, 1, 2, 3, 4] [aX 1000, aX 0, aX 62, aX 77, .inl i]) 5 (.inl k)) 6 (.inl y)) g2 (u + 1) (v + 6) 190 [aX 62] []
  refine dcT (by rfl) (by rfl) ⟨rfl, by omega, by omega, rfl⟩ ?_
  refine And.intro (fun _ => ?_) (fun e9 => absurd e1 e9)
  refine And.intro (fun _ => ?_) (fun e3 => ?_)
  · skip
    exact hK _ _ _ L2 (B.st (Nat.le_trans n1 n2) L2 (by omega) (by omega))
  · skip
    refine And.intro ⟨by decide, by decide⟩ ?_
    refine And.intro (fun _ => ?_) (fun e9 => absurd (cmpL_z (e2 e3)) e9)
    exact hK _ _ _ L2 (B.st (Nat.le_trans n1 n2) L2 (by omega) (by omega))
set_option maxRecDepth 100000 in
set_option maxHeartbeats 1000000 in
theorem w_pop {n : Int} {SX : Int → Int} {K : AKK} {i : Int} {h : Hp} {u v : Nat} (hn : n ≤ 2048) (i0 : 0 ≤ i) (i4 : i + 4 ≤ n) (L : LI h) (B : Bg i h u v) (hK : ∀ g u9 v9, LI g → Bg (i + 4) g u9 v9 → K 2363 [aX 1000, aX 0, aX 62, aX 77, .inl i] g u9 v9) : aw true 2 601024 7293034 100 (sp clW) [] RtW XW (some n) SX [] cutW K 400 code_LK14 1086 (lmk 0 7 [0, 1, 2, 3, 4] [aX 1000, aX 0, aX 62, aX 77, .inl i]) [] h u v := by
  have b := B.bd i0 i4 hn
  show doC 601024 7293034 100 (sp clW) [] XW (kw n SX K 397 (code_LK14.drop 3)) 1088 1091 (lmk 0 7 [0, 1, 2, 3, 4] [aX 1000, aX 0, aX 62, aX 77, .inl i]) h u v 314 [aX 0, aX 77] []
  refine dcI (cs := s_L_pop) (by rfl) (mc := 1) (ms := 6) (ht := 5) (by rfl) ⟨rfl, by omega, by omega, rfl⟩ (c_pop L) ?_
  rintro k g1 q n1
  show doC 601024 7293034 100 (sp clW) [] XW (kw n SX K 394 (code_LK14.drop 6)) 1094 1097 (lset1 (lmk 0 7 [0, 1, 2, 3, 4] [aX 1000, aX 0, aX 62, aX 77, .inl i]) 5 (.inl k)) g1 (u + 1) (v + 6) 234 [aX 62] []
  refine dcE (cs := s_X10_pop) (by rfl) (ht := 2) (by rfl) ⟨rfl, by omega, by omega, rfl⟩ q ?_
  rintro y g2 L2 e1 e2 n2
  show doC 601024 7293034 100 (sp clW) [] XW (kw n SX K 391 (code_LK14.drop 9)) 1100 1103 (lset1 (lset1 (lmk 0 7 [0, 1, 2, 3, 4] [aX 1000, aX 0, aX 62, aX 77, .inl i]) 5 (.inl k)) 6 (.inl y)) g2 (u + 1) (v + 6) 190 [aX 62] []
  refine dcT (by rfl) (by rfl) ⟨rfl, by omega, by omega, rfl⟩ ?_
  refine And.intro (fun _ => ?_) (fun e9 => absurd e1 e9)
  refine And.intro (fun _ => ?_) (fun e3 => ?_)
  · skip
    exact hK _ _ _ L2 (B.st (Nat.le_trans n1 n2) L2 (by omega) (by omega))
  · skip
    refine And.intro ⟨by decide, by decide⟩ ?_
    refine And.intro (fun _ => ?_) (fun e9 => absurd (cmpL_z (e2 e3)) e9)
    exact hK _ _ _ L2 (B.st (Nat.le_trans n1 n2) L2 (by omega) (by omega))
set_option maxRecDepth 100000 in
set_option maxHeartbeats 1000000 in
theorem w_constraints {n : Int} {SX : Int → Int} {K : AKK} {i : Int} {h : Hp} {u v : Nat} (hn : n ≤ 2048) (i0 : 0 ≤ i) (i4 : i + 4 ≤ n) (L : LI h) (B : Bg i h u v) (hK : ∀ g u9 v9, LI g → Bg (i + 4) g u9 v9 → K 2363 [aX 1000, aX 0, aX 62, aX 77, .inl i] g u9 v9) : aw true 2 601024 7293034 100 (sp clW) [] RtW XW (some n) SX [] cutW K 400 code_LK15 1130 (lmk 0 7 [0, 1, 2, 3, 4] [aX 1000, aX 0, aX 62, aX 77, .inl i]) [] h u v := by
  have b := B.bd i0 i4 hn
  show doC 601024 7293034 100 (sp clW) [] XW (kw n SX K 398 (code_LK15.drop 2)) 1131 1134 (lmk 0 7 [0, 1, 2, 3, 4] [aX 1000, aX 0, aX 62, aX 77, .inl i]) h u v 151 [aX 0] []
  refine dcI (cs := s_X9_constraints) (by rfl) (mc := 0) (ms := 0) (ht := 1) (by rfl) ⟨rfl, by omega, by omega, rfl⟩ (c_constraints L) ?_
  rintro k g1 q n1
  show doC 601024 7293034 100 (sp clW) [] XW (kw n SX K 396 (code_LK15.drop 4)) 1135 1138 (lmk 0 7 [0, 1, 2, 3, 4] [aX 1000, aX 0, aX 62, aX 77, .inl i]) g1 (u + 0) (v + 0) 235 [aX 62] [.inl k]
  refine dcF (cs := s_X10_constraints) (by rfl) (ht := 1) (by rfl) ⟨rfl, by omega, by omega, rfl⟩ q ?_
  rintro g2 L2 n2
  refine And.intro (fun _ => ?_) (fun e9 => absurd rfl e9)
  exact hK _ _ _ L2 (B.st (Nat.le_trans n1 n2) L2 (by omega) (by omega))
set_option maxRecDepth 100000 in
set_option maxHeartbeats 1000000 in
theorem w_constraint {n : Int} {SX : Int → Int} {K : AKK} {i : Int} {h : Hp} {u v : Nat} (hn : n ≤ 2048) (i0 : 0 ≤ i) (i4 : i + 4 ≤ n) (L : LI h) (B : Bg i h u v) (hK : ∀ g u9 v9, LI g → Bg (i + 4) g u9 v9 → K 2363 [aX 1000, aX 0, aX 62, aX 77, .inl i] g u9 v9) : aw true 2 601024 7293034 100 (sp clW) [] RtW XW (some n) SX [] cutW K 400 code_LK16 1143 (lmk 0 7 [0, 1, 2, 3, 4] [aX 1000, aX 0, aX 62, aX 77, .inl i]) [] h u v := by
  have r1 : Rng (i + 1) := ⟨by omega, by omega⟩
  have q1 : inR (i + 1) n := ⟨by omega, by omega⟩
  have r2 : Rng (i + 2) := ⟨by omega, by omega⟩
  have q2 : inR (i + 2) n := ⟨by omega, by omega⟩
  have b := B.bd i0 i4 hn
  refine And.intro r1 ?_
  refine And.intro q1 ?_
  refine And.intro r2 ?_
  refine And.intro q2 ?_
  refine And.intro (fun z0 => ?_) (fun z0 => ?_)
  · skip
    show doC 601024 7293034 100 (sp clW) [] XW (kw n SX K 385 (code_LK16.drop 17)) 1165 1168 (lmk 0 7 [0, 1, 2, 3, 4] [aX 1000, aX 0, aX 62, aX 77, .inl i]) h u v 315 [aX 0, .inl (SX (i + 1)), .inl 0, aX 77] []
    refine dcI (cs := s_L_constraint) (by rfl) (mc := 1) (ms := 6) (ht := 2) (by rfl) ⟨rfl, by omega, by omega, rfl⟩ (c_constraint L (SX (i + 1)) (0)) ?_
    rintro k g1 q n1
    refine And.intro r1 ?_
    refine And.intro q1 ?_
    refine And.intro r2 ?_
    refine And.intro q2 ?_
    refine And.intro (fun _ => ?_) (fun e9 => absurd z0 e9)
    show doC 601024 7293034 100 (sp clW) [] XW (kw n SX K 370 (code_LK16.drop 34)) 1191 1194 (lset1 (lmk 0 7 [0, 1, 2, 3, 4] [aX 1000, aX 0, aX 62, aX 77, .inl i]) 5 (.inl k)) g1 (u + 1) (v + 6) 236 [aX 62, .inl (SX (i + 1)), .inl 0] []
    refine dcE (cs := s_X10_constraint) (by rfl) (ht := 2) (by rfl) ⟨rfl, by omega, by omega, rfl⟩ q ?_
    rintro y g2 L2 e1 e2 n2
    show doC 601024 7293034 100 (sp clW) [] XW (kw n SX K 367 (code_LK16.drop 37)) 1197 1200 (lset1 (lset1 (lmk 0 7 [0, 1, 2, 3, 4] [aX 1000, aX 0, aX 62, aX 77, .inl i]) 5 (.inl k)) 6 (.inl y)) g2 (u + 1) (v + 6) 190 [aX 62] []
    refine dcT (by rfl) (by rfl) ⟨rfl, by omega, by omega, rfl⟩ ?_
    refine And.intro (fun _ => ?_) (fun e9 => absurd e1 e9)
    refine And.intro (fun _ => ?_) (fun e3 => ?_)
    · skip
      exact hK _ _ _ L2 (B.st (Nat.le_trans n1 n2) L2 (by omega) (by omega))
    · skip
      refine And.intro ⟨by decide, by decide⟩ ?_
      refine And.intro (fun _ => ?_) (fun e9 => absurd (cmpL_z (e2 e3)) e9)
      exact hK _ _ _ L2 (B.st (Nat.le_trans n1 n2) L2 (by omega) (by omega))
  · skip
    show doC 601024 7293034 100 (sp clW) [] XW (kw n SX K 384 (code_LK16.drop 17)) 1165 1168 (lmk 0 7 [0, 1, 2, 3, 4] [aX 1000, aX 0, aX 62, aX 77, .inl i]) h u v 315 [aX 0, .inl (SX (i + 1)), .inl 1, aX 77] []
    refine dcI (cs := s_L_constraint) (by rfl) (mc := 1) (ms := 6) (ht := 2) (by rfl) ⟨rfl, by omega, by omega, rfl⟩ (c_constraint L (SX (i + 1)) (1)) ?_
    rintro k g1 q n1
    refine And.intro r1 ?_
    refine And.intro q1 ?_
    refine And.intro r2 ?_
    refine And.intro q2 ?_
    refine And.intro (fun e9 => absurd e9 z0) (fun _ => ?_)
    show doC 601024 7293034 100 (sp clW) [] XW (kw n SX K 368 (code_LK16.drop 34)) 1191 1194 (lset1 (lmk 0 7 [0, 1, 2, 3, 4] [aX 1000, aX 0, aX 62, aX 77, .inl i]) 5 (.inl k)) g1 (u + 1) (v + 6) 236 [aX 62, .inl (SX (i + 1)), .inl 1] []
    refine dcE (cs := s_X10_constraint) (by rfl) (ht := 2) (by rfl) ⟨rfl, by omega, by omega, rfl⟩ q ?_
    rintro y g2 L2 e1 e2 n2
    show doC 601024 7293034 100 (sp clW) [] XW (kw n SX K 365 (code_LK16.drop 37)) 1197 1200 (lset1 (lset1 (lmk 0 7 [0, 1, 2, 3, 4] [aX 1000, aX 0, aX 62, aX 77, .inl i]) 5 (.inl k)) 6 (.inl y)) g2 (u + 1) (v + 6) 190 [aX 62] []
    refine dcT (by rfl) (by rfl) ⟨rfl, by omega, by omega, rfl⟩ ?_
    refine And.intro (fun _ => ?_) (fun e9 => absurd e1 e9)
    refine And.intro (fun _ => ?_) (fun e3 => ?_)
    · skip
      exact hK _ _ _ L2 (B.st (Nat.le_trans n1 n2) L2 (by omega) (by omega))
    · skip
      refine And.intro ⟨by decide, by decide⟩ ?_
      refine And.intro (fun _ => ?_) (fun e9 => absurd (cmpL_z (e2 e3)) e9)
      exact hK _ _ _ L2 (B.st (Nat.le_trans n1 n2) L2 (by omega) (by omega))
set_option maxRecDepth 100000 in
set_option maxHeartbeats 1000000 in
theorem w_satisfiable {n : Int} {SX : Int → Int} {K : AKK} {i : Int} {h : Hp} {u v : Nat} (hn : n ≤ 2048) (i0 : 0 ≤ i) (i4 : i + 4 ≤ n) (L : LI h) (B : Bg i h u v) (hK : ∀ g u9 v9, LI g → Bg (i + 4) g u9 v9 → K 2363 [aX 1000, aX 0, aX 62, aX 77, .inl i] g u9 v9) : aw true 2 601024 7293034 100 (sp clW) [] RtW XW (some n) SX [] cutW K 400 code_LK17 1227 (lmk 0 7 [0, 1, 2, 3, 4] [aX 1000, aX 0, aX 62, aX 77, .inl i]) [] h u v := by
  have b := B.bd i0 i4 hn
  show doC 601024 7293034 100 (sp clW) [] XW (kw n SX K 398 (code_LK17.drop 2)) 1228 1231 (lmk 0 7 [0, 1, 2, 3, 4] [aX 1000, aX 0, aX 62, aX 77, .inl i]) h u v 153 [aX 0] []
  refine dcI (cs := s_X9_satisfiable) (by rfl) (mc := 0) (ms := 0) (ht := 7) (by rfl) ⟨rfl, by omega, by omega, rfl⟩ (c_satisfiable L) ?_
  rintro k g1 q n1
  show doC 601024 7293034 100 (sp clW) [] XW (kw n SX K 396 (code_LK17.drop 4)) 1232 1235 (lmk 0 7 [0, 1, 2, 3, 4] [aX 1000, aX 0, aX 62, aX 77, .inl i]) g1 (u + 0) (v + 0) 240 [aX 62] [.inl k]
  refine dcF (cs := s_X10_satisfiable) (by rfl) (ht := 8) (by rfl) ⟨rfl, by omega, by omega, rfl⟩ q ?_
  rintro g2 L2 n2
  refine And.intro (fun _ => ?_) (fun e9 => absurd rfl e9)
  exact hK _ _ _ L2 (B.st (Nat.le_trans n1 n2) L2 (by omega) (by omega))
set_option maxRecDepth 100000 in
set_option maxHeartbeats 1000000 in
theorem w_witness {n : Int} {SX : Int → Int} {K : AKK} {i : Int} {h : Hp} {u v : Nat} (hn : n ≤ 2048) (i0 : 0 ≤ i) (i4 : i + 4 ≤ n) (L : LI h) (B : Bg i h u v) (hK : ∀ g u9 v9, LI g → Bg (i + 4) g u9 v9 → K 2363 [aX 1000, aX 0, aX 62, aX 77, .inl i] g u9 v9) : aw true 2 601024 7293034 100 (sp clW) [] RtW XW (some n) SX [] cutW K 400 code_LK18 1240 (lmk 0 7 [0, 1, 2, 3, 4] [aX 1000, aX 0, aX 62, aX 77, .inl i]) [] h u v := by
  have r1 : Rng (i + 1) := ⟨by omega, by omega⟩
  have q1 : inR (i + 1) n := ⟨by omega, by omega⟩
  have b := B.bd i0 i4 hn
  refine And.intro r1 ?_
  refine And.intro q1 ?_
  show doC 601024 7293034 100 (sp clW) [] XW (kw n SX K 392 (code_LK18.drop 8)) 1248 1251 (lmk 0 7 [0, 1, 2, 3, 4] [aX 1000, aX 0, aX 62, aX 77, .inl i]) h u v 316 [aX 0, .inl (SX (i + 1)), aX 77] []
  refine dcI (cs := s_L_witness) (by rfl) (mc := 1) (ms := 6) (ht := 8) (by rfl) ⟨rfl, by omega, by omega, rfl⟩ (c_witness L (SX (i + 1))) ?_
  rintro k g1 q n1
  refine And.intro r1 ?_
  refine And.intro q1 ?_
  show doC 601024 7293034 100 (sp clW) [] XW (kw n SX K 384 (code_LK18.drop 16)) 1260 1263 (lset1 (lmk 0 7 [0, 1, 2, 3, 4] [aX 1000, aX 0, aX 62, aX 77, .inl i]) 5 (.inl k)) g1 (u + 1) (v + 6) 241 [aX 62, .inl (SX (i + 1))] []
  refine dcE (cs := s_X10_witness) (by rfl) (ht := 8) (by rfl) ⟨rfl, by omega, by omega, rfl⟩ q ?_
  rintro y g2 L2 e1 e2 n2
  show doC 601024 7293034 100 (sp clW) [] XW (kw n SX K 381 (code_LK18.drop 19)) 1266 1269 (lset1 (lset1 (lmk 0 7 [0, 1, 2, 3, 4] [aX 1000, aX 0, aX 62, aX 77, .inl i]) 5 (.inl k)) 6 (.inl y)) g2 (u + 1) (v + 6) 190 [aX 62] []
  refine dcT (by rfl) (by rfl) ⟨rfl, by omega, by omega, rfl⟩ ?_
  refine And.intro (fun _ => ?_) (fun e9 => absurd e1 e9)
  refine And.intro (fun _ => ?_) (fun e3 => ?_)
  · skip
    exact hK _ _ _ L2 (B.st (Nat.le_trans n1 n2) L2 (by omega) (by omega))
  · skip
    refine And.intro ⟨by decide, by decide⟩ ?_
    refine And.intro (fun _ => ?_) (fun e9 => absurd (cmpL_z (e2 e3)) e9)
    exact hK _ _ _ L2 (B.st (Nat.le_trans n1 n2) L2 (by omega) (by omega))
set_option maxRecDepth 100000 in
set_option maxHeartbeats 1000000 in
theorem w_extreme {n : Int} {SX : Int → Int} {K : AKK} {i : Int} {h : Hp} {u v : Nat} (hn : n ≤ 2048) (i0 : 0 ≤ i) (i4 : i + 4 ≤ n) (L : LI h) (B : Bg i h u v) (hK : ∀ g u9 v9, LI g → Bg (i + 4) g u9 v9 → K 2363 [aX 1000, aX 0, aX 62, aX 77, .inl i] g u9 v9) : aw true 2 601024 7293034 100 (sp clW) [] RtW XW (some n) SX [] cutW K 400 code_LK19 1296 (lmk 0 7 [0, 1, 2, 3, 4] [aX 1000, aX 0, aX 62, aX 77, .inl i]) [] h u v := by
  have r1 : Rng (i + 1) := ⟨by omega, by omega⟩
  have q1 : inR (i + 1) n := ⟨by omega, by omega⟩
  have r2 : Rng (i + 2) := ⟨by omega, by omega⟩
  have q2 : inR (i + 2) n := ⟨by omega, by omega⟩
  have r3 : Rng (i + 3) := ⟨by omega, by omega⟩
  have q3 : inR (i + 3) n := ⟨by omega, by omega⟩
  have b := B.bd i0 i4 hn
  refine And.intro r1 ?_
  refine And.intro q1 ?_
  refine And.intro r2 ?_
  refine And.intro q2 ?_
  refine And.intro (fun z0 => ?_) (fun z0 => ?_)
  · skip
    refine And.intro r3 ?_
    refine And.intro q3 ?_
    refine And.intro (fun z1 => ?_) (fun z1 => ?_)
    · skip
      show doC 601024 7293034 100 (sp clW) [] XW (kw n SX K 378 (code_LK19.drop 26)) 1332 1335 (lmk 0 7 [0, 1, 2, 3, 4] [aX 1000, aX 0, aX 62, aX 77, .inl i]) h u v 317 [aX 0, .inl (SX (i + 1)), .inl 0, .inl 0, aX 77] []
      refine dcI (cs := s_L_extreme) (by rfl) (mc := 2) (ms := 12) (ht := 8) (by rfl) ⟨rfl, by omega, by omega, rfl⟩ (c_extreme L (SX (i + 1)) (0) (0)) ?_
      rintro k g1 q n1
      refine And.intro r1 ?_
      refine And.intro q1 ?_
      refine And.intro r2 ?_
      refine And.intro q2 ?_
      refine And.intro (fun _ => ?_) (fun e9 => absurd z0 e9)
      refine And.intro r3 ?_
      refine And.intro q3 ?_
      refine And.intro (fun _ => ?_) (fun e9 => absurd z1 e9)
      show doC 601024 7293034 100 (sp clW) [] XW (kw n SX K 356 (code_LK19.drop 52)) 1372 1375 (lset1 (lmk 0 7 [0, 1, 2, 3, 4] [aX 1000, aX 0, aX 62, aX 77, .inl i]) 5 (.inl k)) g1 (u + 2) (v + 12) 243 [aX 62, .inl (SX (i + 1)), .inl 0, .inl 0] []
      refine dcE (cs := s_X10_extreme) (by rfl) (ht := 9) (by rfl) ⟨rfl, by omega, by omega, rfl⟩ q ?_
      rintro y g2 L2 e1 e2 n2
      show doC 601024 7293034 100 (sp clW) [] XW (kw n SX K 353 (code_LK19.drop 55)) 1378 1381 (lset1 (lset1 (lmk 0 7 [0, 1, 2, 3, 4] [aX 1000, aX 0, aX 62, aX 77, .inl i]) 5 (.inl k)) 6 (.inl y)) g2 (u + 2) (v + 12) 190 [aX 62] []
      refine dcT (by rfl) (by rfl) ⟨rfl, by omega, by omega, rfl⟩ ?_
      refine And.intro (fun _ => ?_) (fun e9 => absurd e1 e9)
      refine And.intro (fun _ => ?_) (fun e3 => ?_)
      · skip
        exact hK _ _ _ L2 (B.st (Nat.le_trans n1 n2) L2 (by omega) (by omega))
      · skip
        refine And.intro ⟨by decide, by decide⟩ ?_
        refine And.intro (fun _ => ?_) (fun e9 => absurd (cmpL_z (e2 e3)) e9)
        exact hK _ _ _ L2 (B.st (Nat.le_trans n1 n2) L2 (by omega) (by omega))
    · skip
      show doC 601024 7293034 100 (sp clW) [] XW (kw n SX K 377 (code_LK19.drop 26)) 1332 1335 (lmk 0 7 [0, 1, 2, 3, 4] [aX 1000, aX 0, aX 62, aX 77, .inl i]) h u v 317 [aX 0, .inl (SX (i + 1)), .inl 0, .inl 1, aX 77] []
      refine dcI (cs := s_L_extreme) (by rfl) (mc := 2) (ms := 12) (ht := 8) (by rfl) ⟨rfl, by omega, by omega, rfl⟩ (c_extreme L (SX (i + 1)) (0) (1)) ?_
      rintro k g1 q n1
      refine And.intro r1 ?_
      refine And.intro q1 ?_
      refine And.intro r2 ?_
      refine And.intro q2 ?_
      refine And.intro (fun _ => ?_) (fun e9 => absurd z0 e9)
      refine And.intro r3 ?_
      refine And.intro q3 ?_
      refine And.intro (fun e9 => absurd e9 z1) (fun _ => ?_)
      show doC 601024 7293034 100 (sp clW) [] XW (kw n SX K 354 (code_LK19.drop 52)) 1372 1375 (lset1 (lmk 0 7 [0, 1, 2, 3, 4] [aX 1000, aX 0, aX 62, aX 77, .inl i]) 5 (.inl k)) g1 (u + 2) (v + 12) 243 [aX 62, .inl (SX (i + 1)), .inl 0, .inl 1] []
      refine dcE (cs := s_X10_extreme) (by rfl) (ht := 9) (by rfl) ⟨rfl, by omega, by omega, rfl⟩ q ?_
      rintro y g2 L2 e1 e2 n2
      show doC 601024 7293034 100 (sp clW) [] XW (kw n SX K 351 (code_LK19.drop 55)) 1378 1381 (lset1 (lset1 (lmk 0 7 [0, 1, 2, 3, 4] [aX 1000, aX 0, aX 62, aX 77, .inl i]) 5 (.inl k)) 6 (.inl y)) g2 (u + 2) (v + 12) 190 [aX 62] []
      refine dcT (by rfl) (by rfl) ⟨rfl, by omega, by omega, rfl⟩ ?_
      refine And.intro (fun _ => ?_) (fun e9 => absurd e1 e9)
      refine And.intro (fun _ => ?_) (fun e3 => ?_)
      · skip
        exact hK _ _ _ L2 (B.st (Nat.le_trans n1 n2) L2 (by omega) (by omega))
      · skip
        refine And.intro ⟨by decide, by decide⟩ ?_
        refine And.intro (fun _ => ?_) (fun e9 => absurd (cmpL_z (e2 e3)) e9)
        exact hK _ _ _ L2 (B.st (Nat.le_trans n1 n2) L2 (by omega) (by omega))
  · skip
    refine And.intro r3 ?_
    refine And.intro q3 ?_
    refine And.intro (fun z1 => ?_) (fun z1 => ?_)
    · skip
      show doC 601024 7293034 100 (sp clW) [] XW (kw n SX K 377 (code_LK19.drop 26)) 1332 1335 (lmk 0 7 [0, 1, 2, 3, 4] [aX 1000, aX 0, aX 62, aX 77, .inl i]) h u v 317 [aX 0, .inl (SX (i + 1)), .inl 1, .inl 0, aX 77] []
      refine dcI (cs := s_L_extreme) (by rfl) (mc := 2) (ms := 12) (ht := 8) (by rfl) ⟨rfl, by omega, by omega, rfl⟩ (c_extreme L (SX (i + 1)) (1) (0)) ?_
      rintro k g1 q n1
      refine And.intro r1 ?_
      refine And.intro q1 ?_
      refine And.intro r2 ?_
      refine And.intro q2 ?_
      refine And.intro (fun e9 => absurd e9 z0) (fun _ => ?_)
      refine And.intro r3 ?_
      refine And.intro q3 ?_
      refine And.intro (fun _ => ?_) (fun e9 => absurd z1 e9)
      show doC 601024 7293034 100 (sp clW) [] XW (kw n SX K 354 (code_LK19.drop 52)) 1372 1375 (lset1 (lmk 0 7 [0, 1, 2, 3, 4] [aX 1000, aX 0, aX 62, aX 77, .inl i]) 5 (.inl k)) g1 (u + 2) (v + 12) 243 [aX 62, .inl (SX (i + 1)), .inl 1, .inl 0] []
      refine dcE (cs := s_X10_extreme) (by rfl) (ht := 9) (by rfl) ⟨rfl, by omega, by omega, rfl⟩ q ?_
      rintro y g2 L2 e1 e2 n2
      show doC 601024 7293034 100 (sp clW) [] XW (kw n SX K 351 (code_LK19.drop 55)) 1378 1381 (lset1 (lset1 (lmk 0 7 [0, 1, 2, 3, 4] [aX 1000, aX 0, aX 62, aX 77, .inl i]) 5 (.inl k)) 6 (.inl y)) g2 (u + 2) (v + 12) 190 [aX 62] []
      refine dcT (by rfl) (by rfl) ⟨rfl, by omega, by omega, rfl⟩ ?_
      refine And.intro (fun _ => ?_) (fun e9 => absurd e1 e9)
      refine And.intro (fun _ => ?_) (fun e3 => ?_)
      · skip
        exact hK _ _ _ L2 (B.st (Nat.le_trans n1 n2) L2 (by omega) (by omega))
      · skip
        refine And.intro ⟨by decide, by decide⟩ ?_
        refine And.intro (fun _ => ?_) (fun e9 => absurd (cmpL_z (e2 e3)) e9)
        exact hK _ _ _ L2 (B.st (Nat.le_trans n1 n2) L2 (by omega) (by omega))
    · skip
      show doC 601024 7293034 100 (sp clW) [] XW (kw n SX K 376 (code_LK19.drop 26)) 1332 1335 (lmk 0 7 [0, 1, 2, 3, 4] [aX 1000, aX 0, aX 62, aX 77, .inl i]) h u v 317 [aX 0, .inl (SX (i + 1)), .inl 1, .inl 1, aX 77] []
      refine dcI (cs := s_L_extreme) (by rfl) (mc := 2) (ms := 12) (ht := 8) (by rfl) ⟨rfl, by omega, by omega, rfl⟩ (c_extreme L (SX (i + 1)) (1) (1)) ?_
      rintro k g1 q n1
      refine And.intro r1 ?_
      refine And.intro q1 ?_
      refine And.intro r2 ?_
      refine And.intro q2 ?_
      refine And.intro (fun e9 => absurd e9 z0) (fun _ => ?_)
      refine And.intro r3 ?_
      refine And.intro q3 ?_
      refine And.intro (fun e9 => absurd e9 z1) (fun _ => ?_)
      show doC 601024 7293034 100 (sp clW) [] XW (kw n SX K 352 (code_LK19.drop 52)) 1372 1375 (lset1 (lmk 0 7 [0, 1, 2, 3, 4] [aX 1000, aX 0, aX 62, aX 77, .inl i]) 5 (.inl k)) g1 (u + 2) (v + 12) 243 [aX 62, .inl (SX (i + 1)), .inl 1, .inl 1] []
      refine dcE (cs := s_X10_extreme) (by rfl) (ht := 9) (by rfl) ⟨rfl, by omega, by omega, rfl⟩ q ?_
      rintro y g2 L2 e1 e2 n2
      show doC 601024 7293034 100 (sp clW) [] XW (kw n SX K 349 (code_LK19.drop 55)) 1378 1381 (lset1 (lset1 (lmk 0 7 [0, 1, 2, 3, 4] [aX 1000, aX 0, aX 62, aX 77, .inl i]) 5 (.inl k)) 6 (.inl y)) g2 (u + 2) (v + 12) 190 [aX 62] []
      refine dcT (by rfl) (by rfl) ⟨rfl, by omega, by omega, rfl⟩ ?_
      refine And.intro (fun _ => ?_) (fun e9 => absurd e1 e9)
      refine And.intro (fun _ => ?_) (fun e3 => ?_)
      · skip
        exact hK _ _ _ L2 (B.st (Nat.le_trans n1 n2) L2 (by omega) (by omega))
      · skip
        refine And.intro ⟨by decide, by decide⟩ ?_
        refine And.intro (fun _ => ?_) (fun e9 => absurd (cmpL_z (e2 e3)) e9)
        exact hK _ _ _ L2 (B.st (Nat.le_trans n1 n2) L2 (by omega) (by omega))

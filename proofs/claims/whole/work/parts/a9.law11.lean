/-! ===== the law's cases ===== -/
/-- the walk's rest, behind a call -/
def kw (n : Int) (SX : Int → Int) (K : AKK) (m : Nat) (tl : List (Nat × Row)) : AK := fun pc1 ls1 st1 h1 c1 s1 => match look cutW pc1 with
  | some live => atcut K live pc1 ls1 st1 h1 c1 s1
  | none => aw true 2 601024 7293034 100 (sp clW) [] RtW XW (some n) SX [] cutW K m tl pc1 ls1 st1 h1 c1 s1
set_option maxRecDepth 100000 in
set_option maxHeartbeats 1000000 in
theorem w_variable {n : Int} {SX : Int → Int} {K : AKK} {i : Int} {h : Hp} {u v : Nat} (hn : n ≤ 2048) (i0 : 0 ≤ i) (i4 : i + 4 ≤ n) (L : LI h) (B : Bg i h u v) (hK : ∀ g u9 v9, LI g → Bg (i + 4) g u9 v9 → K 2363 [aX 1000, aX 0, aX 62, aX 77, .inl i] g u9 v9) : aw true 2 601024 7293034 100 (sp clW) [] RtW XW (some n) SX [] cutW K 400 code_LK0 212 (lmk 0 7 [0, 1, 2, 3, 4] [aX 1000, aX 0, aX 62, aX 77, .inl i]) [] h u v := by
  have r1 : Rng (i + 1) := ⟨by omega, by omega⟩
  have q1 : inR (i + 1) n := ⟨by omega, by omega⟩
  have b := B.bd i0 i4 hn
  refine And.intro r1 ?_
  refine And.intro q1 ?_
  show doC 601024 7293034 100 (sp clW) [] XW (kw n SX K 392 (code_LK0.drop 8)) 220 223 (lmk 0 7 [0, 1, 2, 3, 4] [aX 1000, aX 0, aX 62, aX 77, .inl i]) h u v 302 [aX 0, .inl (SX (i + 1)), aX 77] []
  refine dcI (cs := s_L_variable) (by rfl) (mc := 2) (ms := 12) (ht := 5) (by rfl) ⟨rfl, by omega, by omega, rfl⟩ (c_variable L (SX (i + 1))) ?_
  rintro k g1 q n1
  refine And.intro r1 ?_
  refine And.intro q1 ?_
  show doC 601024 7293034 100 (sp clW) [] XW (kw n SX K 384 (code_LK0.drop 16)) 232 235 (lset1 (lmk 0 7 [0, 1, 2, 3, 4] [aX 1000, aX 0, aX 62, aX 77, .inl i]) 5 (.inl k)) g1 (u + 2) (v + 12) 205 [aX 62, .inl (SX (i + 1))] []
  refine dcE (cs := s_X10_variable) (by rfl) (ht := 4) (by rfl) ⟨rfl, by omega, by omega, rfl⟩ q ?_
  rintro y g2 L2 e1 e2 n2
  show doC 601024 7293034 100 (sp clW) [] XW (kw n SX K 381 (code_LK0.drop 19)) 238 241 (lset1 (lset1 (lmk 0 7 [0, 1, 2, 3, 4] [aX 1000, aX 0, aX 62, aX 77, .inl i]) 5 (.inl k)) 6 (.inl y)) g2 (u + 2) (v + 12) 190 [aX 62] []
  refine dcT (by rfl) (by rfl) ⟨rfl, by omega, by omega, rfl⟩ ?_
  refine And.intro (fun _ => ?_) (fun e9 => absurd e1 e9)
  refine And.intro (fun _ => ?_) (fun e3 => ?_)
  · skip
    exact hK _ _ _ L2 (B.st (Nat.le_trans n1 n2) L2 (by omega) (by omega))
  · skip
    refine And.intro ⟨by decide, by decide⟩ ?_
    refine And.intro (fun _ => ?_) (fun e9 => absurd (cmpL_z (e2 e3)) e9)
    exact hK _ _ _ L2 (B.st (Nat.le_trans n1 n2) L2 (by omega) (by omega))
set_option maxRecDepth 100000 in
set_option maxHeartbeats 1000000 in
theorem w_constant {n : Int} {SX : Int → Int} {K : AKK} {i : Int} {h : Hp} {u v : Nat} (hn : n ≤ 2048) (i0 : 0 ≤ i) (i4 : i + 4 ≤ n) (L : LI h) (B : Bg i h u v) (hK : ∀ g u9 v9, LI g → Bg (i + 4) g u9 v9 → K 2363 [aX 1000, aX 0, aX 62, aX 77, .inl i] g u9 v9) : aw true 2 601024 7293034 100 (sp clW) [] RtW XW (some n) SX [] cutW K 400 code_LK1 268 (lmk 0 7 [0, 1, 2, 3, 4] [aX 1000, aX 0, aX 62, aX 77, .inl i]) [] h u v := by
  have r1 : Rng (i + 1) := ⟨by omega, by omega⟩
  have q1 : inR (i + 1) n := ⟨by omega, by omega⟩
  have r2 : Rng (i + 2) := ⟨by omega, by omega⟩
  have q2 : inR (i + 2) n := ⟨by omega, by omega⟩
  have b := B.bd i0 i4 hn
  refine And.intro r1 ?_
  refine And.intro q1 ?_
  refine And.intro r2 ?_
  refine And.intro q2 ?_
  show doC 601024 7293034 100 (sp clW) [] XW (kw n SX K 387 (code_LK1.drop 13)) 282 285 (lmk 0 7 [0, 1, 2, 3, 4] [aX 1000, aX 0, aX 62, aX 77, .inl i]) h u v 303 [aX 0, .inl (SX (i + 1)), .inl (SX (i + 2)), aX 77] []
  refine dcI (cs := s_L_constant) (by rfl) (mc := 2) (ms := 12) (ht := 5) (by rfl) ⟨rfl, by omega, by omega, rfl⟩ (c_constant L (SX (i + 1)) (SX (i + 2))) ?_
  rintro k g1 q n1
  refine And.intro r1 ?_
  refine And.intro q1 ?_
  refine And.intro r2 ?_
  refine And.intro q2 ?_
  show doC 601024 7293034 100 (sp clW) [] XW (kw n SX K 374 (code_LK1.drop 26)) 300 303 (lset1 (lmk 0 7 [0, 1, 2, 3, 4] [aX 1000, aX 0, aX 62, aX 77, .inl i]) 5 (.inl k)) g1 (u + 2) (v + 12) 207 [aX 62, .inl (SX (i + 1)), .inl (SX (i + 2))] []
  refine dcE (cs := s_X10_constant) (by rfl) (ht := 5) (by rfl) ⟨rfl, by omega, by omega, rfl⟩ q ?_
  rintro y g2 L2 e1 e2 n2
  show doC 601024 7293034 100 (sp clW) [] XW (kw n SX K 371 (code_LK1.drop 29)) 306 309 (lset1 (lset1 (lmk 0 7 [0, 1, 2, 3, 4] [aX 1000, aX 0, aX 62, aX 77, .inl i]) 5 (.inl k)) 6 (.inl y)) g2 (u + 2) (v + 12) 190 [aX 62] []
  refine dcT (by rfl) (by rfl) ⟨rfl, by omega, by omega, rfl⟩ ?_
  refine And.intro (fun _ => ?_) (fun e9 => absurd e1 e9)
  refine And.intro (fun _ => ?_) (fun e3 => ?_)
  · skip
    exact hK _ _ _ L2 (B.st (Nat.le_trans n1 n2) L2 (by omega) (by omega))
  · skip
    refine And.intro ⟨by decide, by decide⟩ ?_
    refine And.intro (fun _ => ?_) (fun e9 => absurd (cmpL_z (e2 e3)) e9)
    exact hK _ _ _ L2 (B.st (Nat.le_trans n1 n2) L2 (by omega) (by omega))
set_option maxRecDepth 100000 in
set_option maxHeartbeats 1000000 in
theorem w_binary {n : Int} {SX : Int → Int} {K : AKK} {i : Int} {h : Hp} {u v : Nat} (hn : n ≤ 2048) (i0 : 0 ≤ i) (i4 : i + 4 ≤ n) (L : LI h) (B : Bg i h u v) (hK : ∀ g u9 v9, LI g → Bg (i + 4) g u9 v9 → K 2363 [aX 1000, aX 0, aX 62, aX 77, .inl i] g u9 v9) : aw true 2 601024 7293034 100 (sp clW) [] RtW XW (some n) SX [] cutW K 400 code_LK2 336 (lmk 0 7 [0, 1, 2, 3, 4] [aX 1000, aX 0, aX 62, aX 77, .inl i]) [] h u v := by
  have r1 : Rng (i + 1) := ⟨by omega, by omega⟩
  have q1 : inR (i + 1) n := ⟨by omega, by omega⟩
  have r2 : Rng (i + 2) := ⟨by omega, by omega⟩
  have q2 : inR (i + 2) n := ⟨by omega, by omega⟩
  have r3 : Rng (i + 3) := ⟨by omega, by omega⟩
  have q3 : inR (i + 3) n := ⟨by omega, by omega⟩
  have b := B.bd i0 i4 hn
  refine And.intro r1 ?_
  refine And.intro q1 ?_
  refine And.intro r2 ?_
  refine And.intro q2 ?_
  refine And.intro r3 ?_
  refine And.intro q3 ?_
  show doC 601024 7293034 100 (sp clW) [] XW (kw n SX K 382 (code_LK2.drop 18)) 356 359 (lmk 0 7 [0, 1, 2, 3, 4] [aX 1000, aX 0, aX 62, aX 77, .inl i]) h u v 304 [aX 0, .inl (SX (i + 1)), .inl (SX (i + 2)), .inl (SX (i + 3)), aX 77] []
  refine dcI (cs := s_L_binary) (by rfl) (mc := 4) (ms := 24) (ht := 6) (by rfl) ⟨rfl, by omega, by omega, rfl⟩ (c_binary L (SX (i + 1)) (SX (i + 2)) (SX (i + 3))) ?_
  rintro k g1 q n1
  refine And.intro r1 ?_
  refine And.intro q1 ?_
  refine And.intro r2 ?_
  refine And.intro q2 ?_
  refine And.intro r3 ?_
  refine And.intro q3 ?_
  show doC 601024 7293034 100 (sp clW) [] XW (kw n SX K 364 (code_LK2.drop 36)) 380 383 (lset1 (lmk 0 7 [0, 1, 2, 3, 4] [aX 1000, aX 0, aX 62, aX 77, .inl i]) 5 (.inl k)) g1 (u + 4) (v + 24) 210 [aX 62, .inl (SX (i + 1)), .inl (SX (i + 2)), .inl (SX (i + 3))] []
  refine dcE (cs := s_X10_binary) (by rfl) (ht := 5) (by rfl) ⟨rfl, by omega, by omega, rfl⟩ q ?_
  rintro y g2 L2 e1 e2 n2
  show doC 601024 7293034 100 (sp clW) [] XW (kw n SX K 361 (code_LK2.drop 39)) 386 389 (lset1 (lset1 (lmk 0 7 [0, 1, 2, 3, 4] [aX 1000, aX 0, aX 62, aX 77, .inl i]) 5 (.inl k)) 6 (.inl y)) g2 (u + 4) (v + 24) 190 [aX 62] []
  refine dcT (by rfl) (by rfl) ⟨rfl, by omega, by omega, rfl⟩ ?_
  refine And.intro (fun _ => ?_) (fun e9 => absurd e1 e9)
  refine And.intro (fun _ => ?_) (fun e3 => ?_)
  · skip
    exact hK _ _ _ L2 (B.st (Nat.le_trans n1 n2) L2 (by omega) (by omega))
  · skip
    refine And.intro ⟨by decide, by decide⟩ ?_
    refine And.intro (fun _ => ?_) (fun e9 => absurd (cmpL_z (e2 e3)) e9)
    exact hK _ _ _ L2 (B.st (Nat.le_trans n1 n2) L2 (by omega) (by omega))
set_option maxRecDepth 100000 in
set_option maxHeartbeats 1000000 in
theorem w_unary {n : Int} {SX : Int → Int} {K : AKK} {i : Int} {h : Hp} {u v : Nat} (hn : n ≤ 2048) (i0 : 0 ≤ i) (i4 : i + 4 ≤ n) (L : LI h) (B : Bg i h u v) (hK : ∀ g u9 v9, LI g → Bg (i + 4) g u9 v9 → K 2363 [aX 1000, aX 0, aX 62, aX 77, .inl i] g u9 v9) : aw true 2 601024 7293034 100 (sp clW) [] RtW XW (some n) SX [] cutW K 400 code_LK3 416 (lmk 0 7 [0, 1, 2, 3, 4] [aX 1000, aX 0, aX 62, aX 77, .inl i]) [] h u v := by
  have r1 : Rng (i + 1) := ⟨by omega, by omega⟩
  have q1 : inR (i + 1) n := ⟨by omega, by omega⟩
  have r2 : Rng (i + 2) := ⟨by omega, by omega⟩
  have q2 : inR (i + 2) n := ⟨by omega, by omega⟩
  have b := B.bd i0 i4 hn
  refine And.intro r1 ?_
  refine And.intro q1 ?_
  refine And.intro r2 ?_
  refine And.intro q2 ?_
  show doC 601024 7293034 100 (sp clW) [] XW (kw n SX K 387 (code_LK3.drop 13)) 430 433 (lmk 0 7 [0, 1, 2, 3, 4] [aX 1000, aX 0, aX 62, aX 77, .inl i]) h u v 305 [aX 0, .inl (SX (i + 1)), .inl (SX (i + 2)), aX 77] []
  refine dcI (cs := s_L_unary) (by rfl) (mc := 3) (ms := 18) (ht := 5) (by rfl) ⟨rfl, by omega, by omega, rfl⟩ (c_unary L (SX (i + 1)) (SX (i + 2))) ?_
  rintro k g1 q n1
  refine And.intro r1 ?_
  refine And.intro q1 ?_
  refine And.intro r2 ?_
  refine And.intro q2 ?_
  show doC 601024 7293034 100 (sp clW) [] XW (kw n SX K 374 (code_LK3.drop 26)) 448 451 (lset1 (lmk 0 7 [0, 1, 2, 3, 4] [aX 1000, aX 0, aX 62, aX 77, .inl i]) 5 (.inl k)) g1 (u + 3) (v + 18) 211 [aX 62, .inl (SX (i + 1)), .inl (SX (i + 2))] []
  refine dcE (cs := s_X10_unary) (by rfl) (ht := 5) (by rfl) ⟨rfl, by omega, by omega, rfl⟩ q ?_
  rintro y g2 L2 e1 e2 n2
  show doC 601024 7293034 100 (sp clW) [] XW (kw n SX K 371 (code_LK3.drop 29)) 454 457 (lset1 (lset1 (lmk 0 7 [0, 1, 2, 3, 4] [aX 1000, aX 0, aX 62, aX 77, .inl i]) 5 (.inl k)) 6 (.inl y)) g2 (u + 3) (v + 18) 190 [aX 62] []
  refine dcT (by rfl) (by rfl) ⟨rfl, by omega, by omega, rfl⟩ ?_
  refine And.intro (fun _ => ?_) (fun e9 => absurd e1 e9)
  refine And.intro (fun _ => ?_) (fun e3 => ?_)
  · skip
    exact hK _ _ _ L2 (B.st (Nat.le_trans n1 n2) L2 (by omega) (by omega))
  · skip
    refine And.intro ⟨by decide, by decide⟩ ?_
    refine And.intro (fun _ => ?_) (fun e9 => absurd (cmpL_z (e2 e3)) e9)
    exact hK _ _ _ L2 (B.st (Nat.le_trans n1 n2) L2 (by omega) (by omega))
set_option maxRecDepth 100000 in
set_option maxHeartbeats 1000000 in
theorem w_slice {n : Int} {SX : Int → Int} {K : AKK} {i : Int} {h : Hp} {u v : Nat} (hn : n ≤ 2048) (i0 : 0 ≤ i) (i4 : i + 4 ≤ n) (L : LI h) (B : Bg i h u v) (hK : ∀ g u9 v9, LI g → Bg (i + 4) g u9 v9 → K 2363 [aX 1000, aX 0, aX 62, aX 77, .inl i] g u9 v9) : aw true 2 601024 7293034 100 (sp clW) [] RtW XW (some n) SX [] cutW K 400 code_LK4 484 (lmk 0 7 [0, 1, 2, 3, 4] [aX 1000, aX 0, aX 62, aX 77, .inl i]) [] h u v := by
  have r1 : Rng (i + 1) := ⟨by omega, by omega⟩
  have q1 : inR (i + 1) n := ⟨by omega, by omega⟩
  have r2 : Rng (i + 2) := ⟨by omega, by omega⟩
  have q2 : inR (i + 2) n := ⟨by omega, by omega⟩
  have r3 : Rng (i + 3) := ⟨by omega, by omega⟩
  have q3 : inR (i + 3) n := ⟨by omega, by omega⟩
  have b := B.bd i0 i4 hn
  refine And.intro r1 ?_
  refine And.intro q1 ?_
  refine And.intro r2 ?_
  refine And.intro q2 ?_
  refine And.intro r3 ?_
  refine And.intro q3 ?_
  show doC 601024 7293034 100 (sp clW) [] XW (kw n SX K 382 (code_LK4.drop 18)) 504 507 (lmk 0 7 [0, 1, 2, 3, 4] [aX 1000, aX 0, aX 62, aX 77, .inl i]) h u v 306 [aX 0, .inl (SX (i + 1)), .inl (SX (i + 2)), .inl (SX (i + 3)), aX 77] []
  refine dcI (cs := s_L_slice) (by rfl) (mc := 3) (ms := 18) (ht := 6) (by rfl) ⟨rfl, by omega, by omega, rfl⟩ (c_slice L (SX (i + 1)) (SX (i + 2)) (SX (i + 3))) ?_
  rintro k g1 q n1
  refine And.intro r1 ?_
  refine And.intro q1 ?_
  refine And.intro r2 ?_
  refine And.intro q2 ?_
  refine And.intro r3 ?_
  refine And.intro q3 ?_
  show doC 601024 7293034 100 (sp clW) [] XW (kw n SX K 364 (code_LK4.drop 36)) 528 531 (lset1 (lmk 0 7 [0, 1, 2, 3, 4] [aX 1000, aX 0, aX 62, aX 77, .inl i]) 5 (.inl k)) g1 (u + 3) (v + 18) 213 [aX 62, .inl (SX (i + 1)), .inl (SX (i + 2)), .inl (SX (i + 3))] []
  refine dcE (cs := s_X10_slice) (by rfl) (ht := 5) (by rfl) ⟨rfl, by omega, by omega, rfl⟩ q ?_
  rintro y g2 L2 e1 e2 n2
  show doC 601024 7293034 100 (sp clW) [] XW (kw n SX K 361 (code_LK4.drop 39)) 534 537 (lset1 (lset1 (lmk 0 7 [0, 1, 2, 3, 4] [aX 1000, aX 0, aX 62, aX 77, .inl i]) 5 (.inl k)) 6 (.inl y)) g2 (u + 3) (v + 18) 190 [aX 62] []
  refine dcT (by rfl) (by rfl) ⟨rfl, by omega, by omega, rfl⟩ ?_
  refine And.intro (fun _ => ?_) (fun e9 => absurd e1 e9)
  refine And.intro (fun _ => ?_) (fun e3 => ?_)
  · skip
    exact hK _ _ _ L2 (B.st (Nat.le_trans n1 n2) L2 (by omega) (by omega))
  · skip
    refine And.intro ⟨by decide, by decide⟩ ?_
    refine And.intro (fun _ => ?_) (fun e9 => absurd (cmpL_z (e2 e3)) e9)
    exact hK _ _ _ L2 (B.st (Nat.le_trans n1 n2) L2 (by omega) (by omega))
set_option maxRecDepth 100000 in
set_option maxHeartbeats 1000000 in
theorem w_extend {n : Int} {SX : Int → Int} {K : AKK} {i : Int} {h : Hp} {u v : Nat} (hn : n ≤ 2048) (i0 : 0 ≤ i) (i4 : i + 4 ≤ n) (L : LI h) (B : Bg i h u v) (hK : ∀ g u9 v9, LI g → Bg (i + 4) g u9 v9 → K 2363 [aX 1000, aX 0, aX 62, aX 77, .inl i] g u9 v9) : aw true 2 601024 7293034 100 (sp clW) [] RtW XW (some n) SX [] cutW K 400 code_LK5 564 (lmk 0 7 [0, 1, 2, 3, 4] [aX 1000, aX 0, aX 62, aX 77, .inl i]) [] h u v := by
  have r1 : Rng (i + 1) := ⟨by omega, by omega⟩
  have q1 : inR (i + 1) n := ⟨by omega, by omega⟩
  have r2 : Rng (i + 2) := ⟨by omega, by omega⟩
  have q2 : inR (i + 2) n := ⟨by omega, by omega⟩
  have r3 : Rng (i + 3) := ⟨by omega, by omega⟩
  have q3 : inR (i + 3) n := ⟨by omega, by omega⟩
  have b := B.bd i0 i4 hn
  refine And.intro r1 ?_
  refine And.intro q1 ?_
  refine And.intro r2 ?_
  refine And.intro q2 ?_
  refine And.intro r3 ?_
  refine And.intro q3 ?_
  refine And.intro (fun z0 => ?_) (fun z0 => ?_)
  · skip
    show doC 601024 7293034 100 (sp clW) [] XW (kw n SX K 380 (code_LK5.drop 22)) 592 595 (lmk 0 7 [0, 1, 2, 3, 4] [aX 1000, aX 0, aX 62, aX 77, .inl i]) h u v 307 [aX 0, .inl (SX (i + 1)), .inl (SX (i + 2)), .inl 0, aX 77] []
    refine dcI (cs := s_L_extend) (by rfl) (mc := 3) (ms := 18) (ht := 6) (by rfl) ⟨rfl, by omega, by omega, rfl⟩ (c_extend L (SX (i + 1)) (SX (i + 2)) (0)) ?_
    rintro k g1 q n1
    refine And.intro r1 ?_
    refine And.intro q1 ?_
    refine And.intro r2 ?_
    refine And.intro q2 ?_
    refine And.intro r3 ?_
    refine And.intro q3 ?_
    refine And.intro (fun _ => ?_) (fun e9 => absurd z0 e9)
    show doC 601024 7293034 100 (sp clW) [] XW (kw n SX K 360 (code_LK5.drop 44)) 624 627 (lset1 (lmk 0 7 [0, 1, 2, 3, 4] [aX 1000, aX 0, aX 62, aX 77, .inl i]) 5 (.inl k)) g1 (u + 3) (v + 18) 215 [aX 62, .inl (SX (i + 1)), .inl (SX (i + 2)), .inl 0] []
    refine dcE (cs := s_X10_extend) (by rfl) (ht := 5) (by rfl) ⟨rfl, by omega, by omega, rfl⟩ q ?_
    rintro y g2 L2 e1 e2 n2
    show doC 601024 7293034 100 (sp clW) [] XW (kw n SX K 357 (code_LK5.drop 47)) 630 633 (lset1 (lset1 (lmk 0 7 [0, 1, 2, 3, 4] [aX 1000, aX 0, aX 62, aX 77, .inl i]) 5 (.inl k)) 6 (.inl y)) g2 (u + 3) (v + 18) 190 [aX 62] []
    refine dcT (by rfl) (by rfl) ⟨rfl, by omega, by omega, rfl⟩ ?_
    refine And.intro (fun _ => ?_) (fun e9 => absurd e1 e9)
    refine And.intro (fun _ => ?_) (fun e3 => ?_)
    · skip
      exact hK _ _ _ L2 (B.st (Nat.le_trans n1 n2) L2 (by omega) (by omega))
    · skip
      refine And.intro ⟨by decide, by decide⟩ ?_
      refine And.intro (fun _ => ?_) (fun e9 => absurd (cmpL_z (e2 e3)) e9)
      exact hK _ _ _ L2 (B.st (Nat.le_trans n1 n2) L2 (by omega) (by omega))
  · skip
    show doC 601024 7293034 100 (sp clW) [] XW (kw n SX K 379 (code_LK5.drop 22)) 592 595 (lmk 0 7 [0, 1, 2, 3, 4] [aX 1000, aX 0, aX 62, aX 77, .inl i]) h u v 307 [aX 0, .inl (SX (i + 1)), .inl (SX (i + 2)), .inl 1, aX 77] []
    refine dcI (cs := s_L_extend) (by rfl) (mc := 3) (ms := 18) (ht := 6) (by rfl) ⟨rfl, by omega, by omega, rfl⟩ (c_extend L (SX (i + 1)) (SX (i + 2)) (1)) ?_
    rintro k g1 q n1
    refine And.intro r1 ?_
    refine And.intro q1 ?_
    refine And.intro r2 ?_
    refine And.intro q2 ?_
    refine And.intro r3 ?_
    refine And.intro q3 ?_
    refine And.intro (fun e9 => absurd e9 z0) (fun _ => ?_)
    show doC 601024 7293034 100 (sp clW) [] XW (kw n SX K 358 (code_LK5.drop 44)) 624 627 (lset1 (lmk 0 7 [0, 1, 2, 3, 4] [aX 1000, aX 0, aX 62, aX 77, .inl i]) 5 (.inl k)) g1 (u + 3) (v + 18) 215 [aX 62, .inl (SX (i + 1)), .inl (SX (i + 2)), .inl 1] []
    refine dcE (cs := s_X10_extend) (by rfl) (ht := 5) (by rfl) ⟨rfl, by omega, by omega, rfl⟩ q ?_
    rintro y g2 L2 e1 e2 n2
    show doC 601024 7293034 100 (sp clW) [] XW (kw n SX K 355 (code_LK5.drop 47)) 630 633 (lset1 (lset1 (lmk 0 7 [0, 1, 2, 3, 4] [aX 1000, aX 0, aX 62, aX 77, .inl i]) 5 (.inl k)) 6 (.inl y)) g2 (u + 3) (v + 18) 190 [aX 62] []
    refine dcT (by rfl) (by rfl) ⟨rfl, by omega, by omega, rfl⟩ ?_
    refine And.intro (fun _ => ?_) (fun e9 => absurd e1 e9)
    refine And.intro (fun _ => ?_) (fun e3 => ?_)
    · skip
      exact hK _ _ _ L2 (B.st (Nat.le_trans n1 n2) L2 (by omega) (by omega))
    · skip
      refine And.intro ⟨by decide, by decide⟩ ?_
      refine And.intro (fun _ => ?_) (fun e9 => absurd (cmpL_z (e2 e3)) e9)
      exact hK _ _ _ L2 (B.st (Nat.le_trans n1 n2) L2 (by omega) (by omega))
set_option maxRecDepth 100000 in
set_option maxHeartbeats 1000000 in
theorem w_choice {n : Int} {SX : Int → Int} {K : AKK} {i : Int} {h : Hp} {u v : Nat} (hn : n ≤ 2048) (i0 : 0 ≤ i) (i4 : i + 4 ≤ n) (L : LI h) (B : Bg i h u v) (hK : ∀ g u9 v9, LI g → Bg (i + 4) g u9 v9 → K 2363 [aX 1000, aX 0, aX 62, aX 77, .inl i] g u9 v9) : aw true 2 601024 7293034 100 (sp clW) [] RtW XW (some n) SX [] cutW K 400 code_LK6 660 (lmk 0 7 [0, 1, 2, 3, 4] [aX 1000, aX 0, aX 62, aX 77, .inl i]) [] h u v := by
  have r1 : Rng (i + 1) := ⟨by omega, by omega⟩
  have q1 : inR (i + 1) n := ⟨by omega, by omega⟩
  have r2 : Rng (i + 2) := ⟨by omega, by omega⟩
  have q2 : inR (i + 2) n := ⟨by omega, by omega⟩
  have r3 : Rng (i + 3) := ⟨by omega, by omega⟩
  have q3 : inR (i + 3) n := ⟨by omega, by omega⟩
  have b := B.bd i0 i4 hn
  refine And.intro r1 ?_
  refine And.intro q1 ?_
  refine And.intro r2 ?_
  refine And.intro q2 ?_
  refine And.intro r3 ?_
  refine And.intro q3 ?_
  show doC 601024 7293034 100 (sp clW) [] XW (kw n SX K 382 (code_LK6.drop 18)) 680 683 (lmk 0 7 [0, 1, 2, 3, 4] [aX 1000, aX 0, aX 62, aX 77, .inl i]) h u v 308 [aX 0, .inl (SX (i + 1)), .inl (SX (i + 2)), .inl (SX (i + 3)), aX 77] []
  refine dcI (cs := s_L_choice) (by rfl) (mc := 4) (ms := 24) (ht := 5) (by rfl) ⟨rfl, by omega, by omega, rfl⟩ (c_choice L (SX (i + 1)) (SX (i + 2)) (SX (i + 3))) ?_
  rintro k g1 q n1
  refine And.intro r1 ?_
  refine And.intro q1 ?_
  refine And.intro r2 ?_
  refine And.intro q2 ?_
  refine And.intro r3 ?_
  refine And.intro q3 ?_
  show doC 601024 7293034 100 (sp clW) [] XW (kw n SX K 364 (code_LK6.drop 36)) 704 707 (lset1 (lmk 0 7 [0, 1, 2, 3, 4] [aX 1000, aX 0, aX 62, aX 77, .inl i]) 5 (.inl k)) g1 (u + 4) (v + 24) 217 [aX 62, .inl (SX (i + 1)), .inl (SX (i + 2)), .inl (SX (i + 3))] []
  refine dcE (cs := s_X10_choice) (by rfl) (ht := 5) (by rfl) ⟨rfl, by omega, by omega, rfl⟩ q ?_
  rintro y g2 L2 e1 e2 n2
  show doC 601024 7293034 100 (sp clW) [] XW (kw n SX K 361 (code_LK6.drop 39)) 710 713 (lset1 (lset1 (lmk 0 7 [0, 1, 2, 3, 4] [aX 1000, aX 0, aX 62, aX 77, .inl i]) 5 (.inl k)) 6 (.inl y)) g2 (u + 4) (v + 24) 190 [aX 62] []
  refine dcT (by rfl) (by rfl) ⟨rfl, by omega, by omega, rfl⟩ ?_
  refine And.intro (fun _ => ?_) (fun e9 => absurd e1 e9)
  refine And.intro (fun _ => ?_) (fun e3 => ?_)
  · skip
    exact hK _ _ _ L2 (B.st (Nat.le_trans n1 n2) L2 (by omega) (by omega))
  · skip
    refine And.intro ⟨by decide, by decide⟩ ?_
    refine And.intro (fun _ => ?_) (fun e9 => absurd (cmpL_z (e2 e3)) e9)
    exact hK _ _ _ L2 (B.st (Nat.le_trans n1 n2) L2 (by omega) (by omega))
set_option maxRecDepth 100000 in
set_option maxHeartbeats 1000000 in
theorem w_nodes {n : Int} {SX : Int → Int} {K : AKK} {i : Int} {h : Hp} {u v : Nat} (hn : n ≤ 2048) (i0 : 0 ≤ i) (i4 : i + 4 ≤ n) (L : LI h) (B : Bg i h u v) (hK : ∀ g u9 v9, LI g → Bg (i + 4) g u9 v9 → K 2363 [aX 1000, aX 0, aX 62, aX 77, .inl i] g u9 v9) : aw true 2 601024 7293034 100 (sp clW) [] RtW XW (some n) SX [] cutW K 400 code_LK7 740 (lmk 0 7 [0, 1, 2, 3, 4] [aX 1000, aX 0, aX 62, aX 77, .inl i]) [] h u v := by
  have b := B.bd i0 i4 hn
  show doC 601024 7293034 100 (sp clW) [] XW (kw n SX K 398 (code_LK7.drop 2)) 741 744 (lmk 0 7 [0, 1, 2, 3, 4] [aX 1000, aX 0, aX 62, aX 77, .inl i]) h u v 143 [aX 0] []
  refine dcI (cs := s_X9_nodes) (by rfl) (mc := 0) (ms := 0) (ht := 2) (by rfl) ⟨rfl, by omega, by omega, rfl⟩ (c_nodes L) ?_
  rintro k g1 q n1
  show doC 601024 7293034 100 (sp clW) [] XW (kw n SX K 396 (code_LK7.drop 4)) 745 748 (lmk 0 7 [0, 1, 2, 3, 4] [aX 1000, aX 0, aX 62, aX 77, .inl i]) g1 (u + 0) (v + 0) 218 [aX 62] [.inl k]
  refine dcF (cs := s_X10_nodes) (by rfl) (ht := 1) (by rfl) ⟨rfl, by omega, by omega, rfl⟩ q ?_
  rintro g2 L2 n2
  refine And.intro (fun _ => ?_) (fun e9 => absurd rfl e9)
  exact hK _ _ _ L2 (B.st (Nat.le_trans n1 n2) L2 (by omega) (by omega))
set_option maxRecDepth 100000 in
set_option maxHeartbeats 1000000 in
theorem w_variables {n : Int} {SX : Int → Int} {K : AKK} {i : Int} {h : Hp} {u v : Nat} (hn : n ≤ 2048) (i0 : 0 ≤ i) (i4 : i + 4 ≤ n) (L : LI h) (B : Bg i h u v) (hK : ∀ g u9 v9, LI g → Bg (i + 4) g u9 v9 → K 2363 [aX 1000, aX 0, aX 62, aX 77, .inl i] g u9 v9) : aw true 2 601024 7293034 100 (sp clW) [] RtW XW (some n) SX [] cutW K 400 code_LK8 753 (lmk 0 7 [0, 1, 2, 3, 4] [aX 1000, aX 0, aX 62, aX 77, .inl i]) [] h u v := by
  have b := B.bd i0 i4 hn
  show doC 601024 7293034 100 (sp clW) [] XW (kw n SX K 398 (code_LK8.drop 2)) 754 757 (lmk 0 7 [0, 1, 2, 3, 4] [aX 1000, aX 0, aX 62, aX 77, .inl i]) h u v 144 [aX 0] []
  refine dcI (cs := s_X9_variables) (by rfl) (mc := 0) (ms := 0) (ht := 2) (by rfl) ⟨rfl, by omega, by omega, rfl⟩ (c_variables L) ?_
  rintro k g1 q n1
  show doC 601024 7293034 100 (sp clW) [] XW (kw n SX K 396 (code_LK8.drop 4)) 758 761 (lmk 0 7 [0, 1, 2, 3, 4] [aX 1000, aX 0, aX 62, aX 77, .inl i]) g1 (u + 0) (v + 0) 219 [aX 62] [.inl k]
  refine dcF (cs := s_X10_variables) (by rfl) (ht := 1) (by rfl) ⟨rfl, by omega, by omega, rfl⟩ q ?_
  rintro g2 L2 n2
  refine And.intro (fun _ => ?_) (fun e9 => absurd rfl e9)
  exact hK _ _ _ L2 (B.st (Nat.le_trans n1 n2) L2 (by omega) (by omega))
set_option maxRecDepth 100000 in
set_option maxHeartbeats 1000000 in
theorem w_info {n : Int} {SX : Int → Int} {K : AKK} {i : Int} {h : Hp} {u v : Nat} (hn : n ≤ 2048) (i0 : 0 ≤ i) (i4 : i + 4 ≤ n) (L : LI h) (B : Bg i h u v) (hK : ∀ g u9 v9, LI g → Bg (i + 4) g u9 v9 → K 2363 [aX 1000, aX 0, aX 62, aX 77, .inl i] g u9 v9) : aw true 2 601024 7293034 100 (sp clW) [] RtW XW (some n) SX [] cutW K 400 code_LK9 766 (lmk 0 7 [0, 1, 2, 3, 4] [aX 1000, aX 0, aX 62, aX 77, .inl i]) [] h u v := by
  have r1 : Rng (i + 1) := ⟨by omega, by omega⟩
  have q1 : inR (i + 1) n := ⟨by omega, by omega⟩
  have r2 : Rng (i + 2) := ⟨by omega, by omega⟩
  have q2 : inR (i + 2) n := ⟨by omega, by omega⟩
  have b := B.bd i0 i4 hn
  refine And.intro r1 ?_
  refine And.intro q1 ?_
  refine And.intro r2 ?_
  refine And.intro q2 ?_
  show doC 601024 7293034 100 (sp clW) [] XW (kw n SX K 387 (code_LK9.drop 13)) 780 783 (lmk 0 7 [0, 1, 2, 3, 4] [aX 1000, aX 0, aX 62, aX 77, .inl i]) h u v 309 [aX 0, .inl (SX (i + 1)), .inl (SX (i + 2)), aX 77] []
  refine dcI (cs := s_L_info) (by rfl) (mc := 2) (ms := 12) (ht := 4) (by rfl) ⟨rfl, by omega, by omega, rfl⟩ (c_info L (SX (i + 1)) (SX (i + 2))) ?_
  rintro k g1 q n1
  refine And.intro r1 ?_
  refine And.intro q1 ?_
  refine And.intro r2 ?_
  refine And.intro q2 ?_
  show doC 601024 7293034 100 (sp clW) [] XW (kw n SX K 374 (code_LK9.drop 26)) 798 801 (lset1 (lmk 0 7 [0, 1, 2, 3, 4] [aX 1000, aX 0, aX 62, aX 77, .inl i]) 5 (.inl k)) g1 (u + 2) (v + 12) 222 [aX 62, .inl (SX (i + 1)), .inl (SX (i + 2))] []
  refine dcE (cs := s_X10_info) (by rfl) (ht := 4) (by rfl) ⟨rfl, by omega, by omega, rfl⟩ q ?_
  rintro y g2 L2 e1 e2 n2
  show doC 601024 7293034 100 (sp clW) [] XW (kw n SX K 371 (code_LK9.drop 29)) 804 807 (lset1 (lset1 (lmk 0 7 [0, 1, 2, 3, 4] [aX 1000, aX 0, aX 62, aX 77, .inl i]) 5 (.inl k)) 6 (.inl y)) g2 (u + 2) (v + 12) 190 [aX 62] []
  refine dcT (by rfl) (by rfl) ⟨rfl, by omega, by omega, rfl⟩ ?_
  refine And.intro (fun _ => ?_) (fun e9 => absurd e1 e9)
  refine And.intro (fun _ => ?_) (fun e3 => ?_)
  · skip
    exact hK _ _ _ L2 (B.st (Nat.le_trans n1 n2) L2 (by omega) (by omega))
  · skip
    refine And.intro ⟨by decide, by decide⟩ ?_
    refine And.intro (fun _ => ?_) (fun e9 => absurd (cmpL_z (e2 e3)) e9)
    exact hK _ _ _ L2 (B.st (Nat.le_trans n1 n2) L2 (by omega) (by omega))

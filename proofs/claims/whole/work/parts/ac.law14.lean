/-! ===== the law's cases ===== -/
set_option maxRecDepth 100000 in
set_option maxHeartbeats 1000000 in
theorem w_gain {n : Int} {SX : Int → Int} {K : AKK} {i : Int} {h : Hp} {u v : Nat} (hn : n ≤ 2048) (i0 : 0 ≤ i) (i4 : i + 4 ≤ n) (L : LI h) (B : Bg i h u v) (hK : ∀ g u9 v9, LI g → Bg (i + 4) g u9 v9 → K 2363 [aX 1000, aX 0, aX 62, aX 77, .inl i] g u9 v9) : aw true 2 601024 7293034 100 (sp clW) [] RtW XW (some n) SX [] cutW K 400 code_LK30 2029 (lmk 0 7 [0, 1, 2, 3, 4] [aX 1000, aX 0, aX 62, aX 77, .inl i]) [] h u v := by
  have b := B.bd i0 i4 hn
  refine dcI (cs := s_X9_gain) (by rfl) (mc := 0) (ms := 0) (ht := 7) (by rfl) ⟨rfl, by omega, by omega, rfl⟩ (c_gain L) ?_
  rintro k g1 q n1
  refine dcF (cs := s_X10_gain) (by rfl) (ht := 9) (by rfl) ⟨rfl, by omega, by omega, rfl⟩ q ?_
  rintro g2 L2 n2
  refine And.intro (fun _ => ?_) (fun e9 => absurd rfl e9)
  exact hK _ _ _ L2 (B.st (Nat.le_trans n1 n2) L2 (by omega) (by omega))
set_option maxRecDepth 100000 in
set_option maxHeartbeats 1000000 in
theorem w_bestWitness {n : Int} {SX : Int → Int} {K : AKK} {i : Int} {h : Hp} {u v : Nat} (hn : n ≤ 2048) (i0 : 0 ≤ i) (i4 : i + 4 ≤ n) (L : LI h) (B : Bg i h u v) (hK : ∀ g u9 v9, LI g → Bg (i + 4) g u9 v9 → K 2363 [aX 1000, aX 0, aX 62, aX 77, .inl i] g u9 v9) : aw true 2 601024 7293034 100 (sp clW) [] RtW XW (some n) SX [] cutW K 400 code_LK31 2042 (lmk 0 7 [0, 1, 2, 3, 4] [aX 1000, aX 0, aX 62, aX 77, .inl i]) [] h u v := by
  have r1 : Rng (i + 1) := ⟨by omega, by omega⟩
  have q1 : inR (i + 1) n := ⟨by omega, by omega⟩
  have b := B.bd i0 i4 hn
  refine And.intro r1 ?_
  refine And.intro q1 ?_
  refine dcI (cs := s_L_bestWitness) (by rfl) (mc := 1) (ms := 6) (ht := 8) (by rfl) ⟨rfl, by omega, by omega, rfl⟩ (c_bestWitness L (SX (i + 1))) ?_
  rintro k g1 q n1
  refine And.intro r1 ?_
  refine And.intro q1 ?_
  refine dcE (cs := s_X10_bestWitness) (by rfl) (ht := 9) (by rfl) ⟨rfl, by omega, by omega, rfl⟩ q ?_
  rintro y g2 L2 e1 e2 n2
  refine dcT (by rfl) (by rfl) ⟨rfl, by omega, by omega, rfl⟩ ?_
  refine And.intro (fun _ => ?_) (fun e9 => absurd e1 e9)
  refine And.intro (fun _ => ?_) (fun e3 => ?_)
  · skip
    exact hK _ _ _ L2 (B.st (Nat.le_trans n1 n2) L2 (by omega) (by omega))
  · skip
    refine And.intro ⟨by decide, by decide⟩ ?_
    refine And.intro (fun _ => ?_) (fun e9 => absurd (cmpL_z (e2 e3)) e9)
    exact hK _ _ _ L2 (B.st (Nat.le_trans n1 n2) L2 (by omega) (by omega))
set_option maxRecDepth 100000 in
set_option maxHeartbeats 1000000 in
theorem w_append {n : Int} {SX : Int → Int} {K : AKK} {i : Int} {h : Hp} {u v : Nat} (hn : n ≤ 2048) (i0 : 0 ≤ i) (i4 : i + 4 ≤ n) (L : LI h) (B : Bg i h u v) (hK : ∀ g u9 v9, LI g → Bg (i + 4) g u9 v9 → K 2363 [aX 1000, aX 0, aX 62, aX 77, .inl i] g u9 v9) : aw true 2 601024 7293034 100 (sp clW) [] RtW XW (some n) SX [] cutW K 400 code_LK32 2098 (lmk 0 7 [0, 1, 2, 3, 4] [aX 1000, aX 0, aX 62, aX 77, .inl i]) [] h u v := by
  have r1 : Rng (i + 1) := ⟨by omega, by omega⟩
  have q1 : inR (i + 1) n := ⟨by omega, by omega⟩
  have b := B.bd i0 i4 hn
  refine And.intro r1 ?_
  refine And.intro q1 ?_
  refine dcI (cs := s_L_append) (by rfl) (mc := 1) (ms := 6) (ht := 3) (by rfl) ⟨rfl, by omega, by omega, rfl⟩ (c_append L (SX (i + 1))) ?_
  rintro k g1 q n1
  refine And.intro r1 ?_
  refine And.intro q1 ?_
  refine dcE (cs := s_X10_append) (by rfl) (ht := 2) (by rfl) ⟨rfl, by omega, by omega, rfl⟩ q ?_
  rintro y g2 L2 e1 e2 n2
  refine dcT (by rfl) (by rfl) ⟨rfl, by omega, by omega, rfl⟩ ?_
  refine And.intro (fun _ => ?_) (fun e9 => absurd e1 e9)
  refine And.intro (fun _ => ?_) (fun e3 => ?_)
  · skip
    exact hK _ _ _ L2 (B.st (Nat.le_trans n1 n2) L2 (by omega) (by omega))
  · skip
    refine And.intro ⟨by decide, by decide⟩ ?_
    refine And.intro (fun _ => ?_) (fun e9 => absurd (cmpL_z (e2 e3)) e9)
    exact hK _ _ _ L2 (B.st (Nat.le_trans n1 n2) L2 (by omega) (by omega))
set_option maxRecDepth 100000 in
set_option maxHeartbeats 1000000 in
theorem w_clearText {n : Int} {SX : Int → Int} {K : AKK} {i : Int} {h : Hp} {u v : Nat} (hn : n ≤ 2048) (i0 : 0 ≤ i) (i4 : i + 4 ≤ n) (L : LI h) (B : Bg i h u v) (hK : ∀ g u9 v9, LI g → Bg (i + 4) g u9 v9 → K 2363 [aX 1000, aX 0, aX 62, aX 77, .inl i] g u9 v9) : aw true 2 601024 7293034 100 (sp clW) [] RtW XW (some n) SX [] cutW K 400 code_LK33 2154 (lmk 0 7 [0, 1, 2, 3, 4] [aX 1000, aX 0, aX 62, aX 77, .inl i]) [] h u v := by
  have b := B.bd i0 i4 hn
  refine dcI (cs := s_X9_clearText) (by rfl) (mc := 0) (ms := 0) (ht := 2) (by rfl) ⟨rfl, by omega, by omega, rfl⟩ (c_clearText L) ?_
  rintro k g1 q n1
  refine dcF (cs := s_X10_clearText) (by rfl) (ht := 1) (by rfl) ⟨rfl, by omega, by omega, rfl⟩ q ?_
  rintro g2 L2 n2
  refine And.intro (fun _ => ?_) (fun e9 => absurd rfl e9)
  exact hK _ _ _ L2 (B.st (Nat.le_trans n1 n2) L2 (by omega) (by omega))
set_option maxRecDepth 100000 in
set_option maxHeartbeats 1000000 in
theorem w_syntaxError {n : Int} {SX : Int → Int} {K : AKK} {i : Int} {h : Hp} {u v : Nat} (hn : n ≤ 2048) (i0 : 0 ≤ i) (i4 : i + 4 ≤ n) (L : LI h) (B : Bg i h u v) (hK : ∀ g u9 v9, LI g → Bg (i + 4) g u9 v9 → K 2363 [aX 1000, aX 0, aX 62, aX 77, .inl i] g u9 v9) : aw true 2 601024 7293034 100 (sp clW) [] RtW XW (some n) SX [] cutW K 400 code_LK34 2167 (lmk 0 7 [0, 1, 2, 3, 4] [aX 1000, aX 0, aX 62, aX 77, .inl i]) [] h u v := by
  have b := B.bd i0 i4 hn
  refine dcI (cs := s_X9_syntaxError) (by rfl) (mc := 0) (ms := 0) (ht := 13) (by rfl) ⟨rfl, by omega, by omega, rfl⟩ (c_syntaxError L) ?_
  rintro k g1 q n1
  refine dcF (cs := s_X10_syntaxError) (by rfl) (ht := 7) (by rfl) ⟨rfl, by omega, by omega, rfl⟩ q ?_
  rintro g2 L2 n2
  refine And.intro (fun _ => ?_) (fun e9 => absurd rfl e9)
  exact hK _ _ _ L2 (B.st (Nat.le_trans n1 n2) L2 (by omega) (by omega))
set_option maxRecDepth 100000 in
set_option maxHeartbeats 1000000 in
theorem w_read {n : Int} {SX : Int → Int} {K : AKK} {i : Int} {h : Hp} {u v : Nat} (hn : n ≤ 2048) (i0 : 0 ≤ i) (i4 : i + 4 ≤ n) (L : LI h) (B : Bg i h u v) (hK : ∀ g u9 v9, LI g → Bg (i + 4) g u9 v9 → K 2363 [aX 1000, aX 0, aX 62, aX 77, .inl i] g u9 v9) : aw true 2 601024 7293034 100 (sp clW) [] RtW XW (some n) SX [] cutW K 400 code_LK35 2180 (lmk 0 7 [0, 1, 2, 3, 4] [aX 1000, aX 0, aX 62, aX 77, .inl i]) [] h u v := by
  have b := B.bd i0 i4 hn
  refine dcI (cs := s_L_read) (by rfl) (mc := 2) (ms := 12) (ht := 14) (by rfl) ⟨rfl, by omega, by omega, rfl⟩ (c_read L) ?_
  rintro k g1 q n1
  refine dcE (cs := s_X10_read) (by rfl) (ht := 7) (by rfl) ⟨rfl, by omega, by omega, rfl⟩ q ?_
  rintro y g2 L2 e1 e2 n2
  refine dcT (by rfl) (by rfl) ⟨rfl, by omega, by omega, rfl⟩ ?_
  refine And.intro (fun _ => ?_) (fun e9 => absurd e1 e9)
  refine And.intro (fun _ => ?_) (fun e3 => ?_)
  · skip
    exact hK _ _ _ L2 (B.st (Nat.le_trans n1 n2) L2 (by omega) (by omega))
  · skip
    refine And.intro ⟨by decide, by decide⟩ ?_
    refine And.intro (fun _ => ?_) (fun e9 => absurd (cmpL_z (e2 e3)) e9)
    exact hK _ _ _ L2 (B.st (Nat.le_trans n1 n2) L2 (by omega) (by omega))
set_option maxRecDepth 100000 in
set_option maxHeartbeats 1000000 in
theorem w_write {n : Int} {SX : Int → Int} {K : AKK} {i : Int} {h : Hp} {u v : Nat} (hn : n ≤ 2048) (i0 : 0 ≤ i) (i4 : i + 4 ≤ n) (L : LI h) (B : Bg i h u v) (hK : ∀ g u9 v9, LI g → Bg (i + 4) g u9 v9 → K 2363 [aX 1000, aX 0, aX 62, aX 77, .inl i] g u9 v9) : aw true 2 601024 7293034 100 (sp clW) [] RtW XW (some n) SX [] cutW K 400 code_LK36 2224 (lmk 0 7 [0, 1, 2, 3, 4] [aX 1000, aX 0, aX 62, aX 77, .inl i]) [] h u v := by
  have r1 : Rng (i + 1) := ⟨by omega, by omega⟩
  have q1 : inR (i + 1) n := ⟨by omega, by omega⟩
  have b := B.bd i0 i4 hn
  refine And.intro r1 ?_
  refine And.intro q1 ?_
  refine dcI (cs := s_L_write) (by rfl) (mc := 2) (ms := 12) (ht := 62) (by rfl) ⟨rfl, by omega, by omega, rfl⟩ (c_write L (SX (i + 1))) ?_
  rintro k g1 q n1
  refine And.intro r1 ?_
  refine And.intro q1 ?_
  refine dcE (cs := s_X10_write) (by rfl) (ht := 4) (by rfl) ⟨rfl, by omega, by omega, rfl⟩ q ?_
  rintro y g2 L2 e1 e2 n2
  refine dcT (by rfl) (by rfl) ⟨rfl, by omega, by omega, rfl⟩ ?_
  refine And.intro (fun _ => ?_) (fun e9 => absurd e1 e9)
  refine And.intro (fun _ => ?_) (fun e3 => ?_)
  · skip
    exact hK _ _ _ L2 (B.st (Nat.le_trans n1 n2) L2 (by omega) (by omega))
  · skip
    refine And.intro ⟨by decide, by decide⟩ ?_
    refine And.intro (fun _ => ?_) (fun e9 => absurd (cmpL_z (e2 e3)) e9)
    exact hK _ _ _ L2 (B.st (Nat.le_trans n1 n2) L2 (by omega) (by omega))
set_option maxRecDepth 100000 in
set_option maxHeartbeats 1000000 in
theorem w_character {n : Int} {SX : Int → Int} {K : AKK} {i : Int} {h : Hp} {u v : Nat} (hn : n ≤ 2048) (i0 : 0 ≤ i) (i4 : i + 4 ≤ n) (L : LI h) (B : Bg i h u v) (hK : ∀ g u9 v9, LI g → Bg (i + 4) g u9 v9 → K 2363 [aX 1000, aX 0, aX 62, aX 77, .inl i] g u9 v9) : aw true 2 601024 7293034 100 (sp clW) [] RtW XW (some n) SX [] cutW K 400 code_LK37 2280 (lmk 0 7 [0, 1, 2, 3, 4] [aX 1000, aX 0, aX 62, aX 77, .inl i]) [] h u v := by
  have r1 : Rng (i + 1) := ⟨by omega, by omega⟩
  have q1 : inR (i + 1) n := ⟨by omega, by omega⟩
  have b := B.bd i0 i4 hn
  refine And.intro r1 ?_
  refine And.intro q1 ?_
  refine dcI (cs := s_X9_character) (by rfl) (mc := 0) (ms := 0) (ht := 2) (by rfl) ⟨rfl, by omega, by omega, rfl⟩ (c_character L (SX (i + 1))) ?_
  rintro k g1 q n1
  refine And.intro r1 ?_
  refine And.intro q1 ?_
  refine dcF (cs := s_X10_character) (by rfl) (ht := 2) (by rfl) ⟨rfl, by omega, by omega, rfl⟩ q ?_
  rintro g2 L2 n2
  refine And.intro (fun _ => ?_) (fun e9 => absurd rfl e9)
  exact hK _ _ _ L2 (B.st (Nat.le_trans n1 n2) L2 (by omega) (by omega))
set_option maxRecDepth 100000 in
set_option maxHeartbeats 1000000 in
theorem w_undo {n : Int} {SX : Int → Int} {K : AKK} {i : Int} {h : Hp} {u v : Nat} (hn : n ≤ 2048) (i0 : 0 ≤ i) (i4 : i + 4 ≤ n) (L : LI h) (B : Bg i h u v) (hK : ∀ g u9 v9, LI g → Bg (i + 4) g u9 v9 → K 2363 [aX 1000, aX 0, aX 62, aX 77, .inl i] g u9 v9) : aw true 2 601024 7293034 100 (sp clW) [] RtW XW (some n) SX [] cutW K 400 code_LK38 2305 (lmk 0 7 [0, 1, 2, 3, 4] [aX 1000, aX 0, aX 62, aX 77, .inl i]) [] h u v := by
  have b := B.bd i0 i4 hn
  refine dcI (cs := s_L_undo) (by rfl) (mc := 1) (ms := 6) (ht := 4) (by rfl) ⟨rfl, by omega, by omega, rfl⟩ (c_undo L) ?_
  rintro k g1 q n1
  refine dcE (cs := s_X10_undo) (by rfl) (ht := 2) (by rfl) ⟨rfl, by omega, by omega, rfl⟩ q ?_
  rintro y g2 L2 e1 e2 n2
  refine dcT (by rfl) (by rfl) ⟨rfl, by omega, by omega, rfl⟩ ?_
  refine And.intro (fun _ => ?_) (fun e9 => absurd e1 e9)
  refine And.intro (fun _ => ?_) (fun e3 => ?_)
  · skip
    exact hK _ _ _ L2 (B.st (Nat.le_trans n1 n2) L2 (by omega) (by omega))
  · skip
    refine And.intro ⟨by decide, by decide⟩ ?_
    refine And.intro (fun _ => ?_) (fun e9 => absurd (cmpL_z (e2 e3)) e9)
    exact hK _ _ _ L2 (B.st (Nat.le_trans n1 n2) L2 (by omega) (by omega))
set_option maxRecDepth 100000 in
set_option maxHeartbeats 1000000 in
theorem w_digest {n : Int} {SX : Int → Int} {K : AKK} {i : Int} {h : Hp} {u v : Nat} (hn : n ≤ 2048) (i0 : 0 ≤ i) (i4 : i + 4 ≤ n) (L : LI h) (B : Bg i h u v) (hK : ∀ g u9 v9, LI g → Bg (i + 4) g u9 v9 → K 2363 [aX 1000, aX 0, aX 62, aX 77, .inl i] g u9 v9) : aw true 2 601024 7293034 100 (sp clW) [] RtW XW (some n) SX [] cutW K 400 code_LK39 2349 (lmk 0 7 [0, 1, 2, 3, 4] [aX 1000, aX 0, aX 62, aX 77, .inl i]) [] h u v := by
  have b := B.bd i0 i4 hn
  refine dcIl (cs := s_X9_digest) (by rfl) (mc := 0) (ms := 0) (ht := 7) (by rfl) ⟨rfl, by omega, by omega, rfl⟩ (c_digest L) ?_
  rintro k g1 q n1
  refine dcG (cs := s_X10_digest) (by rfl) (ht := 8) (by rfl) ⟨rfl, by omega, by omega, rfl⟩ q ?_
  rintro g2 L2 n2
  refine And.intro (fun _ => ?_) (fun e9 => absurd (cmpL_z rfl) e9)
  exact hK _ _ _ L2 (B.st (Nat.le_trans n1 n2) L2 (by omega) (by omega))

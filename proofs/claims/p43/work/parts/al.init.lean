/-! ===== what is made at the start ===== -/
/-- a new array into a field -/
def mkA (h : Hp) (a : Nat) (k : Int) : Hp := rR (hnew h) a (up (hR (hnew h) a) k (some (hN h)))
def pl (h : Hp) (a : Nat) (k : Int) (b : Nat) : Hp := rR h a (up (hR h a) k (some b))
def MM0 (n : Nat) (cs : CS) : Prop := ∀ {l : Launch} {D : va_G} {ca : Nat → ClassId} {lb sa sv : Nat}, l.stackTraces = false → MetS l D ca lb sa sv (tMR n) false cs
def allM0 : List (Nat × CS) → Prop
  | [] => True
  | q :: l => MM0 q.1 q.2 ∧ allM0 l
theorem allM0_mem {cl : List (Nat × CS)} {q : Nat × CS} (h : allM0 cl) (hm : q ∈ cl) : MM0 q.1 q.2 := by
  induction cl with
  | nil => cases hm
  | cons a cl ih =>
    rcases List.mem_cons.mp hm with rfl | hm
    · exact h.1
    · exact ih h.2 hm
theorem sp_met0 {cl : List (Nat × CS)} (hM : allM0 cl) {l : Launch} {D : va_G} {ca : Nat → ClassId} {lb sa sv : Nat} (hl : l.stackTraces = false) (k : Nat) : MetS l D ca lb sa sv (tMR k) false (sp cl k) := by
  unfold sp
  split
  · rename_i cs1 h1
    exact allM0_mem hM (look_mem h1) hl
  · intro ad sz as h Rt X _ _ _ _ hx
    exact hx.elim
theorem sp_met {cl : List (Nat × CS)} (hM : allMM cl) {l : Launch} {D : va_G} {ca : Nat → ClassId} {lb sa sv : Nat} (hl : l.stackTraces = false) (k : Nat) : MetS l D ca lb sa sv (tMR k) true (sp cl k) := by
  unfold sp
  split
  · rename_i cs1 h1
    exact allMM_mem hM (look_mem h1) hl
  · intro ad sz as h Rt X _ _ _ _ hx
    exact hx.elim
theorem m0_of {n own rk nL : Nat} {code : List (Nat × Row)} (hn : knows n = true) (hc : methB n own rk nL true code [] [] = true) {cl : List (Nat × CS)} (hM : allM0 cl) {cs : CS} (H : Obl false rk nL (sp cl) [] code cs) : MM0 n cs := by
  intro l D ca lb sa sv hl
  exact met_of hl mrB_all hn hc (S := sp cl) (fun k hk => sp_met0 hM hl k) H
theorem obl00 {sh : List (Nat × Nat)} {f : Fn sh} {rk nL mc ms HT : Nat} {S : Nat → CS} {code : List (Nat × Row)} (hcat : (Nat.ble (catSh sh) nL && Nat.blt 0 HT) = true)
    (H : AllA sh f (fun as g => ∀ (h : Hp) (Rt : Option AV → Hp → Prop) (X : Nat → Hp → Prop), g h Rt X → aw false rk mc ms HT S [] Rt X none (fun _ => 0) code [] (fun _ _ _ _ _ => False) 4000 code 0 (lpad (lent as) nL) [] h 0 0)) : Obl false rk nL S [] code (xc mc ms HT, ap sh f) := by
  intro as h Rt X hv hh hf ha
  obtain ⟨e, g, h1, h2⟩ := allA_el H hv ha
  rw [e]
  refine ⟨hcat, [], fun _ _ _ _ _ _ => False, 4000, ?_, fun k pc live vs h1 u v hl => by cases hl⟩
  have := h1 h Rt X h2
  have e9 : (fun (pc : Nat) (vs : List AV) (h : Hp) (u v : Nat) => ∃ k : Nat, (fun (_ : Nat) (_ : Nat) (_ : List AV) (_ : Hp) (_ _ : Nat) => False) k pc vs h u v) = (fun _ _ _ _ _ => False) := by
    funext a b c d e
    exact propext ⟨fun ⟨_, q⟩ => q, fun q => q.elim⟩
  show aw false rk mc ms HT S [] Rt X none (fun _ => 0) code [] (fun pc vs h u v => ∃ k : Nat, (fun (_ : Nat) (_ : Nat) (_ : List AV) (_ : Hp) (_ _ : Nat) => False) k pc vs h u v) 4000 code 0 (lpad (lent as) nL) [] h 0 0
  rw [e9]
  exact this
/-- all ints are zero -/
def Zr (h : Hp) : Prop := ∀ a, hI h a = fun _ => 0
theorem Zr.hnew {h : Hp} (z : Zr h) : Zr (CWordSolverLaw_law_r6868_1636c8.hnew h) := fun a => by
  show (if a = h.1 then (fun _ => (0 : Int)) else hI h a) = _
  rw [z a]
  split <;> rfl
theorem Zr.pl {h : Hp} (z : Zr h) (a : Nat) (k : Int) (b : Nat) : Zr (CWordSolverLaw_law_r6868_1636c8.pl h a k b) := fun c => z c
theorem Zr.mkA {h : Hp} (z : Zr h) (a : Nat) (k : Int) : Zr (CWordSolverLaw_law_r6868_1636c8.mkA h a k) := fun c => z.hnew c
def I0 (h : Hp) : Hp := mkA (mkA (mkA (h) 1 0) 1 1) 1 2
theorem Zr.I0 {h : Hp} (z : Zr h) : Zr (CWordSolverLaw_law_r6868_1636c8.I0 h) := (((z.mkA _ _).mkA _ _).mkA _ _)
def s_X0_init : CS := (xc 3 336 1, ap [(3, 1)] (fun h Rt X => hN h = 2 ∧ Rt none (I0 h)))
set_option maxRecDepth 100000 in
set_option maxHeartbeats 4000000 in
theorem o_X0_init : Obl false 0 1 (sp []) [] code_X0_init s_X0_init := by
  refine obl00 (by rfl) ?_
  intro h Rt X hs
  obtain ⟨n9, C⟩ := hs
  obtain ⟨n, q⟩ := h
  obtain rfl : n = 2 := n9
  repeat' (first | apply And.intro | (intro h9; first | (exfalso; omega) | skip) | exact C | rfl | omega | (first | exact Or.inl rfl | exact Or.inr (Or.inl rfl) | exact Or.inr (Or.inr (Or.inl rfl)) | exact Or.inr (Or.inr (Or.inr (Or.inl rfl))) | exact Or.inr (Or.inr (Or.inr (Or.inr (Or.inl rfl)))) | exact Or.inr (Or.inr (Or.inr (Or.inr (Or.inr rfl))))) | decide)
theorem m_X0_init : MM0 0 s_X0_init := m0_of (own := 0) (by rfl) k_X0_init (cl := []) trivial o_X0_init
def I6 (a : Nat) (h : Hp) : Hp := mkA (mkA (mkA (mkA (mkA (h) a 3) a 4) a 6) a 7) a 8
theorem Zr.I6 {h : Hp} (z : Zr h) (a : Nat) : Zr (CWordSolverLaw_law_r6868_1636c8.I6 a h) := (((((z.mkA _ _).mkA _ _).mkA _ _).mkA _ _).mkA _ _)
def s_X6_init : CS := (xc 5 60 1, ap [(2, 0)] (fun a h Rt X => (a = 5 ∨ a = 13 ∨ a = 19 ∨ a = 25 ∨ a = 31 ∨ a = 37) ∧ hN h = a + 1 ∧ Rt none (I6 a h)))
set_option maxRecDepth 100000 in
set_option maxHeartbeats 4000000 in
theorem o_X6_init : Obl false 0 1 (sp []) [] code_X6_init s_X6_init := by
  refine obl00 (by rfl) ?_
  intro a h Rt X hs
  obtain ⟨h8, n9, C⟩ := hs
  obtain ⟨n, q⟩ := h
  rcases h8 with rfl | rfl | rfl | rfl | rfl | rfl
  · obtain rfl : n = 6 := n9
    repeat' (first | apply And.intro | (intro h9; first | (exfalso; omega) | skip) | exact C | rfl | omega | (first | exact Or.inl rfl | exact Or.inr (Or.inl rfl) | exact Or.inr (Or.inr (Or.inl rfl)) | exact Or.inr (Or.inr (Or.inr (Or.inl rfl))) | exact Or.inr (Or.inr (Or.inr (Or.inr (Or.inl rfl)))) | exact Or.inr (Or.inr (Or.inr (Or.inr (Or.inr rfl))))) | decide)
  · obtain rfl : n = 14 := n9
    repeat' (first | apply And.intro | (intro h9; first | (exfalso; omega) | skip) | exact C | rfl | omega | (first | exact Or.inl rfl | exact Or.inr (Or.inl rfl) | exact Or.inr (Or.inr (Or.inl rfl)) | exact Or.inr (Or.inr (Or.inr (Or.inl rfl))) | exact Or.inr (Or.inr (Or.inr (Or.inr (Or.inl rfl)))) | exact Or.inr (Or.inr (Or.inr (Or.inr (Or.inr rfl))))) | decide)
  · obtain rfl : n = 20 := n9
    repeat' (first | apply And.intro | (intro h9; first | (exfalso; omega) | skip) | exact C | rfl | omega | (first | exact Or.inl rfl | exact Or.inr (Or.inl rfl) | exact Or.inr (Or.inr (Or.inl rfl)) | exact Or.inr (Or.inr (Or.inr (Or.inl rfl))) | exact Or.inr (Or.inr (Or.inr (Or.inr (Or.inl rfl)))) | exact Or.inr (Or.inr (Or.inr (Or.inr (Or.inr rfl))))) | decide)
  · obtain rfl : n = 26 := n9
    repeat' (first | apply And.intro | (intro h9; first | (exfalso; omega) | skip) | exact C | rfl | omega | (first | exact Or.inl rfl | exact Or.inr (Or.inl rfl) | exact Or.inr (Or.inr (Or.inl rfl)) | exact Or.inr (Or.inr (Or.inr (Or.inl rfl))) | exact Or.inr (Or.inr (Or.inr (Or.inr (Or.inl rfl)))) | exact Or.inr (Or.inr (Or.inr (Or.inr (Or.inr rfl))))) | decide)
  · obtain rfl : n = 32 := n9
    repeat' (first | apply And.intro | (intro h9; first | (exfalso; omega) | skip) | exact C | rfl | omega | (first | exact Or.inl rfl | exact Or.inr (Or.inl rfl) | exact Or.inr (Or.inr (Or.inl rfl)) | exact Or.inr (Or.inr (Or.inr (Or.inl rfl))) | exact Or.inr (Or.inr (Or.inr (Or.inr (Or.inl rfl)))) | exact Or.inr (Or.inr (Or.inr (Or.inr (Or.inr rfl))))) | decide)
  · obtain rfl : n = 38 := n9
    repeat' (first | apply And.intro | (intro h9; first | (exfalso; omega) | skip) | exact C | rfl | omega | (first | exact Or.inl rfl | exact Or.inr (Or.inl rfl) | exact Or.inr (Or.inr (Or.inl rfl)) | exact Or.inr (Or.inr (Or.inr (Or.inl rfl))) | exact Or.inr (Or.inr (Or.inr (Or.inr (Or.inl rfl)))) | exact Or.inr (Or.inr (Or.inr (Or.inr (Or.inr rfl))))) | decide)
theorem m_X6_init : MM0 118 s_X6_init := m0_of (own := 5) (by rfl) k_X6_init (cl := []) trivial o_X6_init
def I1 (h : Hp) : Hp := pl (I6 37 (hnew (pl (I6 31 (hnew (pl (I6 25 (hnew (pl (I6 19 (hnew (pl (I6 13 (hnew (mkA (h) 11 0))) 12 0 13))) 12 1 19))) 12 2 25))) 12 3 31))) 12 4 37
theorem Zr.I1 {h : Hp} (z : Zr h) : Zr (CWordSolverLaw_law_r6868_1636c8.I1 h) := (((((((((((z.mkA _ _).hnew.I6 _).pl _ _ _).hnew.I6 _).pl _ _ _).hnew.I6 _).pl _ _ _).hnew.I6 _).pl _ _ _).hnew.I6 _).pl _ _ _)
def s_X1_init : CS := (xc 31 350 2, ap [(3, 11)] (fun h Rt X => hN h = 12 ∧ Rt none (I1 h)))
set_option maxRecDepth 100000 in
set_option maxHeartbeats 4000000 in
theorem o_X1_init : Obl false 0 2 (sp [(118, s_X6_init)]) [] code_X1_init s_X1_init := by
  refine obl00 (by rfl) ?_
  intro h Rt X hs
  obtain ⟨n9, C⟩ := hs
  obtain ⟨n, q⟩ := h
  obtain rfl : n = 12 := n9
  repeat' (first | apply And.intro | (intro h9; first | (exfalso; omega) | skip) | exact C | rfl | omega | (first | exact Or.inl rfl | exact Or.inr (Or.inl rfl) | exact Or.inr (Or.inr (Or.inl rfl)) | exact Or.inr (Or.inr (Or.inr (Or.inl rfl))) | exact Or.inr (Or.inr (Or.inr (Or.inr (Or.inl rfl)))) | exact Or.inr (Or.inr (Or.inr (Or.inr (Or.inr rfl))))) | decide)
theorem m_X1_init : MM0 33 s_X1_init := m0_of (own := 1) (by rfl) k_X1_init (cl := [(118, s_X6_init)]) ⟨m_X6_init, trivial⟩ o_X1_init
def I3 (h : Hp) : Hp := pl (mkA (mkA (h) 43 1) 43 2) 43 0 1
theorem Zr.I3 {h : Hp} (z : Zr h) : Zr (CWordSolverLaw_law_r6868_1636c8.I3 h) := (((z.mkA _ _).mkA _ _).pl _ _ _)
def s_X3_init : CS := (xc 2 336 1, ap [(3, 43), (3, 1)] (fun h Rt X => hN h = 44 ∧ Rt none (I3 h)))
set_option maxRecDepth 100000 in
set_option maxHeartbeats 4000000 in
theorem o_X3_init : Obl false 0 2 (sp []) [] code_X3_init s_X3_init := by
  refine obl00 (by rfl) ?_
  intro h Rt X hs
  obtain ⟨n9, C⟩ := hs
  obtain ⟨n, q⟩ := h
  obtain rfl : n = 44 := n9
  repeat' (first | apply And.intro | (intro h9; first | (exfalso; omega) | skip) | exact C | rfl | omega | (first | exact Or.inl rfl | exact Or.inr (Or.inl rfl) | exact Or.inr (Or.inr (Or.inl rfl)) | exact Or.inr (Or.inr (Or.inr (Or.inl rfl))) | exact Or.inr (Or.inr (Or.inr (Or.inr (Or.inl rfl)))) | exact Or.inr (Or.inr (Or.inr (Or.inr (Or.inr rfl))))) | decide)
theorem m_X3_init : MM0 44 s_X3_init := m0_of (own := 2) (by rfl) k_X3_init (cl := []) trivial o_X3_init
def I5 (h : Hp) : Hp := pl (pl (pl (mkA (mkA (h) 46 3) 46 8) 46 0 1) 46 1 5) 46 2 43
theorem Zr.I5 {h : Hp} (z : Zr h) : Zr (CWordSolverLaw_law_r6868_1636c8.I5 h) := (((((z.mkA _ _).mkA _ _).pl _ _ _).pl _ _ _).pl _ _ _)
def s_X5_init : CS := (xc 2 1280 1, ap [(3, 46), (3, 1), (3, 5), (3, 43)] (fun h Rt X => hN h = 47 ∧ Rt none (I5 h)))
set_option maxRecDepth 100000 in
set_option maxHeartbeats 4000000 in
theorem o_X5_init : Obl false 0 4 (sp []) [] code_X5_init s_X5_init := by
  refine obl00 (by rfl) ?_
  intro h Rt X hs
  obtain ⟨n9, C⟩ := hs
  obtain ⟨n, q⟩ := h
  obtain rfl : n = 47 := n9
  repeat' (first | apply And.intro | (intro h9; first | (exfalso; omega) | skip) | exact C | rfl | omega | (first | exact Or.inl rfl | exact Or.inr (Or.inl rfl) | exact Or.inr (Or.inr (Or.inl rfl)) | exact Or.inr (Or.inr (Or.inr (Or.inl rfl))) | exact Or.inr (Or.inr (Or.inr (Or.inr (Or.inl rfl)))) | exact Or.inr (Or.inr (Or.inr (Or.inr (Or.inr rfl))))) | decide)
theorem m_X5_init : MM0 95 s_X5_init := m0_of (own := 4) (by rfl) k_X5_init (cl := []) trivial o_X5_init
def I7 (h : Hp) : Hp := mkA (h) 49 0
theorem Zr.I7 {h : Hp} (z : Zr h) : Zr (CWordSolverLaw_law_r6868_1636c8.I7 h) := (z.mkA _ _)
def s_X7_init : CS := (xc 1 120 1, ap [(3, 49)] (fun h Rt X => hN h = 50 ∧ Rt none (I7 h)))
set_option maxRecDepth 100000 in
set_option maxHeartbeats 4000000 in
theorem o_X7_init : Obl false 0 1 (sp []) [] code_X7_init s_X7_init := by
  refine obl00 (by rfl) ?_
  intro h Rt X hs
  obtain ⟨n9, C⟩ := hs
  obtain ⟨n, q⟩ := h
  obtain rfl : n = 50 := n9
  repeat' (first | apply And.intro | (intro h9; first | (exfalso; omega) | skip) | exact C | rfl | omega | (first | exact Or.inl rfl | exact Or.inr (Or.inl rfl) | exact Or.inr (Or.inr (Or.inl rfl)) | exact Or.inr (Or.inr (Or.inr (Or.inl rfl))) | exact Or.inr (Or.inr (Or.inr (Or.inr (Or.inl rfl)))) | exact Or.inr (Or.inr (Or.inr (Or.inr (Or.inr rfl))))) | decide)
theorem m_X7_init : MM0 123 s_X7_init := m0_of (own := 6) (by rfl) k_X7_init (cl := []) trivial o_X7_init
def I4 (h : Hp) : Hp := pl (mkA (mkA (mkA (mkA (mkA (mkA (mkA (mkA (h) 51 3) 51 4) 51 5) 51 7) 51 8) 51 9) 51 10) 51 12) 51 0 49
theorem Zr.I4 {h : Hp} (z : Zr h) : Zr (CWordSolverLaw_law_r6868_1636c8.I4 h) := (((((((((z.mkA _ _).mkA _ _).mkA _ _).mkA _ _).mkA _ _).mkA _ _).mkA _ _).mkA _ _).pl _ _ _)
def s_X4_init : CS := (xc 8 960 1, ap [(3, 51), (3, 49)] (fun h Rt X => hN h = 52 ∧ Rt none (I4 h)))
set_option maxRecDepth 100000 in
set_option maxHeartbeats 4000000 in
theorem o_X4_init : Obl false 0 2 (sp []) [] code_X4_init s_X4_init := by
  refine obl00 (by rfl) ?_
  intro h Rt X hs
  obtain ⟨n9, C⟩ := hs
  obtain ⟨n, q⟩ := h
  obtain rfl : n = 52 := n9
  repeat' (first | apply And.intro | (intro h9; first | (exfalso; omega) | skip) | exact C | rfl | omega | (first | exact Or.inl rfl | exact Or.inr (Or.inl rfl) | exact Or.inr (Or.inr (Or.inl rfl)) | exact Or.inr (Or.inr (Or.inr (Or.inl rfl))) | exact Or.inr (Or.inr (Or.inr (Or.inr (Or.inl rfl)))) | exact Or.inr (Or.inr (Or.inr (Or.inr (Or.inr rfl))))) | decide)
theorem m_X4_init : MM0 78 s_X4_init := m0_of (own := 3) (by rfl) k_X4_init (cl := []) trivial o_X4_init
def I8 (h : Hp) : Hp := pl (pl (mkA (h) 60 2) 60 0 1) 60 1 49
theorem Zr.I8 {h : Hp} (z : Zr h) : Zr (CWordSolverLaw_law_r6868_1636c8.I8 h) := (((z.mkA _ _).pl _ _ _).pl _ _ _)
def s_X8_init : CS := (xc 1 40 1, ap [(3, 60), (3, 1), (3, 49)] (fun h Rt X => hN h = 61 ∧ Rt none (I8 h)))
set_option maxRecDepth 100000 in
set_option maxHeartbeats 4000000 in
theorem o_X8_init : Obl false 0 3 (sp []) [] code_X8_init s_X8_init := by
  refine obl00 (by rfl) ?_
  intro h Rt X hs
  obtain ⟨n9, C⟩ := hs
  obtain ⟨n, q⟩ := h
  obtain rfl : n = 61 := n9
  repeat' (first | apply And.intro | (intro h9; first | (exfalso; omega) | skip) | exact C | rfl | omega | (first | exact Or.inl rfl | exact Or.inr (Or.inl rfl) | exact Or.inr (Or.inr (Or.inl rfl)) | exact Or.inr (Or.inr (Or.inr (Or.inl rfl))) | exact Or.inr (Or.inr (Or.inr (Or.inr (Or.inl rfl)))) | exact Or.inr (Or.inr (Or.inr (Or.inr (Or.inr rfl))))) | decide)
theorem m_X8_init : MM0 128 s_X8_init := m0_of (own := 7) (by rfl) k_X8_init (cl := []) trivial o_X8_init
def I9 (h : Hp) : Hp := pl (I8 (hnew (pl (I4 (hnew (pl (I7 (hnew (pl (I5 (hnew (pl (I3 (hnew (pl (I1 (hnew (pl (I6 5 (hnew (pl (I0 (hnew (h))) 0 0 1))) 0 1 5))) 0 2 11))) 0 3 43))) 0 4 46))) 0 5 49))) 0 6 51))) 0 7 60
theorem Zr.I9 {h : Hp} (z : Zr h) : Zr (CWordSolverLaw_law_r6868_1636c8.I9 h) := (((((((((z.hnew.I0.pl _ _ _).hnew.I6 _).pl _ _ _).hnew.I1.pl _ _ _).hnew.I3.pl _ _ _).hnew.I5.pl _ _ _).hnew.I7.pl _ _ _).hnew.I4.pl _ _ _).hnew.I8.pl _ _ _)
def s_X9_init : CS := (xc 61 3529 4, ap [(3, 0)] (fun h Rt X => hN h = 1 ∧ Rt none (I9 h)))
set_option maxRecDepth 100000 in
set_option maxHeartbeats 4000000 in
theorem o_X9_init : Obl false 0 1 (sp [(0, s_X0_init), (118, s_X6_init), (33, s_X1_init), (44, s_X3_init), (95, s_X5_init), (123, s_X7_init), (78, s_X4_init), (128, s_X8_init)]) [] code_X9_init s_X9_init := by
  refine obl00 (by rfl) ?_
  intro h Rt X hs
  obtain ⟨n9, C⟩ := hs
  obtain ⟨n, q⟩ := h
  obtain rfl : n = 1 := n9
  repeat' (first | apply And.intro | (intro h9; first | (exfalso; omega) | skip) | exact C | rfl | omega | (first | exact Or.inl rfl | exact Or.inr (Or.inl rfl) | exact Or.inr (Or.inr (Or.inl rfl)) | exact Or.inr (Or.inr (Or.inr (Or.inl rfl))) | exact Or.inr (Or.inr (Or.inr (Or.inr (Or.inl rfl)))) | exact Or.inr (Or.inr (Or.inr (Or.inr (Or.inr rfl))))) | decide)
theorem m_X9_init : MM0 135 s_X9_init := m0_of (own := 8) (by rfl) k_X9_init (cl := [(0, s_X0_init), (118, s_X6_init), (33, s_X1_init), (44, s_X3_init), (95, s_X5_init), (123, s_X7_init), (78, s_X4_init), (128, s_X8_init)]) ⟨m_X0_init, m_X6_init, m_X1_init, m_X3_init, m_X5_init, m_X7_init, m_X4_init, m_X8_init, trivial⟩ o_X9_init
def clI : List (Nat × CS) := [(135, s_X9_init)]
theorem m0_clI : allM0 clI := ⟨m_X9_init, trivial⟩
/-- the heap as the constructor ends -/
def hZ : Hp := (0, (fun _ _ => 0, (fun _ _ => 0, fun _ _ => none)))
def hS : Hp := I9 (hnew hZ)
set_option maxRecDepth 100000 in
set_option maxHeartbeats 4000000 in
theorem w_start {n : Int} {SX : Int → Int} {K : AKK} (C : K 8 [aX 1000, aX 0] hS 62 3537) : aw false 2 600130 7301080 100 (sp clI) [] RtW XW (some n) SX [] cutL K 400 code_LA 0 (lpad (lent [aX 1000]) 10) [] hZ 0 0 := by
  repeat' (first | apply And.intro | (intro h9; first | (exfalso; omega) | skip) | exact C | rfl | omega | (first | exact Or.inl rfl | exact Or.inr (Or.inl rfl) | exact Or.inr (Or.inr (Or.inl rfl)) | exact Or.inr (Or.inr (Or.inr (Or.inl rfl))) | exact Or.inr (Or.inr (Or.inr (Or.inr (Or.inl rfl)))) | exact Or.inr (Or.inr (Or.inr (Or.inr (Or.inr rfl))))) | decide)

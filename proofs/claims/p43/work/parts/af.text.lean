/-! ===== what is written is read ===== -/
theorem dcV {MC MS HT : Nat} {S : Nat → CS} {hd : List (Nat × (Nat × (Nat × Nat)))} {X : Nat → Hp → Prop} {k : AK} {pc nx : Nat} {ls : LSt} {h : Hp} {c s n : Nat} {as rest : List AV} {cs : CS} {mc ms ht : Nat} {x : Int} {Q : Hp → Prop} (hS : S n = wk cs) (e : cs.1 as h = (mc, (ms, ht))) (hb : (Nat.ble (catS rest) 8 && (Nat.ble (c + mc) MC && (Nat.ble (s + ms) MS && Nat.blt ht HT))) = true) (h0 : cs.2 as h (fun r g => r = some (.inl x) ∧ Q g) NoX)
    (h1 : ∀ g, Q g → k nx ls (.inl x :: rest) g (c + mc) (s + ms)) : doC MC MS HT S hd X k pc nx ls h c s n as rest :=
  dcR hS e hb h0 fun r g q _ => by
    obtain ⟨rfl, q1⟩ := q
    exact h1 g q1
theorem q_writeF {h : Hp} {w ps : Int → Int} {s : Int} (hC : CI h w ps s) {n : Int} (n0 : 0 ≤ n) (n1 : n < w 0) (z : 120 < (dsc w n).length) : s_L_write.2 [aX 0, .inl n] h (Rq 2 h w ps s) NoX := e3 w ps s ⟨hC, fun y => absurd ⟨n0, n1⟩ y, fun _ _ => Rq.go, fun _ y => absurd y (Nat.not_le.mpr z)⟩
theorem q_writeT {h : Hp} {w ps : Int → Int} {s : Int} (hC : CI h w ps s) {n : Int} (n0 : 0 ≤ n) (n1 : n < w 0) (z : ¬ 120 < (dsc w n).length) : s_L_write.2 [aX 0, .inl n] h (fun r g => r = some (.inl 0) ∧ (CI g w ps s ∧ Ou h g ∧ TxL (hI g) (dsc w n))) NoX := e3 w ps s ⟨hC, fun y => absurd ⟨n0, n1⟩ y, fun _ y => absurd y z, fun _ _ _ a b c => ⟨rfl, a, b, c⟩⟩
theorem q_syn {h : Hp} {w ps : Int → Int} {s : Int} (hC : CI h w ps s) : s_X9_syntaxError.2 [aX 0] h (Rq (rdA (fin (stR (hI h)))) h w ps s) NoX := e3 w ps s ⟨hC, Rq.go⟩
theorem q_read {h : Hp} {w ps : Int → Int} {s : Int} (hC : CI h w ps s) {n : Int} (e : rdA (fin (stR (hI h))) = -1) (b : Bk w (fin (stR (hI h)))) (k : stk w (fin (stR (hI h))) 0 = n) : s_X9_read.2 [aX 0] h (Rq n h w (svPp ps s w) (svS s)) NoX := e3 w ps s ⟨hC, fun y => absurd e y, fun _ y => absurd b.2 y, fun _ _ => by
  have b1 := b.1
  unfold stk at k
  rw [b1, k]
  exact Rq.go⟩
theorem q_clear {h : Hp} {w ps : Int → Int} {s : Int} (hC : CI h w ps s) : s_X9_clearText.2 [aX 0] h (fun r g => r = some (.inl (hI h 49 1)) ∧ (CI g w ps s ∧ Ou h g ∧ hI g 49 1 = 0)) NoX := by
  have e : ∀ a, a ≠ 49 → hI (rI h 49 (up (hI h 49) 1 0)) a = hI h a := fun a z => by rw [hI_rI', if_neg z]
  have e49 : hI (rI h 49 (up (hI h 49) 1 0)) 49 1 = 0 := rfl
  refine ⟨rfl, hC.tn (fun a a0 a1 => e a (by omega)) rfl rfl ?_ ?_, Box.i fun a a0 a1 => ⟨e a (by omega), rfl, rfl⟩, e49⟩
  · unfold TL
    rw [e49]
    decide
  · exact Box.i fun k k0 k1 => by omega
theorem q_char {h : Hp} {w ps : Int → Int} {s : Int} (hC : CI h w ps s) (k : Int) (e : hI h 49 1 = 0) : s_X9_character.2 [aX 0, .inl k] h (fun r g => r = some (.inl (-1)) ∧ g = h) NoX := e3 w ps s ⟨hC, by
  have : tA (hI h) k = -1 := if_neg (by omega)
  rw [this]
  exact ⟨rfl, rfl⟩⟩
theorem TxL.k {g k : Hp} {L : List Int} (t : TxL (hI g) L) (q : Kp g k) : TxL (hI k) L := by
  have a := t.o
  have b := q.o
  exact Box.i (by rw [b.2.1, b.2.2]; exact a)
def s_L_isText : CS := (xc 4 24 94, ap [(3, 0), (0, 0)] (fun n h Rt X =>
∃ w ps s, CI h w ps s ∧ (0 ≤ n ∧ n < w 0 ∧ Uq w) ∧ ∀ g ps s, CI g w ps s → Ou h g → Rt (some (.inl 1)) g))
def cl_L_isText : List (Nat × CS) := [(329, wk s_L_write), (145, wk s_X9_info), (143, wk s_X9_nodes), (170, wk s_X9_syntaxError), (171, wk s_X9_read), (169, wk s_X9_clearText), (173, wk s_X9_character)]
theorem mc_L_isText : allMM cl_L_isText := ⟨mm_wk m_L_write, mm_wk m_X9_info, mm_wk m_X9_nodes, mm_wk m_X9_syntaxError, mm_wk m_X9_read, mm_wk m_X9_clearText, mm_wk m_X9_character, trivial⟩
set_option maxRecDepth 100000 in
set_option maxHeartbeats 4000000 in
theorem o_L_isText : Obl true 2 3 (sp cl_L_isText) [] code_L_isText s_L_isText := by
  refine obl0x (by rfl) ?_
  intro n r_n h Rt X hh hf hs
  obtain ⟨w, ps, s, hC, ⟨n0, n1, hU⟩, K⟩ := hs
  have hW := hC.wf
  by_cases z : 120 < (dsc w n).length
  · show doC 4 24 94 (sp cl_L_isText) [] X (kq 2 4 24 94 (sp cl_L_isText) Rt X code_L_isText 3997 (code_L_isText.drop 3)) 2 5 [some (aX 0), some (.inl n), none] h 0 0 329 [aX 0, .inl n] []
    refine dcQ (cs := s_L_write) (by rfl) (mc := 2) (ms := 12) (ht := 93) (by rfl) (by rfl) (q_writeF hC n0 n1 z) ?_
    intro g c k
    refine And.intro (fun e9 => (by omega : False).elim) (fun _ => ?_)
    show doC 4 24 94 (sp cl_L_isText) [] X (kq 2 4 24 94 (sp cl_L_isText) Rt X code_L_isText 3992 (code_L_isText.drop 8)) 12 15 [some (aX 0), some (.inl n), none] g 2 12 145 [aX 0, .inl n, .inl 8] []
    refine dcH (cs := s_X9_info) (by rfl) (mc := 2) (ms := 12) (ht := 3) (by rfl) (by rfl) (q_parts c n0 n1) ?_
    have b := parts_big hW n0 n1 z
    refine And.intro (fun e9 => (by omega : False).elim) (fun _ => ?_)
    exact ⟨Or.inr rfl, K g ps s c k.o.1⟩
  · show doC 4 24 94 (sp cl_L_isText) [] X (kq 2 4 24 94 (sp cl_L_isText) Rt X code_L_isText 3997 (code_L_isText.drop 3)) 2 5 [some (aX 0), some (.inl n), none] h 0 0 329 [aX 0, .inl n] []
    refine dcV (cs := s_L_write) (by rfl) (mc := 2) (ms := 12) (ht := 93) (by rfl) (by rfl) (q_writeT hC n0 n1 z) ?_
    intro g1 y1
    obtain ⟨c1, o1, t1⟩ := y1
    obtain ⟨r1, r2, r3⟩ := rd_whole hW hU n0 n1 t1
    refine And.intro (fun _ => ?_) (fun e9 => (by omega : False).elim)
    show doC 4 24 94 (sp cl_L_isText) [] X (kq 2 4 24 94 (sp cl_L_isText) Rt X code_L_isText 3994 (code_L_isText.drop 16)) 26 29 [some (aX 0), some (.inl n), none] g1 2 12 143 [aX 0] []
    refine dcH (cs := s_X9_nodes) (by rfl) (mc := 0) (ms := 0) (ht := 2) (by rfl) (by rfl) (q_nodes c1) ?_
    show doC 4 24 94 (sp cl_L_isText) [] X (kq 2 4 24 94 (sp cl_L_isText) Rt X code_L_isText 3991 (code_L_isText.drop 19)) 31 34 [some (aX 0), some (.inl n), some (.inl (w 0))] g1 2 12 170 [aX 0] []
    refine dcQ (cs := s_X9_syntaxError) (by rfl) (mc := 0) (ms := 0) (ht := 13) (by rfl) (by rfl) (q_syn c1) ?_
    intro g2 c2 k2
    refine And.intro (fun e9 => (by omega : False).elim) (fun _ => ?_)
    obtain ⟨r1, r2, r3⟩ := rd_whole hW hU n0 n1 (t1.k k2)
    show doC 4 24 94 (sp cl_L_isText) [] X (kq 2 4 24 94 (sp cl_L_isText) Rt X code_L_isText 3987 (code_L_isText.drop 23)) 39 42 [some (aX 0), some (.inl n), some (.inl (w 0))] g2 2 12 171 [aX 0] []
    refine dcQ (cs := s_X9_read) (by rfl) (mc := 2) (ms := 12) (ht := 13) (by rfl) (by rfl) (q_read c2 r1 r2 r3) ?_
    intro g3 c3 k3
    refine And.intro (fun e9 => (by omega : False).elim) (fun _ => ?_)
    show doC 4 24 94 (sp cl_L_isText) [] X (kq 2 4 24 94 (sp cl_L_isText) Rt X code_L_isText 3983 (code_L_isText.drop 27)) 47 50 [some (aX 0), some (.inl n), some (.inl (w 0))] g3 4 24 143 [aX 0] []
    refine dcH (cs := s_X9_nodes) (by rfl) (mc := 0) (ms := 0) (ht := 2) (by rfl) (by rfl) (q_nodes c3) ?_
    refine And.intro (fun e9 => (by omega : False).elim) (fun _ => ?_)
    show doC 4 24 94 (sp cl_L_isText) [] X (kq 2 4 24 94 (sp cl_L_isText) Rt X code_L_isText 3978 (code_L_isText.drop 32)) 56 59 [some (aX 0), some (.inl n), some (.inl (w 0))] g3 4 24 169 [aX 0] [aX 0]
    refine dcV (cs := s_X9_clearText) (by rfl) (mc := 0) (ms := 0) (ht := 2) (by rfl) (by rfl) (q_clear c3) ?_
    intro g4 y4
    obtain ⟨c4, o4, z4⟩ := y4
    show doC 4 24 94 (sp cl_L_isText) [] X (kq 2 4 24 94 (sp cl_L_isText) Rt X code_L_isText 3977 (code_L_isText.drop 33)) 59 62 [some (aX 0), some (.inl n), some (.inl (w 0))] g4 4 24 173 [aX 0, .inl (hI g3 49 1)] []
    refine dcH (cs := s_X9_character) (by rfl) (mc := 0) (ms := 0) (ht := 2) (by rfl) (by rfl) (q_char c4 _ z4) ?_
    refine And.intro (fun e9 => (by omega : False).elim) (fun _ => ?_)
    show doC 4 24 94 (sp cl_L_isText) [] X (kq 2 4 24 94 (sp cl_L_isText) Rt X code_L_isText 3973 (code_L_isText.drop 37)) 67 70 [some (aX 0), some (.inl n), some (.inl (w 0))] g4 4 24 170 [aX 0] []
    refine dcQ (cs := s_X9_syntaxError) (by rfl) (mc := 0) (ms := 0) (ht := 13) (by rfl) (by rfl) (q_syn c4) ?_
    intro g5 c5 k5
    have r5 := rd_empty (r := hI g4) z4
    refine And.intro (fun e9 => (by omega : False).elim) (fun _ => ?_)
    exact ⟨Or.inr rfl, K g5 (svPp ps s w) (svS s) c5 ((o1.tr (k2.tr k3).o.1).tr (o4.tr k5.o.1))⟩
theorem m_L_isText : MM 345 s_L_isText := mm_of (own := 11) (by rfl) k_L_isText (cl := cl_L_isText) mc_L_isText o_L_isText

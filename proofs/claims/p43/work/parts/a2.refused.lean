/-! ===== what is refused changes nothing ===== -/
def s_L_refused : CS := (xc 57 342 94, ap [(3, 0)] (fun  h Rt X =>
∃ w ps s, CI h w ps s ∧ (0 < w 0 ∧ 2 ≤ nd w 0 1 ∧ w 331 = 0 ∧ 0 < w 281) ∧ Go h w ps s (Rt (some (.inl 1)))))
def cl_L_refused : List (Nat × CS) := [(175, wk s_X9_digest), (302, wk s_L_variable), (303, wk s_L_constant), (304, wk s_L_binary), (306, wk s_L_slice), (308, wk s_L_choice), (312, wk s_L_require), (314, wk s_L_pop), (310, wk s_L_input), (317, wk s_L_extreme), (153, wk s_X9_satisfiable), (320, wk s_L_models), (323, wk s_L_equivalent), (325, wk s_L_wish), (329, wk s_L_write)]
theorem mc_L_refused : allMM cl_L_refused := ⟨mm_wk m_X9_digest, mm_wk m_L_variable, mm_wk m_L_constant, mm_wk m_L_binary, mm_wk m_L_slice, mm_wk m_L_choice, mm_wk m_L_require, mm_wk m_L_pop, mm_wk m_L_input, mm_wk m_L_extreme, mm_wk m_X9_satisfiable, mm_wk m_L_models, mm_wk m_L_equivalent, mm_wk m_L_wish, mm_wk m_L_write, trivial⟩
set_option maxRecDepth 100000 in
set_option maxHeartbeats 4000000 in
theorem o_L_refused : Obl true 2 4 (sp cl_L_refused) [] code_L_refused s_L_refused := by
  refine obl0x (by rfl) ?_
  intro  h Rt X hh hf hs
  obtain ⟨w, ps, s, hC, ⟨z1, z2, z3, z4⟩, K⟩ := hs
  have hW := hC.wf
  have nn := hW.nn
  have vn := hW.vn
  have wd := hW.wd (n := 0) (by decide) z1
  have wv := hW.wv (v := 0) (by decide) z4
  have p8 := p2_le8 wv.2
  have p2' : p2 2 = 4 := rfl
  show doC 57 342 94 (sp cl_L_refused) [] X (kq 2 57 342 94 (sp cl_L_refused) Rt X code_L_refused 3998 (code_L_refused.drop 2)) 1 4 [some (aX 0), none, none, none] h 0 0 175 [aX 0] []
  refine dcJ (cs := s_X9_digest) (by rfl) (mc := 0) (ms := 0) (ht := 7) (by rfl) (by rfl) (q_digest hC) ?_
  intro g1 c1 k1
  show doC 57 342 94 (sp cl_L_refused) [] X (kq 2 57 342 94 (sp cl_L_refused) Rt X code_L_refused 3994 (code_L_refused.drop 6)) 7 10 [some (aX 0), some (.inr (.inl (dgT w (hI h 49 1) s))), none, none] g1 0 0 302 [aX 0, .inl 0] []
  refine dcH (cs := s_L_variable) (by rfl) (mc := 2) (ms := 12) (ht := 5) (by rfl) (by rfl) (e3 w ps s ⟨c1, by omega, rfl, rfl⟩) ?_
  refine And.intro (fun e9 => (by omega : False).elim) (fun _ => ?_)
  show doC 57 342 94 (sp cl_L_refused) [] X (kq 2 57 342 94 (sp cl_L_refused) Rt X code_L_refused 3989 (code_L_refused.drop 11)) 17 20 [some (aX 0), some (.inr (.inl (dgT w (hI h 49 1) s))), none, none] g1 2 12 302 [aX 0, .inl 9] []
  refine dcH (cs := s_L_variable) (by rfl) (mc := 2) (ms := 12) (ht := 5) (by rfl) (by rfl) (e3 w ps s ⟨c1, by omega, rfl, rfl⟩) ?_
  refine And.intro (fun e9 => (by omega : False).elim) (fun _ => ?_)
  show doC 57 342 94 (sp cl_L_refused) [] X (kq 2 57 342 94 (sp cl_L_refused) Rt X code_L_refused 3983 (code_L_refused.drop 17)) 28 31 [some (aX 0), some (.inr (.inl (dgT w (hI h 49 1) s))), none, none] g1 4 24 303 [aX 0, .inl 9, .inl 0] []
  refine dcH (cs := s_L_constant) (by rfl) (mc := 2) (ms := 12) (ht := 5) (by rfl) (by rfl) (e3 w ps s ⟨c1, by omega, rfl, rfl⟩) ?_
  refine And.intro (fun e9 => (by omega : False).elim) (fun _ => ?_)
  show doC 57 342 94 (sp cl_L_refused) [] X (kq 2 57 342 94 (sp cl_L_refused) Rt X code_L_refused 3977 (code_L_refused.drop 23)) 38 41 [some (aX 0), some (.inr (.inl (dgT w (hI h 49 1) s))), none, none] g1 6 36 303 [aX 0, .inl 2, .inl 4] []
  refine dcH (cs := s_L_constant) (by rfl) (mc := 2) (ms := 12) (ht := 5) (by rfl) (by rfl) (e3 w ps s ⟨c1, by omega, rfl, rfl⟩) ?_
  refine And.intro (fun e9 => (by omega : False).elim) (fun _ => ?_)
  show doC 57 342 94 (sp cl_L_refused) [] X (kq 2 57 342 94 (sp cl_L_refused) Rt X code_L_refused 3970 (code_L_refused.drop 30)) 50 53 [some (aX 0), some (.inr (.inl (dgT w (hI h 49 1) s))), none, none] g1 8 48 304 [aX 0, .inl 19, .inl 0, .inl 0] []
  refine dcH (cs := s_L_binary) (by rfl) (mc := 4) (ms := 24) (ht := 6) (by rfl) (by rfl) (e3 w ps s ⟨c1, by omega, fun _ => ⟨rfl, rfl⟩, by omega⟩) ?_
  refine And.intro (fun e9 => (by omega : False).elim) (fun _ => ?_)
  show doC 57 342 94 (sp cl_L_refused) [] X (kq 2 57 342 94 (sp cl_L_refused) Rt X code_L_refused 3963 (code_L_refused.drop 37)) 62 65 [some (aX 0), some (.inr (.inl (dgT w (hI h 49 1) s))), none, none] g1 12 72 304 [aX 0, .inl 2, .inl 0, .inl 40] []
  refine dcH (cs := s_L_binary) (by rfl) (mc := 4) (ms := 24) (ht := 6) (by rfl) (by rfl) (e3 w ps s ⟨c1, by omega, by omega, fun _ => ⟨rfl, rfl⟩⟩) ?_
  refine And.intro (fun e9 => (by omega : False).elim) (fun _ => ?_)
  show doC 57 342 94 (sp cl_L_refused) [] X (kq 2 57 342 94 (sp cl_L_refused) Rt X code_L_refused 3956 (code_L_refused.drop 44)) 74 77 [some (aX 0), some (.inr (.inl (dgT w (hI h 49 1) s))), none, none] g1 16 96 306 [aX 0, .inl 40, .inl 0, .inl 0] []
  refine dcH (cs := s_L_slice) (by rfl) (mc := 3) (ms := 18) (ht := 6) (by rfl) (by rfl) (e3 w ps s ⟨c1, by omega, fun _ => ⟨rfl, rfl⟩, by omega⟩) ?_
  refine And.intro (fun e9 => (by omega : False).elim) (fun _ => ?_)
  show doC 57 342 94 (sp cl_L_refused) [] X (kq 2 57 342 94 (sp cl_L_refused) Rt X code_L_refused 3949 (code_L_refused.drop 51)) 85 88 [some (aX 0), some (.inr (.inl (dgT w (hI h 49 1) s))), none, none] g1 19 114 306 [aX 0, .inl 0, .inl 0, .inl 1] []
  refine dcH (cs := s_L_slice) (by rfl) (mc := 3) (ms := 18) (ht := 6) (by rfl) (by rfl) (e3 w ps s ⟨c1, by omega, by omega, fun _ => ⟨rfl, rfl⟩⟩) ?_
  refine And.intro (fun e9 => (by omega : False).elim) (fun _ => ?_)
  show doC 57 342 94 (sp cl_L_refused) [] X (kq 2 57 342 94 (sp cl_L_refused) Rt X code_L_refused 3942 (code_L_refused.drop 58)) 97 100 [some (aX 0), some (.inr (.inl (dgT w (hI h 49 1) s))), none, none] g1 22 132 306 [aX 0, .inl 0, .inl 8, .inl 0] []
  refine dcH (cs := s_L_slice) (by rfl) (mc := 3) (ms := 18) (ht := 6) (by rfl) (by rfl) (e3 w ps s ⟨c1, by omega, by omega, fun _ => ⟨rfl, rfl⟩⟩) ?_
  refine And.intro (fun e9 => (by omega : False).elim) (fun _ => ?_)
  refine And.intro (fun e9 => (by omega : False).elim) (fun _ => ?_)
  show doC 57 342 94 (sp cl_L_refused) [] X (kq 2 57 342 94 (sp cl_L_refused) Rt X code_L_refused 3930 (code_L_refused.drop 71)) 119 122 [some (aX 0), some (.inr (.inl (dgT w (hI h 49 1) s))), none, some (.inl 1)] g1 25 150 308 [aX 0, .inl 0, .inl 0, .inl 40] []
  refine dcH (cs := s_L_choice) (by rfl) (mc := 4) (ms := 24) (ht := 5) (by rfl) (by rfl) (e3 w ps s ⟨c1, by omega, fun _ => ⟨rfl, rfl⟩, by omega⟩) ?_
  refine And.intro (fun e9 => (by omega : False).elim) (fun _ => ?_)
  show doC 57 342 94 (sp cl_L_refused) [] X (kq 2 57 342 94 (sp cl_L_refused) Rt X code_L_refused 3923 (code_L_refused.drop 78)) 130 133 [some (aX 0), some (.inr (.inl (dgT w (hI h 49 1) s))), none, some (.inl 1)] g1 29 174 308 [aX 0, .inl 0, .inl 0, .inl 0] []
  refine dcH (cs := s_L_choice) (by rfl) (mc := 4) (ms := 24) (ht := 5) (by rfl) (by rfl) (e3 w ps s ⟨c1, by omega, by omega, fun _ => ⟨rfl, rfl⟩⟩) ?_
  refine And.intro (fun e9 => (by omega : False).elim) (fun _ => ?_)
  show doC 57 342 94 (sp cl_L_refused) [] X (kq 2 57 342 94 (sp cl_L_refused) Rt X code_L_refused 3918 (code_L_refused.drop 83)) 140 143 [some (aX 0), some (.inr (.inl (dgT w (hI h 49 1) s))), none, some (.inl 1)] g1 33 198 312 [aX 0, .inl 40] []
  refine dcH (cs := s_L_require) (by rfl) (mc := 2) (ms := 12) (ht := 5) (by rfl) (by rfl) (e3 w ps s ⟨c1, by omega, fun _ => ⟨rfl, rfl⟩, by omega⟩) ?_
  refine And.intro (fun e9 => (by omega : False).elim) (fun _ => ?_)
  show doC 57 342 94 (sp cl_L_refused) [] X (kq 2 57 342 94 (sp cl_L_refused) Rt X code_L_refused 3913 (code_L_refused.drop 88)) 149 152 [some (aX 0), some (.inr (.inl (dgT w (hI h 49 1) s))), none, some (.inl 1)] g1 35 210 312 [aX 0, .inl 0] []
  refine dcH (cs := s_L_require) (by rfl) (mc := 2) (ms := 12) (ht := 5) (by rfl) (by rfl) (e3 w ps s ⟨c1, by omega, by omega, fun _ => ⟨rfl, rfl⟩⟩) ?_
  refine And.intro (fun e9 => (by omega : False).elim) (fun _ => ?_)
  show doC 57 342 94 (sp cl_L_refused) [] X (kq 2 57 342 94 (sp cl_L_refused) Rt X code_L_refused 3909 (code_L_refused.drop 92)) 157 160 [some (aX 0), some (.inr (.inl (dgT w (hI h 49 1) s))), none, some (.inl 1)] g1 37 222 314 [aX 0] []
  refine dcH (cs := s_L_pop) (by rfl) (mc := 1) (ms := 6) (ht := 5) (by rfl) (by rfl) (e3 w ps s ⟨c1, z3, rfl, rfl⟩) ?_
  refine And.intro (fun e9 => (by omega : False).elim) (fun _ => ?_)
  show doC 57 342 94 (sp cl_L_refused) [] X (kq 2 57 342 94 (sp cl_L_refused) Rt X code_L_refused 3903 (code_L_refused.drop 98)) 167 170 [some (aX 0), some (.inr (.inl (dgT w (hI h 49 1) s))), none, some (.inl 1)] g1 38 228 310 [aX 0, .inl 4, .inl 0] []
  refine dcH (cs := s_L_input) (by rfl) (mc := 2) (ms := 12) (ht := 5) (by rfl) (by rfl) (e3 w ps s ⟨c1, by omega, fun _ => ⟨rfl, rfl⟩, by omega⟩) ?_
  refine And.intro (fun e9 => (by omega : False).elim) (fun _ => ?_)
  show doC 57 342 94 (sp cl_L_refused) [] X (kq 2 57 342 94 (sp cl_L_refused) Rt X code_L_refused 3897 (code_L_refused.drop 104)) 179 182 [some (aX 0), some (.inr (.inl (dgT w (hI h 49 1) s))), none, some (.inl 1)] g1 40 240 310 [aX 0, .inl 0, .inl 256] []
  refine dcH (cs := s_L_input) (by rfl) (mc := 2) (ms := 12) (ht := 5) (by rfl) (by rfl) (e3 w ps s ⟨c1, by omega, by omega, fun _ => ⟨rfl, rfl⟩⟩) ?_
  refine And.intro (fun e9 => (by omega : False).elim) (fun _ => ?_)
  show doC 57 342 94 (sp cl_L_refused) [] X (kq 2 57 342 94 (sp cl_L_refused) Rt X code_L_refused 3892 (code_L_refused.drop 109)) 188 191 [some (aX 0), some (.inr (.inl (dgT w (hI h 49 1) s))), none, some (.inl 1)] g1 42 252 317 [aX 0, .inl (-1)] []
  refine dcH (cs := s_L_extreme) (by rfl) (mc := 2) (ms := 12) (ht := 8) (by rfl) (by rfl) (e3 w ps s ⟨c1, by omega, fun _ => ⟨rfl, rfl⟩, by omega⟩) ?_
  refine And.intro (fun e9 => (by omega : False).elim) (fun _ => ?_)
  by_cases z : nxt w 0 = -1
  · show doC 57 342 94 (sp cl_L_refused) [] X (kq 2 57 342 94 (sp cl_L_refused) Rt X code_L_refused 3888 (code_L_refused.drop 113)) 196 199 [some (aX 0), some (.inr (.inl (dgT w (hI h 49 1) s))), none, some (.inl 1)] g1 44 264 153 [aX 0] []
    refine dcQ (cs := s_X9_satisfiable) (by rfl) (mc := 0) (ms := 0) (ht := 7) (by rfl) (by rfl) (q_satF c1 z) ?_
    intro g2 c2 k2
    refine And.intro (fun e9 => (by omega : False).elim) (fun _ => ?_)
    show doC 57 342 94 (sp cl_L_refused) [] X (kq 2 57 342 94 (sp cl_L_refused) Rt X code_L_refused 3884 (code_L_refused.drop 117)) 204 207 [some (aX 0), some (.inr (.inl (dgT w (hI h 49 1) s))), none, some (.inl 1)] g2 44 264 317 [aX 0, .inl 0] []
    refine dcQ (cs := s_L_extreme) (by rfl) (mc := 2) (ms := 12) (ht := 8) (by rfl) (by rfl) (e3 w ps s ⟨c2, fun _ => z, by omega, fun _ => Rq.go⟩) ?_
    intro g3 c3 k3
    refine And.intro (fun e9 => (by omega : False).elim) (fun _ => ?_)
    refine And.intro (fun e9 => (by omega : False).elim) (fun _ => ?_)
    show doC 57 342 94 (sp cl_L_refused) [] X (kq 2 57 342 94 (sp cl_L_refused) Rt X code_L_refused 3874 (code_L_refused.drop 128)) 223 226 [some (aX 0), some (.inr (.inl (dgT w (hI h 49 1) s))), none, some (.inl 1)] g3 46 276 320 [aX 0, .inl 0] []
    refine dcH (cs := s_L_models) (by rfl) (mc := 1) (ms := 6) (ht := 8) (by rfl) (by rfl) (e3 w ps s ⟨c3, by omega, rfl, rfl⟩) ?_
    refine And.intro (fun e9 => (by omega : False).elim) (fun _ => ?_)
    show doC 57 342 94 (sp cl_L_refused) [] X (kq 2 57 342 94 (sp cl_L_refused) Rt X code_L_refused 3869 (code_L_refused.drop 133)) 234 237 [some (aX 0), some (.inr (.inl (dgT w (hI h 49 1) s))), none, some (.inl 1)] g3 47 282 320 [aX 0, .inl 201] []
    refine dcH (cs := s_L_models) (by rfl) (mc := 1) (ms := 6) (ht := 8) (by rfl) (by rfl) (e3 w ps s ⟨c3, by omega, rfl, rfl⟩) ?_
    refine And.intro (fun e9 => (by omega : False).elim) (fun _ => ?_)
    show doC 57 342 94 (sp cl_L_refused) [] X (kq 2 57 342 94 (sp cl_L_refused) Rt X code_L_refused 3863 (code_L_refused.drop 139)) 245 248 [some (aX 0), some (.inr (.inl (dgT w (hI h 49 1) s))), none, some (.inl 1)] g3 48 288 323 [aX 0, .inl 0, .inl 40] []
    refine dcH (cs := s_L_equivalent) (by rfl) (mc := 3) (ms := 18) (ht := 8) (by rfl) (by rfl) (e3 w ps s ⟨c3, by omega, rfl, rfl⟩) ?_
    refine And.intro (fun e9 => (by omega : False).elim) (fun _ => ?_)
    show doC 57 342 94 (sp cl_L_refused) [] X (kq 2 57 342 94 (sp cl_L_refused) Rt X code_L_refused 3857 (code_L_refused.drop 145)) 256 259 [some (aX 0), some (.inr (.inl (dgT w (hI h 49 1) s))), none, some (.inl 1)] g3 51 306 325 [aX 0, .inl 40, .inl 1] []
    refine dcH (cs := s_L_wish) (by rfl) (mc := 2) (ms := 12) (ht := 5) (by rfl) (by rfl) (e3 w ps s ⟨c3, by omega, fun _ => ⟨rfl, rfl⟩, by omega⟩) ?_
    refine And.intro (fun e9 => (by omega : False).elim) (fun _ => ?_)
    show doC 57 342 94 (sp cl_L_refused) [] X (kq 2 57 342 94 (sp cl_L_refused) Rt X code_L_refused 3851 (code_L_refused.drop 151)) 266 269 [some (aX 0), some (.inr (.inl (dgT w (hI h 49 1) s))), none, some (.inl 1)] g3 53 318 325 [aX 0, .inl 0, .inl 1] []
    refine dcH (cs := s_L_wish) (by rfl) (mc := 2) (ms := 12) (ht := 5) (by rfl) (by rfl) (e3 w ps s ⟨c3, by omega, by omega, fun _ => ⟨rfl, rfl⟩⟩) ?_
    refine And.intro (fun e9 => (by omega : False).elim) (fun _ => ?_)
    show doC 57 342 94 (sp cl_L_refused) [] X (kq 2 57 342 94 (sp cl_L_refused) Rt X code_L_refused 3846 (code_L_refused.drop 156)) 275 278 [some (aX 0), some (.inr (.inl (dgT w (hI h 49 1) s))), none, some (.inl 1)] g3 55 330 329 [aX 0, .inl (-1)] []
    refine dcH (cs := s_L_write) (by rfl) (mc := 2) (ms := 12) (ht := 93) (by rfl) (by rfl) (e3 w ps s ⟨c3, fun _ => ⟨rfl, rfl⟩, by omega, by omega⟩) ?_
    refine And.intro (fun e9 => (by omega : False).elim) (fun _ => ?_)
    refine And.intro (fun e9 => (by omega : False).elim) (fun _ => ?_)
    show doC 57 342 94 (sp cl_L_refused) [] X (kq 2 57 342 94 (sp cl_L_refused) Rt X code_L_refused 3837 (code_L_refused.drop 166)) 293 296 [some (aX 0), some (.inr (.inl (dgT w (hI h 49 1) s))), none, some (.inl 1)] g3 57 342 175 [aX 0] []
    refine dcJ (cs := s_X9_digest) (by rfl) (mc := 0) (ms := 0) (ht := 7) (by rfl) (by rfl) (q_digest c3) ?_
    intro g4 c4 k4
    have q9 := dgT_k ((k1.tr k2).tr k3) w s
    refine And.intro (fun e9 => (by omega : False).elim) (fun _ => ?_)
    exact ⟨Or.inr rfl, K g4 c4 (((k1.tr k2).tr k3).tr k4)⟩
  · show doC 57 342 94 (sp cl_L_refused) [] X (kq 2 57 342 94 (sp cl_L_refused) Rt X code_L_refused 3888 (code_L_refused.drop 113)) 196 199 [some (aX 0), some (.inr (.inl (dgT w (hI h 49 1) s))), none, some (.inl 1)] g1 44 264 153 [aX 0] []
    refine dcQ (cs := s_X9_satisfiable) (by rfl) (mc := 0) (ms := 0) (ht := 7) (by rfl) (by rfl) (q_satT c1 z) ?_
    intro g3 c3 k3
    refine And.intro (fun _ => ?_) (fun e9 => (by omega : False).elim)
    refine And.intro (fun e9 => (by omega : False).elim) (fun _ => ?_)
    show doC 57 342 94 (sp cl_L_refused) [] X (kq 2 57 342 94 (sp cl_L_refused) Rt X code_L_refused 3879 (code_L_refused.drop 128)) 223 226 [some (aX 0), some (.inr (.inl (dgT w (hI h 49 1) s))), none, some (.inl 1)] g3 44 264 320 [aX 0, .inl 0] []
    refine dcH (cs := s_L_models) (by rfl) (mc := 1) (ms := 6) (ht := 8) (by rfl) (by rfl) (e3 w ps s ⟨c3, by omega, rfl, rfl⟩) ?_
    refine And.intro (fun e9 => (by omega : False).elim) (fun _ => ?_)
    show doC 57 342 94 (sp cl_L_refused) [] X (kq 2 57 342 94 (sp cl_L_refused) Rt X code_L_refused 3874 (code_L_refused.drop 133)) 234 237 [some (aX 0), some (.inr (.inl (dgT w (hI h 49 1) s))), none, some (.inl 1)] g3 45 270 320 [aX 0, .inl 201] []
    refine dcH (cs := s_L_models) (by rfl) (mc := 1) (ms := 6) (ht := 8) (by rfl) (by rfl) (e3 w ps s ⟨c3, by omega, rfl, rfl⟩) ?_
    refine And.intro (fun e9 => (by omega : False).elim) (fun _ => ?_)
    show doC 57 342 94 (sp cl_L_refused) [] X (kq 2 57 342 94 (sp cl_L_refused) Rt X code_L_refused 3868 (code_L_refused.drop 139)) 245 248 [some (aX 0), some (.inr (.inl (dgT w (hI h 49 1) s))), none, some (.inl 1)] g3 46 276 323 [aX 0, .inl 0, .inl 40] []
    refine dcH (cs := s_L_equivalent) (by rfl) (mc := 3) (ms := 18) (ht := 8) (by rfl) (by rfl) (e3 w ps s ⟨c3, by omega, rfl, rfl⟩) ?_
    refine And.intro (fun e9 => (by omega : False).elim) (fun _ => ?_)
    show doC 57 342 94 (sp cl_L_refused) [] X (kq 2 57 342 94 (sp cl_L_refused) Rt X code_L_refused 3862 (code_L_refused.drop 145)) 256 259 [some (aX 0), some (.inr (.inl (dgT w (hI h 49 1) s))), none, some (.inl 1)] g3 49 294 325 [aX 0, .inl 40, .inl 1] []
    refine dcH (cs := s_L_wish) (by rfl) (mc := 2) (ms := 12) (ht := 5) (by rfl) (by rfl) (e3 w ps s ⟨c3, by omega, fun _ => ⟨rfl, rfl⟩, by omega⟩) ?_
    refine And.intro (fun e9 => (by omega : False).elim) (fun _ => ?_)
    show doC 57 342 94 (sp cl_L_refused) [] X (kq 2 57 342 94 (sp cl_L_refused) Rt X code_L_refused 3856 (code_L_refused.drop 151)) 266 269 [some (aX 0), some (.inr (.inl (dgT w (hI h 49 1) s))), none, some (.inl 1)] g3 51 306 325 [aX 0, .inl 0, .inl 1] []
    refine dcH (cs := s_L_wish) (by rfl) (mc := 2) (ms := 12) (ht := 5) (by rfl) (by rfl) (e3 w ps s ⟨c3, by omega, by omega, fun _ => ⟨rfl, rfl⟩⟩) ?_
    refine And.intro (fun e9 => (by omega : False).elim) (fun _ => ?_)
    show doC 57 342 94 (sp cl_L_refused) [] X (kq 2 57 342 94 (sp cl_L_refused) Rt X code_L_refused 3851 (code_L_refused.drop 156)) 275 278 [some (aX 0), some (.inr (.inl (dgT w (hI h 49 1) s))), none, some (.inl 1)] g3 53 318 329 [aX 0, .inl (-1)] []
    refine dcH (cs := s_L_write) (by rfl) (mc := 2) (ms := 12) (ht := 93) (by rfl) (by rfl) (e3 w ps s ⟨c3, fun _ => ⟨rfl, rfl⟩, by omega, by omega⟩) ?_
    refine And.intro (fun e9 => (by omega : False).elim) (fun _ => ?_)
    refine And.intro (fun e9 => (by omega : False).elim) (fun _ => ?_)
    show doC 57 342 94 (sp cl_L_refused) [] X (kq 2 57 342 94 (sp cl_L_refused) Rt X code_L_refused 3842 (code_L_refused.drop 166)) 293 296 [some (aX 0), some (.inr (.inl (dgT w (hI h 49 1) s))), none, some (.inl 1)] g3 55 330 175 [aX 0] []
    refine dcJ (cs := s_X9_digest) (by rfl) (mc := 0) (ms := 0) (ht := 7) (by rfl) (by rfl) (q_digest c3) ?_
    intro g4 c4 k4
    have q9 := dgT_k (k1.tr k3) w s
    refine And.intro (fun e9 => (by omega : False).elim) (fun _ => ?_)
    exact ⟨Or.inr rfl, K g4 c4 ((k1.tr k3).tr k4)⟩
theorem m_L_refused : MM 336 s_L_refused := mm_of (own := 11) (by rfl) k_L_refused (cl := cl_L_refused) mc_L_refused o_L_refused

/-! ===== the law's small methods ===== -/
def s_L_low : CS := (zc 1, ap [(0, 0), (0, 0)] (fun v n h Rt X =>
0 < n ∧ ∀ r, 0 ≤ r → r < n → Rt (some (.inl r)) h))
def cl_L_low : List (Nat × CS) := []
theorem mc_L_low : allMM cl_L_low := trivial
set_option maxRecDepth 100000 in
set_option maxHeartbeats 4000000 in
theorem o_L_low : Obl true 1 2 (sp cl_L_low) [] code_L_low s_L_low := by
  refine obl0 (by rfl) ?_
  intro v r_v n r_n h Rt X hh hf hs
  obtain ⟨z, K⟩ := hs
  have b0 := bAnd_31 v
  refine And.intro ⟨by omega, by omega⟩ ?_
  exact K _ (Int.emod_nonneg _ (by omega)) (Int.emod_lt_of_pos _ z)
theorem m_L_low : MM 335 s_L_low := mm_of (own := 11) (by rfl) k_L_low (cl := cl_L_low) mc_L_low o_L_low
def s_L_mask : CS := (zc 1, ap [(0, 0)] (fun k h Rt X =>
(1 ≤ k ∧ k ≤ 8) ∧ Rt (some (.inl (p2 k - 1))) h))
def cl_L_mask : List (Nat × CS) := []
theorem mc_L_mask : allMM cl_L_mask := trivial
set_option maxRecDepth 100000 in
set_option maxHeartbeats 4000000 in
theorem o_L_mask : Obl true 1 1 (sp cl_L_mask) [] code_L_mask s_L_mask := by
  refine obl0 (by rfl) ?_
  intro k r_k h Rt X hh hf hs
  obtain ⟨z, K⟩ := hs
  have p8 := p2_le8 z.2
  have pp := p2_pos k
  have e : sShl 1 k = p2 k := by rw [sShl_eq (by omega) (by omega) (by decide) (by omega)]; omega
  rw [← e] at K p8 pp
  refine And.intro ⟨by omega, by omega⟩ ?_
  exact K
theorem m_L_mask : MM 337 s_L_mask := mm_of (own := 11) (by rfl) k_L_mask (cl := cl_L_mask) mc_L_mask o_L_mask
def s_L_isGain : CS := (zc 9, ap [(3, 0)] (fun  h Rt X =>
∃ w ps s, CI h w ps s ∧ nxt w 0 ≠ -1 ∧ Go h w ps s (Rt (some (.inl 1)))))
def cl_L_isGain : List (Nat × CS) := [(166, wk s_X9_gain)]
theorem mc_L_isGain : allMM cl_L_isGain := ⟨mm_wk m_X9_gain, trivial⟩
set_option maxRecDepth 100000 in
set_option maxHeartbeats 4000000 in
theorem o_L_isGain : Obl true 2 2 (sp cl_L_isGain) [] code_L_isGain s_L_isGain := by
  refine obl0 (by rfl) ?_
  intro  h Rt X hh hf hs
  obtain ⟨w, ps, s, hC, z, K⟩ := hs
  have hW := hC.wf
  obtain ⟨r, hr⟩ := isB_tot hW (gnA w)
  have e : gnR w r = gnA w r := if_neg (isB_ex hr z)
  have g0 := gnA_rng hW r
  show doC 0 0 9 (sp cl_L_isGain) [] X (kq 2 0 0 9 (sp cl_L_isGain) Rt X code_L_isGain 3998 (code_L_isGain.drop 2)) 1 4 [some (aX 0), none] h 0 0 166 [aX 0] []
  refine dcQ (cs := s_X9_gain) (by rfl) (mc := 0) (ms := 0) (ht := 7) (by rfl) (by rfl) (q_gain hC hr) ?_
  intro g c k
  rw [e]
  refine And.intro (fun e9 => (by omega : False).elim) (fun _ => ?_)
  refine And.intro (fun e9 => (by omega : False).elim) (fun _ => ?_)
  exact ⟨Or.inr rfl, K g c k⟩
theorem m_L_isGain : MM 343 s_L_isGain := mm_of (own := 11) (by rfl) k_L_isGain (cl := cl_L_isGain) mc_L_isGain o_L_isGain

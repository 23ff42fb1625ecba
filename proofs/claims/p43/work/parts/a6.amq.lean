/-! ===== models: what the law's checks of them rest on ===== -/
def mmF (w : Int → Int) : Int := if cntB (mdl w) (tot w).toNat < 200 then cntB (mdl w) (tot w).toNat else 200
def nvF (f : Int → Int) : Int := if smF f 256 < 200 then smF f 256 else 200
theorem cnt_0 {w : Int → Int} (z : nxt w 0 = -1) : cntB (mdl w) (tot w).toNat = 0 := cntB_gap (mdl w) (j := 0) (tot w).toNat (Nat.zero_le _) fun N n0 n1 => nxt_none z N (by omega) (by omega) (by omega)
theorem mmF_0 {w : Int → Int} (z : nxt w 0 = -1) : mmF w = 0 := by
  unfold mmF
  rw [cnt_0 z]
  rfl
theorem kthW_0 {w f : Int → Int} {n : Int} (hf : Mets w n f (tot w)) (z : nxt w 0 = -1) : kthW f 0 = -1 := fst_none.mpr fun k hk => decide_eq_false fun q => by
  rcases hf.o k (by omega) (by omega) with ⟨a, _⟩ | ⟨_, N, a, b, c, _⟩
  · rw [a] at q
    exact absurd q.1 (by decide)
  · rw [nxt_none z N a a b] at c
    cases c
theorem gSz (w : Int → Int) (n sg N : Int) : gS w n 0 sg N = -(gV w n sg N) := if_pos rfl
theorem gSo (w : Int → Int) (n sg N : Int) : gS w n 1 sg N = gV w n sg N := if_neg (by decide)
theorem gVz (w : Int → Int) (n N : Int) : gV w n 0 N = vl w (asg w N) n := by
  unfold gV rd
  exact if_pos rfl
theorem am_facts {w : Int → Int} (hW : WF w) {n : Int} (n0 : 0 ≤ n) (n1 : n < w 0) (z : nxt w 0 ≠ -1) : ∃ (r0 r1 q0 q1 rg : Int) (f : Int → Int),
    (isB (mdl w) (gS w n 0 0) (tot w) r0 ∧ isB (mdl w) (gS w n 1 0) (tot w) r1 ∧ isB (mdl w) (gS w n 0 1) (tot w) q0 ∧ isB (mdl w) (gS w n 1 1) (tot w) q1 ∧ isB (mdl w) (gnA w) (tot w) rg ∧ Mets w n f (tot w)) ∧
    (r0 ≠ -1 ∧ r1 ≠ -1 ∧ rg ≠ -1) ∧ (mdl w (nxt w 0) = true ∧ mdl w r0 = true ∧ mdl w r1 = true ∧ mdl w rg = true) ∧
    (kthW f 0 = gV w n 0 r0 ∧ (nvF f ≠ 200 → kthW f (nvF f - 1) = gV w n 0 r1)) ∧ (vl w (asg w r0) n = gV w n 0 r0 ∧ vl w (asg w r1) n = gV w n 0 r1) ∧
    (gV w n 0 r0 ≤ vl w (asg w (nxt w 0)) n ∧ vl w (asg w (nxt w 0)) n ≤ gV w n 0 r1) ∧ gV w n 1 q0 ≤ gV w n 1 q1 ∧ (1 ≤ nvF f ∧ nvF f ≤ 200 ∧ nvF f ≤ mmF w) ∧
    bAnd (vl w (asg w r1) n) (fxB w n) = fxA w n (tot w).toNat ∧ (fxB w n = p2 (nd w n 1) - 1 ↔ nvF f = 1) := by
  obtain ⟨r0, b0⟩ := isB_tot hW (gS w n 0 0)
  obtain ⟨r1, b1⟩ := isB_tot hW (gS w n 1 0)
  obtain ⟨q0, d0⟩ := isB_tot hW (gS w n 0 1)
  obtain ⟨q1, d1⟩ := isB_tot hW (gS w n 1 1)
  obtain ⟨rg, bg⟩ := isB_tot hW (gnA w)
  obtain ⟨f, hf⟩ := Mets_tot hW n
  have m0 := isB_some b0 (isB_ex b0 z)
  have m1 := isB_some b1 (isB_ex b1 z)
  have e0 := isB_some d0 (isB_ex d0 z)
  have mg := isB_some bg (isB_ex bg z)
  obtain ⟨x0, x1, x2, x3, -⟩ := nxt_some z
  have V := vl_256 hW n0 n1
  have lo : ∀ N, 0 ≤ N → N < tot w → mdl w N = true → vl w (asg w r0) n ≤ vl w (asg w N) n := fun N a b c => by
    have q := isB_max b0 a b c
    rw [gSz, gSz, gVz, gVz] at q
    omega
  have hi : ∀ N, 0 ≤ N → N < tot w → mdl w N = true → vl w (asg w N) n ≤ vl w (asg w r1) n := fun N a b c => by
    have q := isB_max b1 a b c
    rw [gSo, gSo, gVz, gVz] at q
    exact q
  have sg := isB_max d1 e0.1 e0.2.1 e0.2.2
  rw [gSo, gSo] at sg
  have k0 := hf.lo m0.1 m0.2.1 m0.2.2 (V r0).1 (V r0).2 lo
  have k1 := hf.hi m1.1 m1.2.1 m1.2.2 (V r1).1 (V r1).2 hi
  have po := hf.pos m0.1 m0.2.1 m0.2.2 (V r0).1 (V r0).2
  have cc := hf.cn hW n0 n1
  have nv : (smF f 256 < 200 ∧ nvF f = smF f 256) ∨ (200 ≤ smF f 256 ∧ nvF f = 200) := by
    unfold nvF
    split <;> omega
  have mm : (cntB (mdl w) (tot w).toNat < 200 ∧ mmF w = cntB (mdl w) (tot w).toNat) ∨ (200 ≤ cntB (mdl w) (tot w).toNat ∧ mmF w = 200) := by
    unfold mmF
    split <;> omega
  have fo := fxB_one hW n0 n1 hf m0.1 m0.2.1 m0.2.2
  refine ⟨r0, r1, q0, q1, rg, f, ⟨b0, b1, d0, d1, bg, hf⟩, ⟨isB_ex b0 z, isB_ex b1 z, isB_ex bg z⟩, ⟨x3, m0.2.2, m1.2.2, mg.2.2⟩, ⟨by rw [gVz]; exact k0, fun q => ?_⟩, ⟨(gVz w n r0).symm, (gVz w n r1).symm⟩, ⟨by rw [gVz]; exact lo _ x0 x2 x3, by rw [gVz]; exact hi _ x0 x2 x3⟩, sg, ⟨by omega, by omega, by omega⟩, fxB_val hW n0 n1 m1.1 m1.2.1 m1.2.2, ?_⟩
  · rw [show nvF f - 1 = smF f 256 - 1 by omega, gVz]
    exact k1
  · rw [fo]
    omega
/-! calls at rows that differ in the inputs alone -/
theorem q_coreT {h : Hp} {w ps : Int → Int} {s : Int} (hC : CI h w ps s) (z : nxt w 0 ≠ -1) : s_X9_core1.2 [aX 0] h (Rq (-1) h w ps s) NoX := e3 w ps s ⟨hC, fun _ => Rq.go, fun y => absurd y z⟩
theorem q_coreF {h : Hp} {w ps : Int → Int} {s : Int} (hC : CI h w ps s) (z : nxt w 0 = -1) : s_X9_core1.2 [aX 0] h (Rq (coreF w (w 290).toNat) h w ps s) NoX := e3 w ps s ⟨hC, fun y => absurd z y, fun _ => Rq.go⟩
section P
variable {h : Hp} {w u ps : Int → Int} {s n N r : Int}
theorem p_lt (hW : WF w) (ip : Ipt w u) (n1 : n < w 0) : n < u 0 := by
  rw [(ip.nx hW).2.1]
  exact n1
theorem p_nx (hW : WF w) (ip : Ipt w u) (z : nxt w 0 ≠ -1) : nxt u 0 ≠ -1 := by
  rw [ip.nxt hW]
  exact z
theorem p_inputs {way : Int} (hW : WF w) (ip : Ipt w u) (hC : CI h u ps s) (n0 : 0 ≤ n) (n1 : n < w 0) (y : 0 ≤ way ∧ way ≤ 3) (hB : WyB w way n N) (hN : N ≠ -1) : s_L_inputs.2 [aX 0, .inl way, .inl n] h (Rn h (fun x => Ipt w x ∧ Ina w x N (w 281))) NoX :=
  Exists.intro u (Exists.intro ps (Exists.intro s (Exists.intro N ⟨hC, ⟨n0, p_lt hW ip n1⟩, y, hB.ip hW ip n0 n1, hN, fun g x p t c k i a => ⟨x, p, t, rfl, c, k, ip.tr i, Box.i fun v v0 v1 => by
    rw [← ip.asg hW N v0 v1]
    exact a.o v v0 (by rw [(ip.nx hW).2.2]; exact v1)⟩⟩)))
theorem p_isModel (hW : WF w) (ip : Ipt w u) (hC : CI h u ps s) (ia : Ina w u N (w 281)) (p : mdl w N = true) : s_L_isModel.2 [aX 0] h (Rq 1 h u ps s) NoX := e3 u ps s ⟨hC, fun k k0 k1 => by
  have cn := hW.cn
  rw [ip.o 290 (by omega)] at k1
  have c := hW.con k0 k1
  rw [ip.o (291 + k) (by omega), ia.vl hW ip c.2.1]
  exact (mdl_iff hW).mp p k k0 k1, Rq.go⟩
theorem p_value (hW : WF w) (ip : Ipt w u) (hC : CI h u ps s) (ia : Ina w u N (w 281)) (n0 : 0 ≤ n) (n1 : n < w 0) : s_X9_value.2 [aX 0, .inl n, .inl 0] h (Rq (vl w (asg w N) n) h u ps s) NoX := by
  have q := q_value hC n0 (p_lt hW ip n1)
  rw [ia.vl hW ip n1] at q
  exact q
theorem p_extreme {gr sg : Int} (hW : WF w) (ip : Ipt w u) (hC : CI h u ps s) (n0 : 0 ≤ n) (n1 : n < w 0) (z : nxt w 0 ≠ -1) (hr : isB (mdl w) (gS w n gr sg) (tot w) r) : s_X9_extreme.2 [aX 0, .inl n, .inl gr, .inl sg] h (Rq (gV w n sg r) h u ps s) NoX := by
  have q := q_extreme (gr := gr) (sg := sg) (r := r) hC n0 (p_lt hW ip n1) (p_nx hW ip z) (by rw [ip.mdl hW, ip.gS hW n0 n1, ip.tot hW]; exact hr)
  rw [ip.gV hW n0 n1] at q
  exact q
theorem p_valueAt {k : Int} {f : Int → Int} (hW : WF w) (ip : Ipt w u) (hC : CI h u ps s) (n0 : 0 ≤ n) (n1 : n < w 0) (k0 : 0 ≤ k) (k1 : k ≤ 199) (hf : Mets w n f (tot w)) : s_X9_valueAt.2 [aX 0, .inl n, .inl k] h (Rq (kthW f k) h u ps s) NoX := q_valueAt hC n0 (p_lt hW ip n1) k0 k1 (by rw [ip.tot hW]; exact ip.Mt hW n1 hf)
theorem p_values {f : Int → Int} (hW : WF w) (ip : Ipt w u) (hC : CI h u ps s) (n0 : 0 ≤ n) (n1 : n < w 0) (hf : Mets w n f (tot w)) : s_X9_values.2 [aX 0, .inl n, .inl 200] h (Rq (nvF f) h u ps s) NoX := q_values (l := 200) hC n0 (p_lt hW ip n1) (by decide) (by decide) (by rw [ip.tot hW]; exact ip.Mt hW n1 hf)
theorem p_fixedV (hW : WF w) (ip : Ipt w u) (hC : CI h u ps s) (n0 : 0 ≤ n) (n1 : n < w 0) (z : nxt w 0 ≠ -1) : s_X9_fixed.2 [aX 0, .inl n, .inl 1] h (Rq (fxA w n (tot w).toNat) h u ps s) NoX := by
  have q := q_fixedV hC n0 (p_lt hW ip n1) (p_nx hW ip z)
  rw [ip.fA hW n0 n1] at q
  exact q
theorem p_fixedB (hW : WF w) (ip : Ipt w u) (hC : CI h u ps s) (n0 : 0 ≤ n) (n1 : n < w 0) (z : nxt w 0 ≠ -1) : s_X9_fixed.2 [aX 0, .inl n, .inl 0] h (Rq (fxB w n) h u ps s) NoX := by
  have q := q_fixedB hC n0 (p_lt hW ip n1) (p_nx hW ip z)
  rw [ip.fB hW n0 n1] at q
  exact q
theorem p_models (hW : WF w) (ip : Ipt w u) (hC : CI h u ps s) : s_X9_models.2 [aX 0, .inl 200] h (Rq (mmF w) h u ps s) NoX := by
  have q := q_models (l := 200) hC (by decide) (by decide)
  rw [ip.mdl hW, ip.tot hW] at q
  exact q
theorem p_width (hW : WF w) (ip : Ipt w u) (hC : CI h u ps s) (n0 : 0 ≤ n) (n1 : n < w 0) : s_X9_info.2 [aX 0, .inl n, .inl 1] h (fun r g => r = some (.inl (nd w n 1)) ∧ g = h) NoX := by
  have q := q_width hC n0 (p_lt hW ip n1)
  rw [ip.wd hW n0 n1] at q
  exact q
theorem p_isGain (hW : WF w) (ip : Ipt w u) (hC : CI h u ps s) (z : nxt w 0 ≠ -1) : s_L_isGain.2 [aX 0] h (Rq 1 h u ps s) NoX := e3 u ps s ⟨hC, p_nx hW ip z, Rq.go⟩
end P
theorem mask_h {h : Hp} {k : Int} (z : 1 ≤ k ∧ k ≤ 8) : s_L_mask.2 [.inl k] h (fun r g => r = some (.inl (p2 k - 1)) ∧ g = h) NoX := And.intro z ⟨rfl, rfl⟩

/-! ===== the class: planes, sums and differences in lanes ===== -/
theorem spr_eq {w b : Int} (r : Rng w) (h0 : 0 ≤ b) (h1 : b < 32) : -(i2L (bAnd (sShr w b) 1)) = spr w b := by
  rw [bAnd1, sShr_eq r h0 h1]
  unfold spr
  rcases Int.emod_two_eq (w / p2 b) with e | e
  · rw [e]; rfl
  · rw [e]; rfl
def s_X3_spread : CS := (zc 1, ap [(0, 0), (0, 0)] (fun w b h Rt X =>
(0 ≤ b ∧ b < 32) ∧ Rt (some (.inr (.inl (spr w b)))) h))
set_option maxRecDepth 100000 in
set_option maxHeartbeats 4000000 in
theorem o_X3_spread : Obl true 3 2 (sp []) [] code_X3_spread s_X3_spread := by
  refine obl0 (by rfl) ?_
  intro w r_w b r_b h Rt X hh hf hs
  obtain ⟨⟨a1, a2⟩, h2⟩ := hs
  have e := spr_eq r_w a1 a2
  rw [← e] at h2
  repeat' (first | apply And.intro | (with_reducible assumption) | (intro h9; first | (exfalso; omega) | (simp only [rI_rI, rJ_rJ, hI_rI, hJ_rI, hI_rJ, hJ_rJ, hI_rR, hR_rI, hR_rJ, hN_rI, hN_rJ, svH_63, svH_66, rfH_63, wvH_63, wvH_62, wvH_67, wvH_68, wvH_69, sc_63, sc_n62, sc_n67, sc_n68, sc_n69, sc_n70, reduceIte, Nat.reduceEqDiff, eq_self, up_up, up_self, up_ne, ne_eq, not_false_eq_true, Int.reduceEq, Int.reduceNeg] at h9; first | (exfalso; omega) | skip) | skip) | exact h2 | exact h2 (by omega) | omega | exact True.intro | (simp only [rI_rI, rJ_rJ, hI_rI, hJ_rI, hI_rJ, hJ_rJ, hI_rR, hR_rI, hR_rJ, hN_rI, hN_rJ, svH_63, svH_66, rfH_63, wvH_63, wvH_62, wvH_67, wvH_68, wvH_69, sc_63, sc_n62, sc_n67, sc_n68, sc_n69, sc_n70, reduceIte, Nat.reduceEqDiff, eq_self, up_up, up_self, up_ne, ne_eq, not_false_eq_true, Int.reduceEq, Int.reduceNeg]; omega))
theorem m_X3_spread : MM 53 s_X3_spread := mm_of (own := 2) (by rfl) k_X3_spread (cl := []) trivial o_X3_spread
def s_X3_plane : CS := (zc 1, ap [(3, 43), (0, 0), (0, 0)] (fun n j h Rt X =>
(0 ≤ n * 8 + j ∧ n * 8 + j < 328 ∧ -1000 ≤ n ∧ n ≤ 1000 ∧ -1000 ≤ j ∧ j ≤ 1000) ∧ Rt (some (.inr (.inl (hJ h 44 (n * 8 + j))))) h))
set_option maxRecDepth 100000 in
set_option maxHeartbeats 4000000 in
theorem o_X3_plane : Obl true 3 3 (sp []) [] code_X3_plane s_X3_plane := by
  refine obl0 (by rfl) ?_
  intro n r_n j r_j h Rt X hh hf hs
  obtain ⟨h1, h2⟩ := hs
  repeat' (first | apply And.intro | (with_reducible assumption) | (intro h9; first | (exfalso; omega) | (simp only [rI_rI, rJ_rJ, hI_rI, hJ_rI, hI_rJ, hJ_rJ, hI_rR, hR_rI, hR_rJ, hN_rI, hN_rJ, svH_63, svH_66, rfH_63, wvH_63, wvH_62, wvH_67, wvH_68, wvH_69, sc_63, sc_n62, sc_n67, sc_n68, sc_n69, sc_n70, reduceIte, Nat.reduceEqDiff, eq_self, up_up, up_self, up_ne, ne_eq, not_false_eq_true, Int.reduceEq, Int.reduceNeg] at h9; first | (exfalso; omega) | skip) | skip) | exact h1 | exact h1 (by omega) | exact h2 | exact h2 (by omega) | omega | exact True.intro | (simp only [rI_rI, rJ_rJ, hI_rI, hJ_rI, hI_rJ, hJ_rJ, hI_rR, hR_rI, hR_rJ, hN_rI, hN_rJ, svH_63, svH_66, rfH_63, wvH_63, wvH_62, wvH_67, wvH_68, wvH_69, sc_63, sc_n62, sc_n67, sc_n68, sc_n69, sc_n70, reduceIte, Nat.reduceEqDiff, eq_self, up_up, up_self, up_ne, ne_eq, not_false_eq_true, Int.reduceEq, Int.reduceNeg]; omega))
theorem m_X3_plane : MM 47 s_X3_plane := mm_of (own := 2) (by rfl) k_X3_plane (cl := []) trivial o_X3_plane
def s_X3_goalPlane : CS := (zc 1, ap [(3, 43), (0, 0)] (fun j h Rt X =>
(0 ≤ j ∧ j < 8) ∧ Rt (some (.inr (.inl (hJ h 44 (320 + j))))) h))
set_option maxRecDepth 100000 in
set_option maxHeartbeats 4000000 in
theorem o_X3_goalPlane : Obl true 3 2 (sp []) [] code_X3_goalPlane s_X3_goalPlane := by
  refine obl0 (by rfl) ?_
  intro j r_j h Rt X hh hf hs
  obtain ⟨h1, h2⟩ := hs
  repeat' (first | apply And.intro | (with_reducible assumption) | (intro h9; first | (exfalso; omega) | (simp only [rI_rI, rJ_rJ, hI_rI, hJ_rI, hI_rJ, hJ_rJ, hI_rR, hR_rI, hR_rJ, hN_rI, hN_rJ, svH_63, svH_66, rfH_63, wvH_63, wvH_62, wvH_67, wvH_68, wvH_69, sc_63, sc_n62, sc_n67, sc_n68, sc_n69, sc_n70, reduceIte, Nat.reduceEqDiff, eq_self, up_up, up_self, up_ne, ne_eq, not_false_eq_true, Int.reduceEq, Int.reduceNeg] at h9; first | (exfalso; omega) | skip) | skip) | exact h1 | exact h1 (by omega) | exact h2 | exact h2 (by omega) | omega | exact True.intro | (simp only [rI_rI, rJ_rJ, hI_rI, hJ_rI, hI_rJ, hJ_rJ, hI_rR, hR_rI, hR_rJ, hN_rI, hN_rJ, svH_63, svH_66, rfH_63, wvH_63, wvH_62, wvH_67, wvH_68, wvH_69, sc_63, sc_n62, sc_n67, sc_n68, sc_n69, sc_n70, reduceIte, Nat.reduceEqDiff, eq_self, up_up, up_self, up_ne, ne_eq, not_false_eq_true, Int.reduceEq, Int.reduceNeg]; omega))
theorem m_X3_goalPlane : MM 48 s_X3_goalPlane := mm_of (own := 2) (by rfl) k_X3_goalPlane (cl := []) trivial o_X3_goalPlane
theorem bit_l2i {x : Int64} {k : Int} (h0 : 0 ≤ k) (h1 : k < 64) : l2I (lUshr x k &&& 1) = b2 (lb x k.toNat) := by
  have a := (and1 (x := lUshr x k))
  rw [lb_ushr h0 h1] at a
  rw [Nat.zero_add] at a
  cases e : lb x k.toNat with
  | true => rw [a.1.mpr e]; rfl
  | false => rw [a.2.mpr e]; rfl
def s_X3_wordAt : CS := (zc 2, ap [(3, 43), (0, 0), (0, 0)] (fun n N h Rt X =>
∃ w, GH h w ∧ WF w ∧ (0 ≤ n ∧ n < w 0) ∧ Rt (some (.inl (lw (hJ h 44) (N % 64).toNat (n * 8) (nd w n 1).toNat))) h))
set_option maxRecDepth 100000 in
set_option maxHeartbeats 4000000 in
theorem o_X3_wordAt : Obl true 1 6 (sp [(187, s_X9_fullWord), (5, s_X0_get), (47, s_X3_plane)]) [] code_X3_wordAt s_X3_wordAt := by
  refine oblL (by rfl) [(14, [0, 1, 3, 4, 5])] ?_
  intro n r_n N r_N h Rt X hh hf hs
  obtain ⟨w, hG, hW, ⟨a1, a2⟩, h2⟩ := hs
  have c1 := hG.n
  have c3 := hW.nn
  have c4 := hG.k1 a1 a2
  have c5 := hW.wd a1 a2
  have e64 : bAnd N (p2 6 - 1) = N % 64 := bAnd_mask (k := 6) (by decide) (by decide)
  have n0 := Int.emod_nonneg N (show (64 : Int) ≠ 0 by decide)
  have n1 := Int.emod_lt_of_pos N (show (0 : Int) < 64 by decide)
  refine ⟨fun k pc vs g => ∃ (i : Int), g = h ∧ vs = [.inr (.inr (some 43)), .inl n, .inl (N % 64), .inl (lw (hJ h 44) (N % 64).toNat (n * 8) i.toNat), .inl i] ∧ 0 ≤ i ∧ i ≤ nd w n 1 ∧ k = (nd w n 1 - i).toNat, ?_, ?_⟩
  · repeat' (first | apply And.intro | (with_reducible assumption) | (intro h9; first | (exfalso; omega) | (simp only [rI_rI, rJ_rJ, hI_rI, hJ_rI, hI_rJ, hJ_rJ, hI_rR, hR_rI, hR_rJ, hN_rI, hN_rJ, svH_63, svH_66, rfH_63, wvH_63, wvH_62, wvH_67, wvH_68, wvH_69, sc_63, sc_n62, sc_n67, sc_n68, sc_n69, sc_n70, reduceIte, Nat.reduceEqDiff, eq_self, up_up, up_self, up_ne, ne_eq, not_false_eq_true, Int.reduceEq, Int.reduceNeg] at h9; first | (exfalso; omega) | skip) | skip) | exact Exists.intro _ ⟨0, rfl, by rw [← e64] <;> rfl, by omega, by omega, rfl⟩ | exact h2 | exact h2 (by omega) | omega | exact True.intro | (simp only [rI_rI, rJ_rJ, hI_rI, hJ_rI, hI_rJ, hJ_rJ, hI_rR, hR_rI, hR_rJ, hN_rI, hN_rJ, svH_63, svH_66, rfH_63, wvH_63, wvH_62, wvH_67, wvH_68, wvH_69, sc_63, sc_n62, sc_n67, sc_n68, sc_n69, sc_n70, reduceIte, Nat.reduceEqDiff, eq_self, up_up, up_self, up_ne, ne_eq, not_false_eq_true, Int.reduceEq, Int.reduceNeg]; omega))
  · rintro k pc live vs g hl ⟨i, rfl, rfl, i1, i2, rfl⟩ hv hh1 hf1
    obtain ⟨rfl, rfl⟩ := look1 hl
    by_cases z : i < nd w n 1
    · have r := lw_rngi (hJ g 44) (N % 64).toNat (n * 8) i1
      have e1 := bit_l2i (x := hJ g 44 (n * 8 + i)) n0 n1
      have e2 := lw_i (hJ g 44) (N % 64).toNat (n * 8) i1
      have e3 : bOr (lw (hJ g 44) (N % 64).toNat (n * 8) i.toNat) (sShl (l2I (lUshr (hJ g 44 (n * 8 + i)) (N % 64) &&& 1)) i) = lw (hJ g 44) (N % 64).toNat (n * 8) (i + 1).toNat := by
        rw [e1, e2]
        exact or_add i1 (by omega) r.1 r.2 (b2_01 _)
      repeat' (first | apply And.intro | (with_reducible assumption) | (intro h9; first | (exfalso; omega) | (simp only [rI_rI, rJ_rJ, hI_rI, hJ_rI, hI_rJ, hJ_rJ, hI_rR, hR_rI, hR_rJ, hN_rI, hN_rJ, svH_63, svH_66, rfH_63, wvH_63, wvH_62, wvH_67, wvH_68, wvH_69, sc_63, sc_n62, sc_n67, sc_n68, sc_n69, sc_n70, reduceIte, Nat.reduceEqDiff, eq_self, up_up, up_self, up_ne, ne_eq, not_false_eq_true, Int.reduceEq, Int.reduceNeg] at h9; first | (exfalso; omega) | skip) | skip) | exact Exists.intro _ ⟨by omega, i + 1, rfl, by rw [← e3] <;> rfl, by omega, by omega, rfl⟩ | exact h2 | exact h2 (by omega) | omega | exact True.intro | (simp only [rI_rI, rJ_rJ, hI_rI, hJ_rI, hI_rJ, hJ_rJ, hI_rR, hR_rI, hR_rJ, hN_rI, hN_rJ, svH_63, svH_66, rfH_63, wvH_63, wvH_62, wvH_67, wvH_68, wvH_69, sc_63, sc_n62, sc_n67, sc_n68, sc_n69, sc_n70, reduceIte, Nat.reduceEqDiff, eq_self, up_up, up_self, up_ne, ne_eq, not_false_eq_true, Int.reduceEq, Int.reduceNeg]; omega))
    · obtain rfl : i = nd w n 1 := by omega
      repeat' (first | apply And.intro | (with_reducible assumption) | (intro h9; first | (exfalso; omega) | (simp only [rI_rI, rJ_rJ, hI_rI, hJ_rI, hI_rJ, hJ_rJ, hI_rR, hR_rI, hR_rJ, hN_rI, hN_rJ, svH_63, svH_66, rfH_63, wvH_63, wvH_62, wvH_67, wvH_68, wvH_69, sc_63, sc_n62, sc_n67, sc_n68, sc_n69, sc_n70, reduceIte, Nat.reduceEqDiff, eq_self, up_up, up_self, up_ne, ne_eq, not_false_eq_true, Int.reduceEq, Int.reduceNeg] at h9; first | (exfalso; omega) | skip) | skip) | exact h2 | exact h2 | exact h2 (by omega) | omega | exact True.intro | (simp only [rI_rI, rJ_rJ, hI_rI, hJ_rI, hI_rJ, hJ_rJ, hI_rR, hR_rI, hR_rJ, hN_rI, hN_rJ, svH_63, svH_66, rfH_63, wvH_63, wvH_62, wvH_67, wvH_68, wvH_69, sc_63, sc_n62, sc_n67, sc_n68, sc_n69, sc_n70, reduceIte, Nat.reduceEqDiff, eq_self, up_up, up_self, up_ne, ne_eq, not_false_eq_true, Int.reduceEq, Int.reduceNeg]; omega))
theorem m_X3_wordAt : MM 46 s_X3_wordAt := mm_of (own := 2) (by rfl) k_X3_wordAt (cl := [(187, s_X9_fullWord), (5, s_X0_get), (47, s_X3_plane)]) ⟨m_X9_fullWord, m_X0_get, m_X3_plane, trivial⟩ o_X3_wordAt
theorem rJ_44 (h : Hp) (Q : Int → Int64) (k : Int) (x : Int64) : rJ (rJ h 44 Q) 44 (up (hJ (rJ h 44 Q) 44) k x) = rJ h 44 (up Q k x) := by
  rw [rJ_rJ]
  rfl
def s_X3_constantWord : CS := (zc 2, ap [(3, 43), (0, 0), (0, 0), (0, 0)] (fun to k v h Rt X =>
(0 ≤ k ∧ k ≤ 8 ∧ 0 ≤ to ∧ to ≤ 320) ∧ ∀ Q, Wr (hJ h 44) Q to k → Ln Q to k (fun _ => v % p2 k) → Rt none (rJ h 44 Q)))
set_option maxRecDepth 100000 in
set_option maxHeartbeats 4000000 in
theorem o_X3_constantWord : Obl true 0 5 (sp [(53, s_X3_spread)]) [] code_X3_constantWord s_X3_constantWord := by
  refine oblL (by rfl) [(3, [0, 1, 2, 3, 4])] ?_
  intro to r_to k r_k v r_v h Rt X hh hf hs
  obtain ⟨⟨a1, a2, a3, a4⟩, h2⟩ := hs
  refine ⟨fun m pc vs g => ∃ (i : Int) (Q : Int → Int64), g = rJ h 44 Q ∧ vs = [.inr (.inr (some 43)), .inl to, .inl k, .inl v, .inl i] ∧ 0 ≤ i ∧ i ≤ k ∧ Wr (hJ h 44) Q to i ∧ Box (∀ j, 0 ≤ j → j < i → Q (to + j) = spr v j) ∧ m = (k - i).toNat, ?_, ?_⟩
  · repeat' (first | apply And.intro | (with_reducible assumption) | (intro h9; first | (exfalso; omega) | (simp only [rI_rI, rJ_rJ, hI_rI, hJ_rI, hI_rJ, hJ_rJ, hI_rR, hR_rI, hR_rJ, hN_rI, hN_rJ, svH_63, svH_66, rfH_63, wvH_63, wvH_62, wvH_67, wvH_68, wvH_69, sc_63, sc_n62, sc_n67, sc_n68, sc_n69, sc_n70, reduceIte, Nat.reduceEqDiff, eq_self, up_up, up_self, up_ne, ne_eq, not_false_eq_true, Int.reduceEq, Int.reduceNeg] at h9; first | (exfalso; omega) | skip) | skip) | exact Exists.intro _ ⟨0, hJ h 44, (rJ_id h 44).symm, rfl, by omega, by omega, Wr.z _ _, Box.i (fun j a b => by omega), rfl⟩ | exact h2 | exact h2 (by omega) | omega | exact True.intro | (simp only [rI_rI, rJ_rJ, hI_rI, hJ_rI, hI_rJ, hJ_rJ, hI_rR, hR_rI, hR_rJ, hN_rI, hN_rJ, svH_63, svH_66, rfH_63, wvH_63, wvH_62, wvH_67, wvH_68, wvH_69, sc_63, sc_n62, sc_n67, sc_n68, sc_n69, sc_n70, reduceIte, Nat.reduceEqDiff, eq_self, up_up, up_self, up_ne, ne_eq, not_false_eq_true, Int.reduceEq, Int.reduceNeg]; omega))
  · rintro m pc live vs g hl ⟨i, Q, rfl, rfl, i1, i2, i3, i4, rfl⟩ hv hh1 hf1
    obtain ⟨rfl, rfl⟩ := look1 hl
    by_cases z : i < k
    · have r : Box (∀ j, 0 ≤ j → j < i + 1 → up Q (to + i) (spr v i) (to + j) = spr v j) := Box.i fun j a b => by
        by_cases e : j = i
        · subst e; rw [up_self]
        · rw [up_ne (by omega)]; exact i4.o j a (by omega)
      repeat' (first | apply And.intro | (with_reducible assumption) | (intro h9; first | (exfalso; omega) | (simp only [rI_rI, rJ_rJ, hI_rI, hJ_rI, hI_rJ, hJ_rJ, hI_rR, hR_rI, hR_rJ, hN_rI, hN_rJ, svH_63, svH_66, rfH_63, wvH_63, wvH_62, wvH_67, wvH_68, wvH_69, sc_63, sc_n62, sc_n67, sc_n68, sc_n69, sc_n70, reduceIte, Nat.reduceEqDiff, eq_self, up_up, up_self, up_ne, ne_eq, not_false_eq_true, Int.reduceEq, Int.reduceNeg] at h9; first | (exfalso; omega) | skip) | skip) | exact Exists.intro _ ⟨by omega, i + 1, _, rJ_44 _ _ _ _, rfl, by omega, by omega, i3.st _ i1, r, rfl⟩ | exact h2 | exact h2 (by omega) | omega | exact True.intro | (simp only [rI_rI, rJ_rJ, hI_rI, hJ_rI, hI_rJ, hJ_rJ, hI_rR, hR_rI, hR_rJ, hN_rI, hN_rJ, svH_63, svH_66, rfH_63, wvH_63, wvH_62, wvH_67, wvH_68, wvH_69, sc_63, sc_n62, sc_n67, sc_n68, sc_n69, sc_n70, reduceIte, Nat.reduceEqDiff, eq_self, up_up, up_self, up_ne, ne_eq, not_false_eq_true, Int.reduceEq, Int.reduceNeg]; omega))
    · obtain rfl : i = k := by omega
      have k2 := h2 Q i3 (Box.i fun l hl => lw_val i1 fun j a b => by rw [i4.o j a b]; exact lb_spr v j hl)
      repeat' (first | apply And.intro | (with_reducible assumption) | (intro h9; first | (exfalso; omega) | (simp only [rI_rI, rJ_rJ, hI_rI, hJ_rI, hI_rJ, hJ_rJ, hI_rR, hR_rI, hR_rJ, hN_rI, hN_rJ, svH_63, svH_66, rfH_63, wvH_63, wvH_62, wvH_67, wvH_68, wvH_69, sc_63, sc_n62, sc_n67, sc_n68, sc_n69, sc_n70, reduceIte, Nat.reduceEqDiff, eq_self, up_up, up_self, up_ne, ne_eq, not_false_eq_true, Int.reduceEq, Int.reduceNeg] at h9; first | (exfalso; omega) | skip) | skip) | exact k2 | exact h2 | exact h2 (by omega) | omega | exact True.intro | (simp only [rI_rI, rJ_rJ, hI_rI, hJ_rI, hI_rJ, hJ_rJ, hI_rR, hR_rI, hR_rJ, hN_rI, hN_rJ, svH_63, svH_66, rfH_63, wvH_63, wvH_62, wvH_67, wvH_68, wvH_69, sc_63, sc_n62, sc_n67, sc_n68, sc_n69, sc_n70, reduceIte, Nat.reduceEqDiff, eq_self, up_up, up_self, up_ne, ne_eq, not_false_eq_true, Int.reduceEq, Int.reduceNeg]; omega))
theorem m_X3_constantWord : MM 55 s_X3_constantWord := mm_of (own := 2) (by rfl) k_X3_constantWord (cl := [(53, s_X3_spread)]) ⟨m_X3_spread, trivial⟩ o_X3_constantWord
/-- the assignment in a lane of a block -/
def lane (B : Int) (l : Nat) : Int := 64 * B + l
theorem lane_lo {B j : Int} {l : Nat} (hl : l < 64) (h0 : 0 ≤ j) (h1 : j < 6) : lane B l / p2 j % 2 = (l : Int) / p2 j % 2 := by
  unfold lane
  have e : (64 : Int) = p2 (6 - j) * p2 j := by rw [← p2_add (by omega) h0, show 6 - j + j = 6 by omega]; rfl
  have e3 : p2 (6 - j) = 2 * p2 (5 - j) := by rw [← p2_succ (by omega)]; congr 1; omega
  have hq := p2_pos j
  rw [e, Int.mul_comm (p2 (6 - j) * p2 j), ← Int.mul_assoc, Int.add_comm, Int.add_mul_ediv_right _ _ (by omega), e3, show B * (2 * p2 (5 - j)) = 2 * (B * p2 (5 - j)) by rw [Int.mul_left_comm], Int.add_mul_emod_self_left]
theorem lane_hi {B j : Int} {l : Nat} (hl : l < 64) (h1 : 6 ≤ j) : lane B l / p2 j = B / p2 (j - 6) := by
  unfold lane
  rw [show p2 j = 64 * p2 (j - 6) by rw [show (64 : Int) = p2 6 from rfl, ← p2_add (by decide) (by omega)]; congr 1; omega, ← Int.ediv_ediv_of_nonneg (by decide), show (64 * B + (l : Int)) / 64 = B by omega]
theorem lb_tLB {j : Int} {l : Nat} (hl : l < 64) (h0 : 0 ≤ j) (h1 : j < 6) : b2 (lb (tLB j.toNat) l) = (l : Int) / p2 j % 2 := by
  rw [tLB_all j.toNat (by omega) l hl, p2_nat]
  have e : (((l / 2 ^ j.toNat % 2 : Nat)) : Int) = (l : Int) / ((2 ^ j.toNat : Nat) : Int) % 2 := by rw [Int.natCast_emod, Int.natCast_ediv]; rfl
  have := Nat.mod_two_eq_zero_or_one (l / 2 ^ j.toNat)
  rcases this with q | q
  · rw [q] at e; rw [← e, q]; rfl
  · rw [q] at e; rw [← e, q]; rfl
def s_X3_variableWord : CS := (zc 2, ap [(3, 43), (0, 0), (0, 0), (0, 0), (0, 0)] (fun to k p B h Rt X =>
(0 ≤ k ∧ k ≤ 8 ∧ 0 ≤ to ∧ to ≤ 320 ∧ 0 ≤ p ∧ p ≤ 20) ∧ ∀ Q, Wr (hJ h 44) Q to k → Ln Q to k (fun l => lane B l / p2 p % p2 k) → Rt none (rJ h 44 Q)))
set_option maxRecDepth 100000 in
set_option maxHeartbeats 4000000 in
theorem o_X3_variableWord : Obl true 0 7 (sp [(53, s_X3_spread)]) [] code_X3_variableWord s_X3_variableWord := by
  refine oblL (by rfl) [(3, [0, 1, 2, 3, 4, 5])] ?_
  intro to r_to k r_k p r_p B r_B h Rt X hh hf hs
  obtain ⟨⟨a1, a2, a3, a4, a5, a6⟩, h2⟩ := hs
  refine ⟨fun m pc vs g => ∃ (i : Int) (Q : Int → Int64), g = rJ h 44 Q ∧ vs = [.inr (.inr (some 43)), .inl to, .inl k, .inl p, .inl B, .inl i] ∧ 0 ≤ i ∧ i ≤ k ∧ Wr (hJ h 44) Q to i ∧ Box (∀ j, 0 ≤ j → j < i → ∀ l, l < 64 → b2 (lb (Q (to + j)) l) = lane B l / p2 p / p2 j % 2) ∧ m = (k - i).toNat, ?_, ?_⟩
  · repeat' (first | apply And.intro | (with_reducible assumption) | (intro h9; first | (exfalso; omega) | (simp only [rI_rI, rJ_rJ, hI_rI, hJ_rI, hI_rJ, hJ_rJ, hI_rR, hR_rI, hR_rJ, hN_rI, hN_rJ, svH_63, svH_66, rfH_63, wvH_63, wvH_62, wvH_67, wvH_68, wvH_69, sc_63, sc_n62, sc_n67, sc_n68, sc_n69, sc_n70, reduceIte, Nat.reduceEqDiff, eq_self, up_up, up_self, up_ne, ne_eq, not_false_eq_true, Int.reduceEq, Int.reduceNeg] at h9; first | (exfalso; omega) | skip) | skip) | exact Exists.intro _ ⟨0, hJ h 44, (rJ_id h 44).symm, rfl, by omega, by omega, Wr.z _ _, Box.i (fun j a b => by omega), rfl⟩ | exact h2 | exact h2 (by omega) | omega | exact True.intro | (simp only [rI_rI, rJ_rJ, hI_rI, hJ_rI, hI_rJ, hJ_rJ, hI_rR, hR_rI, hR_rJ, hN_rI, hN_rJ, svH_63, svH_66, rfH_63, wvH_63, wvH_62, wvH_67, wvH_68, wvH_69, sc_63, sc_n62, sc_n67, sc_n68, sc_n69, sc_n70, reduceIte, Nat.reduceEqDiff, eq_self, up_up, up_self, up_ne, ne_eq, not_false_eq_true, Int.reduceEq, Int.reduceNeg]; omega))
  · rintro m pc live vs g hl ⟨i, Q, rfl, rfl, i1, i2, i3, i4, rfl⟩ hv hh1 hf1
    obtain ⟨rfl, rfl⟩ := look1 hl
    by_cases z : i < k
    · have r : ∀ x : Int64, (∀ l, l < 64 → b2 (lb x l) = lane B l / p2 (p + i) % 2) → Box (∀ j, 0 ≤ j → j < i + 1 → ∀ l, l < 64 → b2 (lb (up Q (to + i) x (to + j)) l) = lane B l / p2 p / p2 j % 2) := fun x hx => Box.i fun j a b l hl => by
        by_cases e : j = i
        · subst e
          have hq := p2_pos p
          rw [up_self, Int.ediv_ediv_of_nonneg (by omega), ← p2_add (by omega) (by omega)]; exact hx l hl
        · rw [up_ne (by omega)]; exact i4.o j a (by omega) l hl
      by_cases y : p + i < 6
      · have r2 := r (tLB (p + i).toNat) (fun l hl => by rw [lane_lo hl (by omega) y]; exact lb_tLB hl (by omega) y)
        repeat' (first | apply And.intro | (with_reducible assumption) | (intro h9; first | (exfalso; omega) | (simp only [rI_rI, rJ_rJ, hI_rI, hJ_rI, hI_rJ, hJ_rJ, hI_rR, hR_rI, hR_rJ, hN_rI, hN_rJ, svH_63, svH_66, rfH_63, wvH_63, wvH_62, wvH_67, wvH_68, wvH_69, sc_63, sc_n62, sc_n67, sc_n68, sc_n69, sc_n70, reduceIte, Nat.reduceEqDiff, eq_self, up_up, up_self, up_ne, ne_eq, not_false_eq_true, Int.reduceEq, Int.reduceNeg] at h9; first | (exfalso; omega) | skip) | skip) | exact Exists.intro _ ⟨by omega, i + 1, _, rJ_44 _ _ _ _, rfl, by omega, by omega, i3.st _ i1, r2, rfl⟩ | exact h2 | exact h2 (by omega) | omega | exact True.intro | (simp only [rI_rI, rJ_rJ, hI_rI, hJ_rI, hI_rJ, hJ_rJ, hI_rR, hR_rI, hR_rJ, hN_rI, hN_rJ, svH_63, svH_66, rfH_63, wvH_63, wvH_62, wvH_67, wvH_68, wvH_69, sc_63, sc_n62, sc_n67, sc_n68, sc_n69, sc_n70, reduceIte, Nat.reduceEqDiff, eq_self, up_up, up_self, up_ne, ne_eq, not_false_eq_true, Int.reduceEq, Int.reduceNeg]; omega))
      · have r2 := r (spr B (p + i - 6)) (fun l hl => by rw [lane_hi hl (by omega)]; exact lb_spr _ _ hl)
        repeat' (first | apply And.intro | (with_reducible assumption) | (intro h9; first | (exfalso; omega) | (simp only [rI_rI, rJ_rJ, hI_rI, hJ_rI, hI_rJ, hJ_rJ, hI_rR, hR_rI, hR_rJ, hN_rI, hN_rJ, svH_63, svH_66, rfH_63, wvH_63, wvH_62, wvH_67, wvH_68, wvH_69, sc_63, sc_n62, sc_n67, sc_n68, sc_n69, sc_n70, reduceIte, Nat.reduceEqDiff, eq_self, up_up, up_self, up_ne, ne_eq, not_false_eq_true, Int.reduceEq, Int.reduceNeg] at h9; first | (exfalso; omega) | skip) | skip) | exact Exists.intro _ ⟨by omega, i + 1, _, rJ_44 _ _ _ _, rfl, by omega, by omega, i3.st _ i1, r2, rfl⟩ | exact h2 | exact h2 (by omega) | omega | exact True.intro | (simp only [rI_rI, rJ_rJ, hI_rI, hJ_rI, hI_rJ, hJ_rJ, hI_rR, hR_rI, hR_rJ, hN_rI, hN_rJ, svH_63, svH_66, rfH_63, wvH_63, wvH_62, wvH_67, wvH_68, wvH_69, sc_63, sc_n62, sc_n67, sc_n68, sc_n69, sc_n70, reduceIte, Nat.reduceEqDiff, eq_self, up_up, up_self, up_ne, ne_eq, not_false_eq_true, Int.reduceEq, Int.reduceNeg]; omega))
    · obtain rfl : i = k := by omega
      have k2 := h2 Q i3 (Box.i fun l hl => lw_val i1 fun j a b => i4.o j a b l hl)
      repeat' (first | apply And.intro | (with_reducible assumption) | (intro h9; first | (exfalso; omega) | (simp only [rI_rI, rJ_rJ, hI_rI, hJ_rI, hI_rJ, hJ_rJ, hI_rR, hR_rI, hR_rJ, hN_rI, hN_rJ, svH_63, svH_66, rfH_63, wvH_63, wvH_62, wvH_67, wvH_68, wvH_69, sc_63, sc_n62, sc_n67, sc_n68, sc_n69, sc_n70, reduceIte, Nat.reduceEqDiff, eq_self, up_up, up_self, up_ne, ne_eq, not_false_eq_true, Int.reduceEq, Int.reduceNeg] at h9; first | (exfalso; omega) | skip) | skip) | exact k2 | exact h2 | exact h2 (by omega) | omega | exact True.intro | (simp only [rI_rI, rJ_rJ, hI_rI, hJ_rI, hI_rJ, hJ_rJ, hI_rR, hR_rI, hR_rJ, hN_rI, hN_rJ, svH_63, svH_66, rfH_63, wvH_63, wvH_62, wvH_67, wvH_68, wvH_69, sc_63, sc_n62, sc_n67, sc_n68, sc_n69, sc_n70, reduceIte, Nat.reduceEqDiff, eq_self, up_up, up_self, up_ne, ne_eq, not_false_eq_true, Int.reduceEq, Int.reduceNeg]; omega))
theorem m_X3_variableWord : MM 56 s_X3_variableWord := mm_of (own := 2) (by rfl) k_X3_variableWord (cl := [(53, s_X3_spread)]) ⟨m_X3_spread, trivial⟩ o_X3_variableWord
/-- places of a node's planes and of its operands' -/
def Pl (to a b k : Int) : Prop := 0 ≤ k ∧ k ≤ 8 ∧ 8 ≤ to ∧ to ≤ 320 ∧ 0 ≤ a ∧ a + 8 ≤ to ∧ 0 ≤ b ∧ b + 8 ≤ to
def s_X3_add : CS := (zc 1, ap [(3, 43), (0, 0), (0, 0), (0, 0), (0, 0)] (fun to a b k h Rt X =>
Pl to a b k ∧ ∀ Q, Wr (hJ h 44) Q to k → Ln Q to k (fun l => (lw (hJ h 44) l a k.toNat + lw (hJ h 44) l b k.toNat) % p2 k) → Rt none (rJ h 44 Q)))
set_option maxRecDepth 100000 in
set_option maxHeartbeats 4000000 in
theorem o_X3_add : Obl true 0 12 (sp []) [] code_X3_add s_X3_add := by
  refine oblL (by rfl) [(6, [0, 1, 2, 3, 4, 5, 7])] ?_
  intro to r_to a r_a b r_b k r_k h Rt X hh hf hs
  obtain ⟨⟨a1, a2, a3, a4, a5, a6, a7, a8⟩, h2⟩ := hs
  refine ⟨fun m pc vs g => ∃ (i : Int) (Q : Int → Int64) (c : Int64), g = rJ h 44 Q ∧ vs = [.inr (.inr (some 43)), .inl to, .inl a, .inl b, .inl k, .inr (.inl c), .inl i] ∧ 0 ≤ i ∧ i ≤ k ∧ Wr (hJ h 44) Q to i ∧ AddI (hJ h 44) Q a b to i c ∧ m = (k - i).toNat, ?_, ?_⟩
  · repeat' (first | apply And.intro | (with_reducible assumption) | (intro h9; first | (exfalso; omega) | (simp only [rI_rI, rJ_rJ, hI_rI, hJ_rI, hI_rJ, hJ_rJ, hI_rR, hR_rI, hR_rJ, hN_rI, hN_rJ, svH_63, svH_66, rfH_63, wvH_63, wvH_62, wvH_67, wvH_68, wvH_69, sc_63, sc_n62, sc_n67, sc_n68, sc_n69, sc_n70, reduceIte, Nat.reduceEqDiff, eq_self, up_up, up_self, up_ne, ne_eq, not_false_eq_true, Int.reduceEq, Int.reduceNeg] at h9; first | (exfalso; omega) | skip) | skip) | exact Exists.intro _ ⟨0, hJ h 44, 0, (rJ_id h 44).symm, rfl, by omega, by omega, Wr.z _ _, AddI.z _ _ _ _, rfl⟩ | exact h2 | exact h2 (by omega) | omega | exact True.intro | (simp only [rI_rI, rJ_rJ, hI_rI, hJ_rI, hI_rJ, hJ_rJ, hI_rR, hR_rI, hR_rJ, hN_rI, hN_rJ, svH_63, svH_66, rfH_63, wvH_63, wvH_62, wvH_67, wvH_68, wvH_69, sc_63, sc_n62, sc_n67, sc_n68, sc_n69, sc_n70, reduceIte, Nat.reduceEqDiff, eq_self, up_up, up_self, up_ne, ne_eq, not_false_eq_true, Int.reduceEq, Int.reduceNeg]; omega))
  · rintro m pc live vs g hl ⟨i, Q, c, rfl, rfl, i1, i2, i3, i4, rfl⟩ hv hh1 hf1
    obtain ⟨rfl, rfl⟩ := look1 hl
    by_cases z : i < k
    · have e1 : hJ (rJ h 44 Q) 44 (a + i) = hJ h 44 (a + i) := i3.o _ (by omega)
      have e2 : hJ (rJ h 44 Q) 44 (b + i) = hJ h 44 (b + i) := i3.o _ (by omega)
      have i5 := i4.st i1
      rw [← e1, ← e2] at i5
      repeat' (first | apply And.intro | (with_reducible assumption) | (intro h9; first | (exfalso; omega) | (simp only [rI_rI, rJ_rJ, hI_rI, hJ_rI, hI_rJ, hJ_rJ, hI_rR, hR_rI, hR_rJ, hN_rI, hN_rJ, svH_63, svH_66, rfH_63, wvH_63, wvH_62, wvH_67, wvH_68, wvH_69, sc_63, sc_n62, sc_n67, sc_n68, sc_n69, sc_n70, reduceIte, Nat.reduceEqDiff, eq_self, up_up, up_self, up_ne, ne_eq, not_false_eq_true, Int.reduceEq, Int.reduceNeg] at h9; first | (exfalso; omega) | skip) | skip) | exact Exists.intro _ ⟨by omega, i + 1, _, _, rJ_44 _ _ _ _, rfl, by omega, by omega, i3.st _ i1, i5, rfl⟩ | exact h2 | exact h2 (by omega) | omega | exact True.intro | (simp only [rI_rI, rJ_rJ, hI_rI, hJ_rI, hI_rJ, hJ_rJ, hI_rR, hR_rI, hR_rJ, hN_rI, hN_rJ, svH_63, svH_66, rfH_63, wvH_63, wvH_62, wvH_67, wvH_68, wvH_69, sc_63, sc_n62, sc_n67, sc_n68, sc_n69, sc_n70, reduceIte, Nat.reduceEqDiff, eq_self, up_up, up_self, up_ne, ne_eq, not_false_eq_true, Int.reduceEq, Int.reduceNeg]; omega))
    · obtain rfl : i = k := by omega
      have k2 := h2 Q i3 (i4.fin i1)
      repeat' (first | apply And.intro | (with_reducible assumption) | (intro h9; first | (exfalso; omega) | (simp only [rI_rI, rJ_rJ, hI_rI, hJ_rI, hI_rJ, hJ_rJ, hI_rR, hR_rI, hR_rJ, hN_rI, hN_rJ, svH_63, svH_66, rfH_63, wvH_63, wvH_62, wvH_67, wvH_68, wvH_69, sc_63, sc_n62, sc_n67, sc_n68, sc_n69, sc_n70, reduceIte, Nat.reduceEqDiff, eq_self, up_up, up_self, up_ne, ne_eq, not_false_eq_true, Int.reduceEq, Int.reduceNeg] at h9; first | (exfalso; omega) | skip) | skip) | exact k2 | exact h2 | exact h2 (by omega) | omega | exact True.intro | (simp only [rI_rI, rJ_rJ, hI_rI, hJ_rI, hI_rJ, hJ_rJ, hI_rR, hR_rI, hR_rJ, hN_rI, hN_rJ, svH_63, svH_66, rfH_63, wvH_63, wvH_62, wvH_67, wvH_68, wvH_69, sc_63, sc_n62, sc_n67, sc_n68, sc_n69, sc_n70, reduceIte, Nat.reduceEqDiff, eq_self, up_up, up_self, up_ne, ne_eq, not_false_eq_true, Int.reduceEq, Int.reduceNeg]; omega))
theorem m_X3_add : MM 58 s_X3_add := mm_of (own := 2) (by rfl) k_X3_add (cl := []) trivial o_X3_add
def s_X3_subtract : CS := (zc 1, ap [(3, 43), (0, 0), (0, 0), (0, 0), (0, 0)] (fun to a b k h Rt X =>
Pl to a b k ∧ ∀ Q, Wr (hJ h 44) Q to k → Ln Q to k (fun l => (lw (hJ h 44) l a k.toNat - lw (hJ h 44) l b k.toNat) % p2 k) → Rt none (rJ h 44 Q)))
set_option maxRecDepth 100000 in
set_option maxHeartbeats 4000000 in
theorem o_X3_subtract : Obl true 0 12 (sp []) [] code_X3_subtract s_X3_subtract := by
  refine oblL (by rfl) [(6, [0, 1, 2, 3, 4, 5, 7])] ?_
  intro to r_to a r_a b r_b k r_k h Rt X hh hf hs
  obtain ⟨⟨a1, a2, a3, a4, a5, a6, a7, a8⟩, h2⟩ := hs
  refine ⟨fun m pc vs g => ∃ (i : Int) (Q : Int → Int64) (c : Int64), g = rJ h 44 Q ∧ vs = [.inr (.inr (some 43)), .inl to, .inl a, .inl b, .inl k, .inr (.inl c), .inl i] ∧ 0 ≤ i ∧ i ≤ k ∧ Wr (hJ h 44) Q to i ∧ SubI (hJ h 44) Q a b to i c ∧ m = (k - i).toNat, ?_, ?_⟩
  · repeat' (first | apply And.intro | (with_reducible assumption) | (intro h9; first | (exfalso; omega) | (simp only [rI_rI, rJ_rJ, hI_rI, hJ_rI, hI_rJ, hJ_rJ, hI_rR, hR_rI, hR_rJ, hN_rI, hN_rJ, svH_63, svH_66, rfH_63, wvH_63, wvH_62, wvH_67, wvH_68, wvH_69, sc_63, sc_n62, sc_n67, sc_n68, sc_n69, sc_n70, reduceIte, Nat.reduceEqDiff, eq_self, up_up, up_self, up_ne, ne_eq, not_false_eq_true, Int.reduceEq, Int.reduceNeg] at h9; first | (exfalso; omega) | skip) | skip) | exact Exists.intro _ ⟨0, hJ h 44, 0, (rJ_id h 44).symm, rfl, by omega, by omega, Wr.z _ _, SubI.z _ _ _ _, rfl⟩ | exact h2 | exact h2 (by omega) | omega | exact True.intro | (simp only [rI_rI, rJ_rJ, hI_rI, hJ_rI, hI_rJ, hJ_rJ, hI_rR, hR_rI, hR_rJ, hN_rI, hN_rJ, svH_63, svH_66, rfH_63, wvH_63, wvH_62, wvH_67, wvH_68, wvH_69, sc_63, sc_n62, sc_n67, sc_n68, sc_n69, sc_n70, reduceIte, Nat.reduceEqDiff, eq_self, up_up, up_self, up_ne, ne_eq, not_false_eq_true, Int.reduceEq, Int.reduceNeg]; omega))
  · rintro m pc live vs g hl ⟨i, Q, c, rfl, rfl, i1, i2, i3, i4, rfl⟩ hv hh1 hf1
    obtain ⟨rfl, rfl⟩ := look1 hl
    by_cases z : i < k
    · have e1 : hJ (rJ h 44 Q) 44 (a + i) = hJ h 44 (a + i) := i3.o _ (by omega)
      have e2 : hJ (rJ h 44 Q) 44 (b + i) = hJ h 44 (b + i) := i3.o _ (by omega)
      have i5 := i4.st i1
      rw [← e1, ← e2] at i5
      repeat' (first | apply And.intro | (with_reducible assumption) | (intro h9; first | (exfalso; omega) | (simp only [rI_rI, rJ_rJ, hI_rI, hJ_rI, hI_rJ, hJ_rJ, hI_rR, hR_rI, hR_rJ, hN_rI, hN_rJ, svH_63, svH_66, rfH_63, wvH_63, wvH_62, wvH_67, wvH_68, wvH_69, sc_63, sc_n62, sc_n67, sc_n68, sc_n69, sc_n70, reduceIte, Nat.reduceEqDiff, eq_self, up_up, up_self, up_ne, ne_eq, not_false_eq_true, Int.reduceEq, Int.reduceNeg] at h9; first | (exfalso; omega) | skip) | skip) | exact Exists.intro _ ⟨by omega, i + 1, _, _, rJ_44 _ _ _ _, rfl, by omega, by omega, i3.st _ i1, i5, rfl⟩ | exact h2 | exact h2 (by omega) | omega | exact True.intro | (simp only [rI_rI, rJ_rJ, hI_rI, hJ_rI, hI_rJ, hJ_rJ, hI_rR, hR_rI, hR_rJ, hN_rI, hN_rJ, svH_63, svH_66, rfH_63, wvH_63, wvH_62, wvH_67, wvH_68, wvH_69, sc_63, sc_n62, sc_n67, sc_n68, sc_n69, sc_n70, reduceIte, Nat.reduceEqDiff, eq_self, up_up, up_self, up_ne, ne_eq, not_false_eq_true, Int.reduceEq, Int.reduceNeg]; omega))
    · obtain rfl : i = k := by omega
      have k2 := h2 Q i3 (i4.fin i1)
      repeat' (first | apply And.intro | (with_reducible assumption) | (intro h9; first | (exfalso; omega) | (simp only [rI_rI, rJ_rJ, hI_rI, hJ_rI, hI_rJ, hJ_rJ, hI_rR, hR_rI, hR_rJ, hN_rI, hN_rJ, svH_63, svH_66, rfH_63, wvH_63, wvH_62, wvH_67, wvH_68, wvH_69, sc_63, sc_n62, sc_n67, sc_n68, sc_n69, sc_n70, reduceIte, Nat.reduceEqDiff, eq_self, up_up, up_self, up_ne, ne_eq, not_false_eq_true, Int.reduceEq, Int.reduceNeg] at h9; first | (exfalso; omega) | skip) | skip) | exact k2 | exact h2 | exact h2 (by omega) | omega | exact True.intro | (simp only [rI_rI, rJ_rJ, hI_rI, hJ_rI, hI_rJ, hJ_rJ, hI_rR, hR_rI, hR_rJ, hN_rI, hN_rJ, svH_63, svH_66, rfH_63, wvH_63, wvH_62, wvH_67, wvH_68, wvH_69, sc_63, sc_n62, sc_n67, sc_n68, sc_n69, sc_n70, reduceIte, Nat.reduceEqDiff, eq_self, up_up, up_self, up_ne, ne_eq, not_false_eq_true, Int.reduceEq, Int.reduceNeg]; omega))
theorem m_X3_subtract : MM 59 s_X3_subtract := mm_of (own := 2) (by rfl) k_X3_subtract (cl := []) trivial o_X3_subtract

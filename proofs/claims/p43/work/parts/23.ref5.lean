/-! ===== the reference: the calls that make nodes ===== -/
/-- what a call that makes a node gives: found, no room, new -/
def mkR (h : Hp) (q k wd a b c x y : Int) (Rt : Option AV → Hp → Prop) : Prop :=
  (found (hI h 63) k wd a b c x y ≠ -1 → Rt (some (.inl (found (hI h 63) k wd a b c x y))) (mdF h)) ∧ (found (hI h 63) k wd a b c x y = -1 → hI h 63 0 = 40 → Rt (some (.inl 0)) (rfH h q)) ∧
    (found (hI h 63) k wd a b c x y = -1 → hI h 63 0 < 40 → Rt (some (.inl (hI h 63 0))) (mdN h k wd a b c x y))
theorem rfH_rfH (h : Hp) (x y : Int) : rfH (rfH h x) y = rfH h y := by
  unfold rfH
  simp only [rI_rI, rJ_rJ, hI_rI, hJ_rI, hI_rJ, hJ_rJ, hR_rI, hR_rJ, hN_rI, hN_rJ, reduceIte, Nat.reduceEqDiff, eq_self, up_up, up_self, up_ne, ne_eq, not_false_eq_true, Int.reduceEq, Int.reduceNeg, svH_63, rfH_63]
theorem mdF_rf (h : Hp) (x : Int) : mdF (rfH h x) = mdF h := by
  unfold mdF
  rw [rfH_rfH]
theorem mdN_rf (h : Hp) (u k wd a b c x y : Int) : mdN (rfH h u) k wd a b c x y = mdN h k wd a b c x y := by
  unfold mdN
  rw [rfH_rfH]
  rfl
theorem mkR_rf {h : Hp} {u q k wd a b c x y : Int} {Rt : Option AV → Hp → Prop} (hs : mkR h q k wd a b c x y Rt) : mkR (rfH h u) q k wd a b c x y Rt := by
  obtain ⟨h1, h2, h3⟩ := hs
  refine ⟨fun z => ?_, fun z z2 => ?_, fun z z2 => ?_⟩
  · rw [mdF_rf]; exact h1 z
  · rw [rfH_rfH]; exact h2 z z2
  · rw [mdN_rf]; exact h3 z z2
/-- sizes that hold always -/
def Sz (h : Hp) : Prop := 0 ≤ hI h 63 0 ∧ hI h 63 0 ≤ 40 ∧ 0 ≤ hI h 62 3 ∧ hI h 62 3 ≤ 5 ∧ ∀ n, 0 ≤ n → n < hI h 63 0 → 1 ≤ nd (hI h 63) n 1 ∧ nd (hI h 63) n 1 ≤ 8
theorem Sz.rf {h : Hp} (s : Sz h) (x : Int) : Sz (rfH h x) := s
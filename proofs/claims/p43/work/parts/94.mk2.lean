/-! ===== the reference and the class: all steps made ===== -/
theorem bsR_ok {K N X w : Int → Int} {m : Int} (hW : WF w) (h : StP K N X m) {t : Nat} (ht : (t : Int) < m) (hm : bsM K N X w t) : MkO (bsS K N X w t).1 (bsR K N X w t) := by
  have i := bsI.all hW h t (by omega) hm
  have o := bsI.ops h ht i
  exact mk2_ok i.o.1 o.1 o.2
theorem bsM.s {K N X w : Int → Int} {t : Nat} (h : bsM K N X w t) (e : (bsR K N X w t).1 ≠ -1) : bsM K N X w (t + 1) := Box.i fun s q => by
  by_cases z : s = t
  · subst z; exact e
  · exact h.o s (by omega)
def MaQ (h : Hp) (r : Rw) (m : Nat) (vs : List AV) (g : Hp) : Prop := ∃ (t : Nat) (f : Int → Int), g = rI (rI h 63 (bsS (r 52) (r 53) (r 54) (hI h 63) t).1) 74 f ∧ vs = [.inr (.inr (some 62)), .inl (szF (r 52) t), .inl (t : Int)] ∧ (t : Int) ≤ pS r ∧ bsM (r 52) (r 53) (r 54) (hI h 63) t ∧ (∀ i, 0 ≤ i → i < szF (r 52) t → f i = (bsS (r 52) (r 53) (r 54) (hI h 63) t).2 i) ∧ m = (pS r - t).toNat
theorem MaQ.st {h : Hp} {r : Rw} (hS : StP (r 52) (r 53) (r 54) (pS r)) {t : Nat} {f : Int → Int} (ht : (t : Int) < pS r) (hm : bsM (r 52) (r 53) (r 54) (hI h 63) t) (hf : ∀ i, 0 ≤ i → i < szF (r 52) t → f i = (bsS (r 52) (r 53) (r 54) (hI h 63) t).2 i)
    {x p : Int} {u : Int → Int} (hx : x = (bsR (r 52) (r 53) (r 54) (hI h 63) t).1) (hn : x ≠ -1) (hu : u = (bsR (r 52) (r 53) (r 54) (hI h 63) t).2) (hp : p = szF (r 52) t - opc (r 52 t)) : ∃ k', k' < (pS r - t).toNat ∧ MaQ h r k' [.inr (.inr (some 62)), .inl (p + 1), .inl ((t : Int) + 1)] (rI (rI h 63 u) 74 (up f p x)) := by
  have oc := opc_rng (r 52 t)
  subst hx hu hp
  refine ⟨(pS r - (t + 1 : Nat)).toNat, by omega, t + 1, _, rfl, ?_, by omega, hm.s hn, fun i i0 i1 => ?_, rfl⟩
  · rw [szF_n]
    rfl
  · rw [szF_n] at i1
    rw [bsS_s]
    show up f _ _ i = up (bsS (r 52) (r 53) (r 54) (hI h 63) t).2 _ _ i
    by_cases e : i = szF (r 52) t - opc (r 52 t)
    · rw [e, up_self, up_self]
    · rw [up_ne e, up_ne e]
      exact hf i i0 (by omega)
theorem rI_o6 (h : Hp) (u v f : Int → Int) : rI (rI (rI h 63 u) 74 f) 63 v = rI (rI h 63 v) 74 f := by
  rw [rI_comm _ (by decide : (74 : Nat) ≠ 63), rI_rI]
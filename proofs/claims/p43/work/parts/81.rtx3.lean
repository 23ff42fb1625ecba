/-! ===== the reference: constants ===== -/
def tkF (f : Int → Int) (t k x y : Int) : Int → Int := up (up (up f (3 * t) k) (3 * t + 1) x) (3 * t + 2) y
/-- a constant is wanted from a on: the place of the error -/
def ctX (r : Rw) (a e : Int) : Prop := Box ((isD (tA r (cnS r 3 a 0).1) ∧ e = (cnS r 3 a 0).1) ∨ (¬ isD (tA r (cnS r 3 a 0).1) ∧ tA r (spk r (cnS r 3 a 0).1) ≠ 58 ∧ e = spk r (cnS r 3 a 0).1) ∨ (¬ isD (tA r (cnS r 3 a 0).1) ∧ tA r (spk r (cnS r 3 a 0).1) = 58 ∧ dgX r (spk r (cnS r 3 a 0).1 + 1) e))
theorem pz0 {F G : Int → Int} {p : Int} (h : Pz F p G) (h0 : 0 ≤ p) : 0 ≤ G 19 := by rw [h.o.1]; exact h0
theorem pz1 {F G : Int → Int} {p L : Int} (h : Pz F p G) (h0 : p ≤ L) : G 19 ≤ L := by rw [h.o.1]; exact h0
theorem pzj {F G : Int → Int} {p : Int} (h : Pz F p G) {j : Int} (h1 : j ≠ 19) (h2 : j ≠ 20) : G j = F j := h.o.2 j h1 h2
/-- what a constant makes -/
def ctO (h : Hp) (r : Rw) (a : Int) (G : Int → Int) (Rt : Option AV → Hp → Prop) : Prop := Box (¬ isD (tA r (cnS r 3 a 0).1) → tA r (spk r (cnS r 3 a 0).1) = 58 → isD (tA r (spk r (spk r (cnS r 3 a 0).1 + 1))) → ¬ isD (tA r (spk r (spk r (cnS r 3 a 0).1 + 1) + 1)) →
  ∀ F, Pz G (spk r (spk r (cnS r 3 a 0).1 + 1) + 1) F → Rt (some (.inl 1)) (rI (rI h 71 (tkF (hI h 71) (G 15) 0 (cnS r 3 a 0).2 (tA r (spk r (spk r (cnS r 3 a 0).1 + 1)) - 48))) 62 (up F 15 (G 15 + 1))))
theorem rI_ov (h : Hp) {a b : Nat} (e : a ≠ b) (X Y Z : Int → Int) : rI (rI (rI h a X) b Y) a Z = rI (rI h b Y) a Z := by
  unfold rI
  congr 2
  funext q
  show (if q = a then Z else if q = b then Y else if q = a then X else h.2.1 q) = (if q = a then Z else if q = b then Y else h.2.1 q)
  by_cases e1 : q = a
  · rw [if_pos e1, if_pos e1]
  · rw [if_neg e1, if_neg e1, if_neg e1]
theorem pzR1 {F G K : Int → Int} {p q d : Int} (h : Pz F p G) (g : Pd G q d K) (e : 0 ≤ F 15) : 0 ≤ K 15 := by rw [(h.td g).o.2.2 15 (by decide) (by decide)]; exact e
theorem pzR2 {F G K : Int → Int} {p q d : Int} (h : Pz F p G) (g : Pd G q d K) (e : F 15 < 60) : K 15 < 60 := by rw [(h.td g).o.2.2 15 (by decide) (by decide)]; exact e
theorem ct_e {g : Hp} {r : Rw} {a p n : Int} {Rt : Option AV → Hp → Prop} {F G : Int → Int} (e : cnS r 3 a 0 = (p, n)) (h4 : ctO g r a (hI g 62) Rt) (hp : hI g 62 19 = p) (x1 : ¬ isD (tA r (hI g 62 19))) (x2 : tA r (spk r (hI g 62 19)) = 58) (hF : Pz (hI g 62) (spk r (hI g 62 19) + 1) F) (x3 : isD (tA r (spk r (F 19)))) (x4 : ¬ isD (tA r (spk r (F 19) + 1))) (hG : Pd F (spk r (F 19) + 1) (tA r (spk r (F 19)) - 48) G) :
    Rt (some (.inl 1)) (rI (rI (rI g 62 G) 71 (tkF (hI g 71) (G 15) 0 n (G 20))) 62 (up G 15 (G 15 + 1))) := by
  have z := hF.td hG
  have q := h4.o
  rw [e] at q
  dsimp only at q
  rw [hp] at x1 x2 hF
  rw [hF.o.1] at x3 x4 z hG
  have k := q x1 x2 x3 x4 G z.z
  rw [rI_ov g (show (62 : Nat) ≠ 71 by decide), z.o.2.2 15 (by decide) (by decide), z.o.2.1]
  exact k
/-- behind the digits of a constant -/
theorem ct_b {h g : Hp} {r : Rw} {a p n : Int} {Rt : Option AV → Hp → Prop} (hg : g = rI h 62 (up (hI h 62) 19 p)) (e : cnS r 3 a 0 = (p, n)) (h3 : ∀ e F, ctX r a e → Pz (hI h 62) e F → Rt (some (.inl 0)) (rI h 62 F)) (h4 : ctO h r a (hI h 62) Rt) :
    (∀ e F, ctX r a e → Pz (hI g 62) e F → Rt (some (.inl 0)) (rI g 62 F)) ∧ ctO g r a (hI g 62) Rt := by
  have P : Pz (hI h 62) p (hI g 62) := by rw [hg]; exact Pz.up _ _
  constructor
  · intro e F hx hp
    have := h3 e F hx (P.tr hp)
    rw [hg, rI_rI]
    exact this
  · refine Box.i fun a1 a2 a3 a4 F hp => ?_
    have := h4.o a1 a2 a3 a4 F (P.tr hp)
    have e15 : hI g 62 15 = hI h 62 15 := pzj P (show (15 : Int) ≠ 19 by decide) (show (15 : Int) ≠ 20 by decide)
    have e71 : hI g 71 = hI h 71 := by rw [hg]; rfl
    rw [e15, e71]
    refine rt_eq this rfl ?_
    rw [hg]
    exact (rI_ov h (show (62 : Nat) ≠ 71 by decide) _ _ _).symm
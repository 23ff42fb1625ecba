/-! ===== the reference: digits, constants ===== -/
/-- the place is p, the digit any -/
def Pz (F : Int → Int) (p : Int) (G : Int → Int) : Prop := Box (G 19 = p ∧ ∀ j, j ≠ 19 → j ≠ 20 → G j = F j)
/-- the place is p, the digit d -/
def Pd (F : Int → Int) (p d : Int) (G : Int → Int) : Prop := Box (G 19 = p ∧ G 20 = d ∧ ∀ j, j ≠ 19 → j ≠ 20 → G j = F j)
theorem Pd.z {F G : Int → Int} {p d : Int} (h : Pd F p d G) : Pz F p G := Box.i ⟨h.o.1, h.o.2.2⟩
theorem Pz.up (F : Int → Int) (p : Int) : Pz F p (up F 19 p) := Box.i ⟨up_self _ _ _, fun _ a _ => up_ne a⟩
theorem Pz.up2 {F G : Int → Int} {p : Int} (h : Pz F p G) (q : Int) : Pz F q (CWordSolverLaw_law_r6868_1636c8.up G 19 q) := Box.i ⟨up_self _ _ _, fun j a b => by rw [up_ne a]; exact h.o.2 j a b⟩
theorem Pz.tr {F G K : Int → Int} {p q : Int} (h : Pz F p G) (g : Pz G q K) : Pz F q K := Box.i ⟨g.o.1, fun j a b => by rw [g.o.2 j a b, h.o.2 j a b]⟩
theorem Pz.td {F G K : Int → Int} {p q d : Int} (h : Pz F p G) (g : Pd G q d K) : Pd F q d K := Box.i ⟨g.o.1, g.o.2.1, fun j a b => by rw [g.o.2.2 j a b, h.o.2 j a b]⟩
theorem Pd.up (F : Int → Int) (a p d : Int) : Pd F p d (CWordSolverLaw_law_r6868_1636c8.up (CWordSolverLaw_law_r6868_1636c8.up (CWordSolverLaw_law_r6868_1636c8.up F 19 a) 20 d) 19 p) := Box.i ⟨up_self _ _ _, by rw [up_ne (by decide), up_self], fun j h1 h2 => by rw [up_ne h1, up_ne h2, up_ne h1]⟩
theorem TeQ.z {h : Hp} {r : Rw} {F : Int → Int} {p : Int} (t : TeQ (hI h) r) (g : Pz (hI h 62) p F) : TeQ (hI (rI h 62 F)) r := by
  obtain ⟨t1, t2, t3, t4⟩ := t.o
  exact Box.i ⟨(g.o.2 6 (by decide) (by decide)).trans t1, t2, t3, t4⟩
/-- a digit alone is wanted from p on: the place where it is not there -/
def dgX (r : Rw) (p e : Int) : Prop := Box ((¬ isD (tA r (spk r p)) ∧ e = spk r p) ∨ (isD (tA r (spk r p)) ∧ isD (tA r (spk r p + 1)) ∧ e = spk r p + 1))
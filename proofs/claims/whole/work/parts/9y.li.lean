/-! ===== what holds between two calls of the law ===== -/
def Ot (w u : Int → Int) : Prop := Box (∀ j, (j < 0 ∨ 349 ≤ j) → u j = w j)
theorem Ot.rf (w : Int → Int) : Ot w w := Box.i fun _ _ => rfl
theorem Ot.tr {w u x : Int → Int} (a : Ot w u) (b : Ot u x) : Ot w x := Box.i fun j h => (b.o j h).trans (a.o j h)
theorem Ot.up (w : Int → Int) {j : Int} (h : 0 ≤ j ∧ j < 349) (x : Int) : Ot w (CWordSolverLaw_law_r9643_f7b4c7.up w j x) := Box.i fun k hk => up_ne (by omega)
def pt (w ps : Int → Int) (i : Int) : Int → Int := fun j => if 0 ≤ j ∧ j < 349 then ps (349 * i + j) else w j
theorem pt_ot {w u : Int → Int} (o : Ot w u) (ps : Int → Int) (i : Int) : pt u ps i = pt w ps i := by
  funext j
  unfold pt
  split
  · rfl
  · exact o.o j (by omega)
theorem Ot.pt (w ps : Int → Int) (i : Int) : Ot w (CWordSolverLaw_law_r9643_f7b4c7.pt w ps i) := Box.i fun j h => if_neg (by omega)
theorem pt_row (w ps : Int → Int) (i : Int) {j : Int} (h0 : 0 ≤ j) (h1 : j < 349) : pt w ps i j = rowP ps i j := if_pos ⟨h0, h1⟩
theorem pt_w {w ps : Int → Int} {i : Int} {u : Int → Int} (o : Ot u w) (e : ∀ j, 0 ≤ j → j < 349 → ps (349 * i + j) = u j) : pt w ps i = u := by
  funext j
  unfold pt
  split
  · exact e j (by omega) (by omega)
  · exact o.o j (by omega)
theorem Pfx.tr {u w x : Int → Int} (a : Pfx u w) (b : Pfx w x) : Pfx u x := by
  obtain ⟨a0, a1, a2, a3, a4, a5, a6⟩ := a.o
  obtain ⟨b0, b1, b2, b3, b4, b5, b6⟩ := b.o
  refine Box.i ⟨a0, by omega, a2, by omega, fun n j n0 n1 j0 j1 => (a4 n j n0 n1 j0 j1).trans (b4 n j n0 (by omega) j0 j1), fun v v0 v1 => ⟨(a5 v v0 v1).1.trans (b5 v v0 (by omega)).1, (a5 v v0 v1).2⟩, fun v v0 v1 => ?_⟩
  by_cases z : v < w 281
  · have := a6 v v0 z
    have := (b5 v (by omega) z).1
    omega
  · have := b6 v (by omega) v1
    omega
def HC (w ps : Int → Int) (s : Int) : Prop := Box (∀ i, 0 ≤ i → i < s → WF (pt w ps i) ∧ Pfx (pt w ps i) w ∧ ∀ k, i < k → k < s → Pfx (pt w ps i) (pt w ps k))
theorem HC.keep {w u ps : Int → Int} {s : Int} (h : HC w ps s) (p : Pfx w u) (o : Ot w u) : HC u ps s := Box.i fun i i0 i1 => by
  obtain ⟨a, b, c⟩ := h.o i i0 i1
  rw [pt_ot o]
  exact ⟨a, b.tr p, fun k k0 k1 => by rw [pt_ot o]; exact c k k0 k1⟩
theorem HC.undo {w ps : Int → Int} {s : Int} (h : HC w ps s) (h0 : 0 < s) : HC (pt w ps (s - 1)) ps (s - 1) := Box.i fun i i0 i1 => by
  obtain ⟨a, b, c⟩ := h.o i i0 (by omega)
  rw [pt_ot (Ot.pt w ps (s - 1))]
  exact ⟨a, c (s - 1) i1 (by omega), fun k k0 k1 => by rw [pt_ot (Ot.pt w ps (s - 1))]; exact c k k0 (by omega)⟩
theorem sv_row {ps w : Int → Int} {s i j : Int} (hs : 0 ≤ s ∧ s ≤ 5) (i0 : 0 ≤ i) (i1 : i < svS s) (j0 : 0 ≤ j) (j1 : j < 349) : svPp ps s w (349 * i + j) = if i = svS s - 1 then w j else ps (349 * (if s = 5 then i + 1 else i) + j) := by
  unfold svPp svS at *
  by_cases e : s = 5
  · rw [if_pos e] at i1 ⊢
    rw [if_pos e, if_pos e]
    by_cases z : i = 5 - 1
    · rw [if_pos z]
      unfold pPut
      rw [if_pos (by omega)]
      congr 1
      omega
    · rw [if_neg z]
      unfold pPut
      rw [if_neg (by omega)]
      unfold pSh
      rw [if_pos (by omega)]
      congr 1
      omega
  · rw [if_neg e] at i1 ⊢
    rw [if_neg e, if_neg e]
    by_cases z : i = s + 1 - 1
    · rw [if_pos z]
      unfold pPut
      rw [if_pos (by omega)]
      congr 1
      omega
    · rw [if_neg z]
      unfold pPut
      rw [if_neg (by omega)]
theorem sv_pt {ps w u : Int → Int} {s i : Int} (hs : 0 ≤ s ∧ s ≤ 5) (o : Ot w u) (i0 : 0 ≤ i) (i1 : i < svS s) : pt u (svPp ps s w) i = if i = svS s - 1 then w else pt w ps (if s = 5 then i + 1 else i) := by
  rw [pt_ot o]
  by_cases z : i = svS s - 1
  · rw [if_pos z]
    refine pt_w (Ot.rf w) fun j j0 j1 => ?_
    rw [sv_row hs i0 i1 j0 j1, if_pos z]
  · rw [if_neg z]
    funext j
    unfold pt
    by_cases y : 0 ≤ j ∧ j < 349
    · rw [if_pos y, if_pos y, sv_row hs i0 i1 y.1 y.2, if_neg z]
    · rw [if_neg y, if_neg y]
theorem svS_v {s : Int} (hs : 0 ≤ s ∧ s ≤ 5) : (s = 5 ∧ svS s = 5) ∨ (s < 5 ∧ svS s = s + 1) := by
  unfold svS
  split <;> omega
theorem HC.save {w u ps : Int → Int} {s : Int} (h : HC w ps s) (hs : 0 ≤ s ∧ s ≤ 5) (hW : WF w) (p : Pfx w u) (o : Ot w u) : HC u (svPp ps s w) (svS s) := Box.i fun i i0 i1 => by
  have sv := svS_v hs
  rw [sv_pt hs o i0 i1]
  by_cases z : i = svS s - 1
  · rw [if_pos z]
    exact ⟨hW, p, fun k k0 k1 => by omega⟩
  · rw [if_neg z]
    obtain ⟨a, b, c⟩ := h.o (if s = 5 then i + 1 else i) (by split <;> omega) (by split <;> omega)
    refine ⟨a, b.tr p, fun k k0 k1 => ?_⟩
    rw [sv_pt hs o (by omega) k1]
    by_cases y : k = svS s - 1
    · rw [if_pos y]
      exact b
    · rw [if_neg y]
      exact c _ (by split <;> omega) (by split <;> omega)
def LI (h : Hp) : Prop := Box (CI h (hI h 63) (hI h 64) (hI h 62 3) ∧ FR (hI h 63) (hI h 62) (hI h 69) ∧ HC (hI h 63) (hI h 64) (hI h 62 3) ∧ TeQ (hI h) (hI h))

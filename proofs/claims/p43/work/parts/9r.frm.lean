/-! ===== what the reader leaves alone ===== -/
def Fo (r s : Rw) : Prop := ∀ a, (a < 51 ∨ 58 < a) → s a = r a
theorem Fo.rf (r : Rw) : Fo r r := fun _ _ => rfl
theorem Fo.tr {r s t : Rw} (a : Fo r s) (b : Fo s t) : Fo r t := fun x h => (b x h).trans (a x h)
theorem Fo.ur (r : Rw) {b : Nat} (hb : 51 ≤ b ∧ b ≤ 58) (f : Int → Int) : Fo r (CWordSolverLaw_law_r6868_1636c8.ur r b f) := fun a h => ur_ne (by omega)
theorem Fo.sF (r : Rw) (k x : Int) : Fo r (CWordSolverLaw_law_r6868_1636c8.sF r k x) := Fo.ur r (by decide) _
theorem Fo.av (r : Rw) : Fo r (avS r) := Fo.sF r _ _
theorem Fo.bd (r : Rw) : Fo r (bdS r) := Fo.sF r _ _
theorem Fo.sk (r : Rw) : Fo r (skS r) := Fo.sF r _ _
theorem Fo.dg (r : Rw) : Fo r (dgS r) := by
  unfold dgS
  split
  · split
    · exact (Fo.av r).tr (Fo.bd _)
    · exact Fo.av r
  · exact Fo.bd r
theorem Fo.ad (r : Rw) (k n x : Int) : Fo r (adS r k n x) := by
  unfold adS
  split
  · exact ((((Fo.ur r (by decide) _).tr (Fo.ur _ (by decide) _)).tr (Fo.ur _ (by decide) _)).tr (Fo.sF _ _ _)).tr (Fo.ur _ (by decide) _)
  · exact (((Fo.ur r (by decide) _).tr (Fo.ur _ (by decide) _)).tr (Fo.ur _ (by decide) _)).tr (Fo.sF _ _ _)
theorem Fo.cC (r : Rw) (n : Int) : Fo r (ctC r n) := by
  unfold ctC
  split
  · unfold ctD
    exact (((Fo.av r).tr (Fo.sk _)).tr (Fo.dg _)).tr (Fo.ad _ _ _ _)
  · exact Fo.bd r
theorem Fo.ct (r : Rw) : Fo r (ctS r) := by
  unfold ctS ctB
  split
  · exact (Fo.sF r _ _).tr (Fo.bd _)
  · exact ((Fo.sF r _ _).tr (Fo.sk _)).tr (Fo.cC _ _)
theorem Fo.oC (r : Rw) (a : Int) : Fo r (opC r a) := by
  unfold opC
  split
  · exact Fo.sF r _ _
  · unfold opD
    exact ((((Fo.ur r (by decide) _).tr (Fo.ur _ (by decide) _)).tr (Fo.ur _ (by decide) _)).tr (Fo.ur _ (by decide) _)).tr (Fo.sF _ _ _)
theorem Fo.op (r : Rw) : Fo r (opS r) := by
  unfold opS opB
  exact (((Fo.av r).tr (Fo.sk _)).tr (Fo.sF _ _ _)).tr (Fo.oC _ _)
theorem Fo.lf (r : Rw) : Fo r (lfS r) := by
  unfold lfS
  split
  · exact ((Fo.av r).tr (Fo.dg _)).tr (Fo.ad _ _ _ _)
  · split
    · exact Fo.ct r
    · exact Fo.bd r
theorem Fo.wd (r : Rw) : Fo r (wdS r) := by
  unfold wdS
  exact ((Fo.dg r).tr (Fo.ur _ (by decide) _)).tr (Fo.ur _ (by decide) _)
theorem Fo.cl (r : Rw) : Fo r (clS r) := by
  unfold clS
  split
  · exact ((Fo.av r).tr (Fo.sF _ _ _)).tr (Fo.ad _ _ _ _)
  · exact Fo.bd r
theorem Fo.tn (r : Rw) : Fo r (tnS r) := by
  unfold tnS
  split
  · exact Fo.av r
  · split
    · exact Fo.bd r
    · split
      · exact Fo.op r
      · split
        · exact Fo.lf r
        · split
          · exact Fo.wd r
          · exact Fo.cl r
theorem Fo.rs : ∀ (n : Nat) (r : Rw), Fo r (rsF n r) := by
  intro n
  induction n with
  | zero => intro r; exact Fo.rf r
  | succ n ih =>
    intro r
    unfold rsF
    split
    · exact (Fo.tn r).tr (ih _)
    · exact Fo.rf r
theorem Fo.fin (r : Rw) : Fo r (CWordSolverLaw_law_r6868_1636c8.fin r) := Fo.rs _ r
theorem Fo.st (r : Rw) : Fo r (stR r) := (((Fo.sF r _ _).tr (Fo.sF _ _ _)).tr (Fo.sF _ _ _)).tr (Fo.sF _ _ _)
theorem Fo.all (r : Rw) : Fo r (CWordSolverLaw_law_r6868_1636c8.fin (stR r)) := (Fo.st r).tr (Fo.fin _)
theorem CI.fo {h : Hp} {w ps : Int → Int} {s : Int} (c : CI h w ps s) {r : Rw} (f : Fo (hI h) r) : CI (wI h r) w ps s := by
  refine c.fc (fun a h1 h2 => f a (by omega)) rfl ?_ c.rn ⟨f 49 (by decide), f 50 (by decide)⟩
  show SK w (r 46) (hJ h 47)
  rw [f 46 (by decide)]
  exact c.sk
theorem Kp.fo {h : Hp} {r : Rw} (f : Fo (hI h) r) : Kp h (wI h r) := Kp.w fun a ha => f a (by omega)

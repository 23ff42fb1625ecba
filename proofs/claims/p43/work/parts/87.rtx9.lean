/-! ===== the reference: a node begins; parentheses end ===== -/
theorem TeQ.fr {H K r : Rw} (t : TeQ H r) (f : FrT H K) : TeQ K r := by
  obtain ⟨t1, t2, t3, t4⟩ := t.o
  refine Box.i ⟨(f.o.2 6 (by decide) (by decide) (by decide) (by decide)).trans t1, t2, t3, ?_⟩
  rw [f.o.1 66 (by decide) (by decide) (by decide) (by decide)]
  exact t4
theorem FrT.g {H F G : _} {e q : Int} {T : Int → Int} (h : Pz (H 62) e F) (hG : G = up F 15 q) : FrT H (ur (ur (ur H 62 F) 71 T) 62 G) := Box.i ⟨fun a h1 h2 h3 h4 => by rw [ur_ne h1, ur_ne h2, ur_ne h1], fun j h1 h2 h3 h4 => by rw [ur_self, hG, up_ne h1]; exact h.o.2 j h3 h4⟩
/-- the place of an error, a token more or not -/
theorem tn_e {h : Hp} {r : Rw} {Rt : Option AV → Hp → Prop} (h3 : ∀ H, FrT (hI h) H → H 62 19 = rdA (fin r) → 0 ≤ H 62 19 → Rt (some (.inl 0)) (wI h H)) {F : Int → Int} {e : Int} (hF : Pz (hI h 62) e F) (he : Er r e) : Rt (some (.inl 0)) (rI h 62 F) :=
  h3 (ur (hI h) 62 F) (FrT.z hF) (by rw [ur_self, hF.o.1, he.1]) (by rw [ur_self, hF.o.1]; exact he.2)
theorem tn_g {h : Hp} {r : Rw} {Rt : Option AV → Hp → Prop} (h3 : ∀ H, FrT (hI h) H → H 62 19 = rdA (fin r) → 0 ≤ H 62 19 → Rt (some (.inl 0)) (wI h H)) {F T : Int → Int} {e q : Int} (hF : Pz (hI h 62) e F) (he : Er r e) : Rt (some (.inl 0)) (rI (rI (rI h 62 F) 71 T) 62 (up F 15 q)) :=
  h3 (ur (ur (ur (hI h) 62 F) 71 T) 62 (up F 15 q)) (FrT.g hF rfl) (by rw [ur_self, up_ne (by decide), hF.o.1, he.1]) (by rw [ur_self, up_ne (by decide), hF.o.1]; exact he.2)
theorem pzA {F G : Int → Int} {p q : Int} (g : Pz (up F 19 p) q G) : Pz F q G := (Pz.up F p).tr g
theorem pdA {F G : Int → Int} {p q d : Int} (g : Pd (up F 19 p) q d G) : Pd F q d G := (Pz.up F p).td g
theorem pzB {F G : Int → Int} {p q : Int} (g : Pz (up F 19 p) q G) (h : 0 ≤ F 15) : 0 ≤ G 15 := by rw [pzj (pzA g) (by decide) (by decide)]; exact h
theorem pzC {F G : Int → Int} {p q : Int} (g : Pz (up F 19 p) q G) (h : F 15 < 60) : G 15 < 60 := by rw [pzj (pzA g) (by decide) (by decide)]; exact h
theorem pzD {F G : Int → Int} {p q : Int} (g : Pz (up F 19 p) q G) (h : 0 ≤ F 18) : 0 ≤ G 18 := by rw [pzj (pzA g) (by decide) (by decide)]; exact h
theorem pzE {F G : Int → Int} {p q : Int} (g : Pz (up F 19 p) q G) (h : F 18 < 60) : G 18 < 60 := by rw [pzj (pzA g) (by decide) (by decide)]; exact h
theorem spk_spk (r : Rw) (p : Int) : spk r (spk r p) = spk r p := spk_id (spk_ne r p)
/-! ===== a description read: texts, steps, what the steps make ===== -/
/-- the text has these characters from a place on -/
def Tp (T : Int → Int) (p : Int) (L : List Int) : Prop := ∀ i : Nat, i < L.length → T (p + (i : Int)) = L.getD i 0
theorem Tp.hd {T : Int → Int} {p c : Int} {L : List Int} (h : Tp T p (c :: L)) : T p = c := by
  have := h 0 (Nat.zero_lt_succ _)
  rw [show p + ((0 : Nat) : Int) = p by omega] at this
  exact this
theorem Tp.tl {T : Int → Int} {p c : Int} {L : List Int} (h : Tp T p (c :: L)) : Tp T (p + 1) L := fun i hi => by
  have := h (i + 1) (Nat.succ_lt_succ hi)
  rw [show p + ((i + 1 : Nat) : Int) = p + 1 + (i : Int) by omega] at this
  exact this
theorem Tp.cons {T : Int → Int} {p c : Int} {L : List Int} (h : T p = c) (k : Tp T (p + 1) L) : Tp T p (c :: L) := fun i hi => by
  cases i with
  | zero =>
    rw [show p + ((0 : Nat) : Int) = p by omega]
    exact h
  | succ i =>
    rw [show p + ((i + 1 : Nat) : Int) = p + 1 + (i : Int) by omega]
    exact k i (Nat.lt_of_succ_lt_succ hi)
theorem Tp.app {T : Int → Int} {B : List Int} : ∀ (A : List Int) {p : Int}, Tp T p (A ++ B) → Tp T p A ∧ Tp T (p + (A.length : Int)) B := by
  intro A
  induction A with
  | nil =>
    intro p h
    refine ⟨fun i hi => absurd hi (Nat.not_lt_zero _), ?_⟩
    rw [show p + (([] : List Int).length : Int) = p by show p + 0 = p; omega]
    exact h
  | cons c A ih =>
    intro p h
    have h : Tp T p (c :: (A ++ B)) := h
    obtain ⟨a, b⟩ := ih h.tl
    refine ⟨Tp.cons h.hd a, ?_⟩
    rw [List.length_cons, show p + ((A.length + 1 : Nat) : Int) = p + 1 + (A.length : Int) by omega]
    exact b
theorem Tp.end {T : Int → Int} {p c : Int} (A : List Int) {B : List Int} (h : Tp T p (A ++ c :: B)) : T (p + (A.length : Int)) = c := (Tp.app A h).2.hd
/-! the reader's states -/
def Rs (T : Int → Int) (M : Int) (F r : Rw) : Prop := Gd r ∧ fin r = F ∧ tA r = T ∧ r 49 1 = M
theorem Rs.st {T : Int → Int} {M : Int} {F r s : Rw} (h : Rs T M F r) (hp : T (pP r) ≠ -1) (e : tnS r = s) (e2 : pE s = -1) : Rs T M F s := by
  obtain ⟨g, f, t, m⟩ := h
  have lt : pP r < r 49 1 := (tA_in (by rw [t]; exact hp)).2
  have q := tn_step g lt
  have ft := fin_tn g lt
  have tt := tnS_T r
  rw [e] at q ft tt
  rcases q with q | q
  · exact absurd e2 q
  · exact ⟨q.1, ft.symm.trans f, (tA_c tt.1 tt.2).trans t, by rw [tt.1]; exact m⟩
theorem Rs.e {T : Int → Int} {M : Int} {F r : Rw} (h : Rs T M F r) : pE r = -1 := h.1.o.1
theorem Rs.pn {T : Int → Int} {M : Int} {F r : Rw} (h : Rs T M F r) : 0 ≤ pP r := h.1.o.2.2.2.1
theorem Rs.s0 {T : Int → Int} {M : Int} {F r : Rw} (h : Rs T M F r) : 0 ≤ pS r ∧ 0 ≤ pO r := ⟨h.1.o.2.2.2.2.2.2.o.1, h.1.o.2.2.2.2.2.2.o.2.1⟩
theorem Rs.t {T : Int → Int} {M : Int} {F r : Rw} (h : Rs T M F r) (k : Int) : tA r k = T k := by rw [h.2.2.1]
/-! the steps -/
/-- rows 55 to 58 and the steps are the same -/
def Ss (r s : Rw) : Prop := s 52 = r 52 ∧ s 53 = r 53 ∧ s 54 = r 54 ∧ pS s = pS r
def Os (r s : Rw) : Prop := pO s = pO r ∧ s 55 = r 55 ∧ s 56 = r 56 ∧ s 57 = r 57 ∧ s 58 = r 58
def zS (r : Rw) : Int := szF (r 52) (pS r).toNat
def stk (w : Int → Int) (r : Rw) : Int → Int := (bsS (r 52) (r 53) (r 54) w (pS r).toNat).2
def Bk (w : Int → Int) (r : Rw) : Prop := (bsS (r 52) (r 53) (r 54) w (pS r).toNat).1 = w ∧ bsM (r 52) (r 53) (r 54) w (pS r).toNat
theorem Ss.ev {r s : Rw} (h : Ss r s) (w : Int → Int) : zS s = zS r ∧ stk w s = stk w r ∧ (Bk w r → Bk w s) := by
  obtain ⟨h1, h2, h3, h4⟩ := h
  unfold zS stk Bk
  rw [h1, h2, h3, h4]
  exact ⟨rfl, rfl, fun q => q⟩
theorem bsS_cg {K N X K' N' X' w : Int → Int} : ∀ m : Nat, (∀ t : Int, 0 ≤ t → t < (m : Int) → K' t = K t ∧ N' t = N t ∧ X' t = X t) → bsS K' N' X' w m = bsS K N X w m ∧ szF K' m = szF K m := by
  intro m
  induction m with
  | zero => intro _; exact ⟨rfl, rfl⟩
  | succ m ih =>
    intro h
    obtain ⟨a, b⟩ := ih fun t t0 t1 => h t t0 (by omega)
    obtain ⟨k, n, x⟩ := h m (by omega) (by omega)
    rw [bsS_s, bsS_s, szF_n, szF_n]
    unfold bsR
    rw [a, b, k, n, x]
    exact ⟨rfl, rfl⟩
/-- a step more: what it makes -/
theorem ad_ev {w : Int → Int} {r : Rw} {k x y n : Int} (s0 : 0 ≤ pS r) (hb : Bk w r) (m : mk2 w k x y (stk w r (zS r - opc k)) (stk w r (zS r - opc k + 1)) (stk w r (zS r - opc k + 2)) = (n, w)) (hn : n ≠ -1) :
    pS (adS r k x y) = pS r + 1 ∧ zS (adS r k x y) = zS r - opc k + 1 ∧ Bk w (adS r k x y) ∧ stk w (adS r k x y) = up (stk w r) (zS r - opc k) n := by
  have e6 : pS (adS r k x y) = pS r + 1 := adS_6 r k x y
  obtain ⟨b1, b2⟩ := hb
  have cg := bsS_cg (K := r 52) (N := r 53) (X := r 54) (K' := up (r 52) (pS r) k) (N' := up (r 53) (pS r) x) (X' := up (r 54) (pS r) y) (w := w) (pS r).toNat fun t t0 t1 => ⟨up_ne (by omega), up_ne (by omega), up_ne (by omega)⟩
  have en : (pS r + 1).toNat = (pS r).toNat + 1 := by omega
  have ep : (((pS r).toNat : Nat) : Int) = pS r := by omega
  have R : bsR (up (r 52) (pS r) k) (up (r 53) (pS r) x) (up (r 54) (pS r) y) w (pS r).toNat = (n, w) := by
    unfold bsR
    rw [cg.1, cg.2, ep, up_self, up_self, up_self, b1]
    exact m
  have M : ∀ s : Nat, s < (pS r).toNat → bsR (up (r 52) (pS r) k) (up (r 53) (pS r) x) (up (r 54) (pS r) y) w s = bsR (r 52) (r 53) (r 54) w s := fun s hs => by
    have c := bsS_cg (K := r 52) (N := r 53) (X := r 54) (K' := up (r 52) (pS r) k) (N' := up (r 53) (pS r) x) (X' := up (r 54) (pS r) y) (w := w) s fun t t0 t1 => ⟨up_ne (by omega), up_ne (by omega), up_ne (by omega)⟩
    unfold bsR
    rw [c.1, c.2, up_ne (by omega), up_ne (by omega), up_ne (by omega)]
  refine ⟨e6, ?_, ⟨?_, ?_⟩, ?_⟩
  · unfold zS
    rw [e6, adS_52, en, szF_n, cg.2, ep, up_self]
  · rw [e6, adS_52, adS_53, adS_54, en, bsS_s, R]
  · rw [e6, adS_52, adS_53, adS_54, en]
    refine Box.i fun s hs => ?_
    by_cases z : s = (pS r).toNat
    · rw [z, R]
      exact hn
    · rw [M s (by omega)]
      exact b2.o s (by omega)
  · unfold stk zS
    rw [e6, adS_52, adS_53, adS_54, en, bsS_s, R, cg.1, cg.2, ep, up_self]
/-- a node that is there is made as it stands -/
theorem mk1_self {w : Int → Int} (hU : Uq w) {n : Int} (n0 : 0 ≤ n) (n1 : n < w 0) {k wd a b c x y : Int} (e0 : nd w n 0 = k) (e1 : nd w n 1 = wd) (e2 : nd w n 2 = a) (e3 : nd w n 3 = b) (e4 : nd w n 4 = c) (e5 : nd w n 5 = x) (e6 : nd w n 6 = y) : mk1 w k wd a b c x y = (n, w) := by
  subst e0 e1 e2 e3 e4 e5 e6
  unfold mk1
  rw [hU.found n0 n1, if_pos (by omega)]
/-- the number and the width that a node's step tells -/
def stN (w : Int → Int) (n : Int) : Int := if nd w n 0 ≤ 1 then nd w n 5 else if nd w n 0 = 21 then 10 * nd w n 5 + nd w n 6 else if nd w n 0 = 22 ∨ nd w n 0 = 23 then nd w n 1 else 0
def stX (w : Int → Int) (n : Int) : Int := if nd w n 0 = 0 then nd w n 1 else -1
theorem mk2_self {w : Int → Int} (hW : WF w) (hU : Uq w) {n : Int} (n0 : 0 ≤ n) (n1 : n < w 0) {a b c : Int} (ha : 0 < opc (nd w n 0) → a = nd w n 2) (hb : 1 < opc (nd w n 0) → b = nd w n 3) (hc : 2 < opc (nd w n 0) → c = nd w n 4) : mk2 w (nd w n 0) (stN w n) (stX w n) a b c = (n, w) := by
  have oc : opc (nd w n 0) = if nd w n 0 < 2 then 0 else if nd w n 0 ≤ 18 then 2 else if nd w n 0 = 24 then 3 else 1 := rfl
  obtain ⟨⟨k1, k2, k3, k4⟩, ⟨o1, o2, o3, o4, o5, o6⟩, p1, p2c, p3, p4, p5, p6, p7, p8, p9, q1, q2, q3, q4, q5, q6, q7⟩ := (hW.node n0 n1).o
  unfold mk2 stN stX
  by_cases c0 : nd w n 0 = 0
  · have v := p2c c0
    have f := p1 (by omega)
    have f6 := f.2.2.2
    rw [if_pos c0, if_pos c0, if_pos (show nd w n 0 ≤ 1 by omega), if_pos ⟨k3, k4, v.1, by omega⟩]
    exact mk1_self hU n0 n1 c0 rfl f.1 f.2.1 f.2.2.1 rfl f6
  rw [if_neg c0]
  by_cases c1 : nd w n 0 = 1
  · have v := p3 c1
    rw [if_pos c1, if_pos (show nd w n 0 ≤ 1 by omega), if_pos ⟨v.1, v.2.1⟩, v.2.2]
  rw [if_neg c1, if_neg (show ¬ nd w n 0 ≤ 1 by omega)]
  rw [if_neg (by omega)] at oc
  by_cases c2 : nd w n 0 ≤ 18
  · rw [if_pos c2] at oc ⊢
    have ea := ha (by omega)
    have eb := hb (by omega)
    subst ea eb
    have e4 := p8 (by omega)
    have e56 := p7 (by omega) (by omega)
    have bw : bW w (nd w n 0) (nd w n 2) (nd w n 3) = nd w n 1 := by
      show (if nd w n 0 = 18 then nd w (nd w n 2) 1 + nd w (nd w n 3) 1 else if 13 ≤ nd w n 0 then 1 else nd w (nd w n 2) 1) = _
      split
      · rename_i z
        exact (q3 z).symm
      · split
        · rename_i z y
          exact (q2 y (by omega)).1.symm
        · exact (q1 (by omega) (by omega)).1
    rw [if_pos (by
      by_cases z : nd w n 0 = 18
      · refine Or.inl ⟨z, ?_⟩
        have := q3 z
        omega
      · refine Or.inr ⟨z, ?_⟩
        by_cases y : nd w n 0 ≤ 12
        · have := q1 (by omega) y
          omega
        · exact (q2 (by omega) (by omega)).2)]
    exact mk1_self hU n0 n1 rfl bw.symm rfl rfl e4 e56.1 e56.2
  rw [if_neg c2] at oc ⊢
  have e4 : nd w n 0 ≠ 24 → nd w n 4 = -1 := p8
  by_cases c3 : nd w n 0 ≤ 20
  · rw [if_neg (by omega)] at oc
    rw [if_pos c3]
    have ea := ha (by omega)
    subst ea
    have e56 := p7 (by omega) (by omega)
    exact mk1_self hU n0 n1 rfl (q4 (by omega)).symm rfl (p9 (by omega) (by omega)) (e4 (by omega)) e56.1 e56.2
  rw [if_neg c3]
  by_cases c4 : nd w n 0 = 21
  · rw [if_neg (by omega)] at oc
    rw [if_pos c4, if_pos c4]
    have ea := ha (by omega)
    subst ea
    have v := q5 c4
    have wa := hW.wd (n := nd w n 2) (by have := p4 (by omega); omega) (by omega)
    have m1 : (10 * nd w n 5 + nd w n 6) % 10 = nd w n 6 := by omega
    have m2 : (10 * nd w n 5 + nd w n 6) / 10 = nd w n 5 := by omega
    rw [m1, m2, if_pos ⟨v.1, v.2.1, v.2.2.1⟩]
    exact mk1_self hU n0 n1 c4 v.2.2.2 rfl (p9 (by omega) (by omega)) (e4 (by omega)) rfl rfl
  rw [if_neg c4, if_neg c4]
  by_cases c5 : nd w n 0 ≤ 23
  · rw [if_neg (by omega)] at oc
    have ea := ha (by omega)
    subst ea
    have e56 := p7 (by omega) (by omega)
    rw [if_pos c5, if_pos (show nd w n 0 = 22 ∨ nd w n 0 = 23 by omega), if_pos ⟨q6 (by omega), k4⟩]
    exact mk1_self hU n0 n1 rfl rfl rfl (p9 (by omega) (by omega)) (e4 (by omega)) e56.1 e56.2
  have c6 : nd w n 0 = 24 := by omega
  rw [if_pos c6] at oc
  have ea := ha (by omega)
  have eb := hb (by omega)
  have ec := hc (by omega)
  subst ea eb ec
  have v := q7 c6
  have e56 := p7 (by omega) (by omega)
  rw [if_neg c5, if_pos ⟨v.1, by omega⟩]
  exact mk1_self hU n0 n1 c6 v.2.1.symm rfl rfl rfl e56.1 e56.2
/-- a node is read -/
def Nd (w : Int → Int) (n : Int) (r s : Rw) : Prop := pO s = pO r ∧ (∀ i, 0 ≤ i → i < pO r → s 55 i = r 55 i ∧ s 57 i = r 57 i ∧ s 58 i = r 58 i ∧ s 56 i = r 56 i - (if i = pO r - 1 then 1 else 0)) ∧ pS r < pS s ∧ Bk w s ∧ zS s = zS r + 1 ∧ stk w s (zS r) = n ∧ ∀ i, i < zS r → stk w s i = stk w r i
/-- a leaf -/
theorem leaf_nd {w : Int → Int} {n : Int} {r q : Rw} {k x y : Int} (hs : Ss r q) (ho : Os r q) (s0 : 0 ≤ pS r) (hb : Bk w r) (k2 : opc k = 0) (m : ∀ a b c, mk2 w k x y a b c = (n, w)) (hn : n ≠ -1) : Nd w n r (adS q k x y) := by
  obtain ⟨e1, e2, e3⟩ := hs.ev w
  obtain ⟨o1, o2, o3, o4, o5⟩ := ho
  have es : pS q = pS r := hs.2.2.2
  obtain ⟨a1, a2, a3, a4⟩ := ad_ev (r := q) (k := k) (x := x) (y := y) (by omega) (e3 hb) (m _ _ _) hn
  have eO : pO (adS q k x y) = pO r := (adS_F q k x y (by decide)).trans o1
  refine ⟨eO, fun i i0 i1 => ⟨?_, ?_, ?_, ?_⟩, by omega, a3, by omega, ?_, fun i hi => ?_⟩
  · rw [adS_ne q k x y (by decide), o2]
  · rw [adS_ne q k x y (by decide), o4]
  · rw [adS_ne q k x y (by decide), o5]
  · rw [adS_56, if_pos (by omega), o1, o3]
    by_cases z : i = pO r - 1
    · rw [z, up_self, if_pos rfl]
    · rw [up_ne z, if_neg z]
      omega
  · rw [a4, show zS q - opc k = zS r by omega, up_self]
  · rw [a4, show zS q - opc k = zS r by omega, up_ne (by omega), e2]

/-! ===== the reader: what begins a node ===== -/
def TxO (r : Rw) : Prop := Box (∀ k, 0 ≤ k → k < r 49 1 → 32 ≤ r 50 k ∧ r 50 k ≤ 126)
/-- the digits of the top are all wanted -/
def Dt (r : Rw) : Prop := Box (0 < pO r → r 57 (pO r - 1) = dgc (r 55 (pO r - 1)))
theorem cnS_c {r s : Rw} (h : tA s = tA r) : ∀ (j : Nat) (p n : Int), cnS s j p n = cnS r j p n := by
  intro j
  induction j with
  | zero => intro p n; rfl
  | succ j ih =>
    intro p n
    show (if isD (tA s p) then cnS s j (p + 1) (10 * n + tA s p - 48) else (p, n)) = (if isD (tA r p) then cnS r j (p + 1) (10 * n + tA r p - 48) else (p, n))
    rw [h, ih]
theorem kdF_c {r s : Rw} (h : tA s = tA r) (a n : Int) : kdF s a n = kdF r a n := by
  unfold kdF kdP isW chW
  rw [h]
theorem nd_rng {r : Rw} (hg : Gd r) : pP r ≤ spk r (pP r) ∧ spk r (pP r) ≤ r 49 1 := spk_rng r hg.o.2.2.2.2.1
theorem nd_lf {r : Rw} (hg : Gd r) (hw : wtS r) (hn : ¬ whS r) (x : tA r (spk r (pP r)) ≠ 40) : tnS (skS r) = lfS (skS r) := by
  have a1 : tA (skS r) (pP (skS r)) = tA r (spk r (pP r)) := rfl
  have w : wtS (skS r) := hw
  have n : ¬ whS (skS r) := hn
  unfold tnS
  rw [a1, if_neg (spk_ne r (pP r)), if_neg n, if_neg (fun q => x q.1), if_pos w]
theorem nd_op {r : Rw} (hg : Gd r) (hw : wtS r) (hn : ¬ whS r) (x : tA r (spk r (pP r)) = 40) : tnS (skS r) = opS (skS r) := by
  have a1 : tA (skS r) (pP (skS r)) = tA r (spk r (pP r)) := rfl
  have w : wtS (skS r) := hw
  have n : ¬ whS (skS r) := hn
  unfold tnS
  rw [a1, if_neg (spk_ne r (pP r)), if_neg n, if_pos ⟨x, w⟩]
/-- an error is at e -/
abbrev Er (r : Rw) (e : Int) : Prop := rdA (fin r) = e ∧ 0 ≤ e
theorem nd_end {r : Rw} (hg : Gd r) (hn : ¬ whS r) (hz : TxO r) (x : tA r (spk r (pP r)) = -1) : Er r (spk r (pP r)) := by
  have rg := nd_rng hg
  have g4 := hg.o.2.2.2.1
  refine ⟨?_, by omega⟩
  have f := fin_sk hg
  rw [← f.2]
  exact end1 f.1 x hn fun k k0 k1 => by
    have : 32 ≤ r 50 k := (hz.o k k0 k1).1
    show r 50 k ≠ -1
    omega
theorem nd_err {r : Rw} (hg : Gd r) (x : tA r (spk r (pP r)) ≠ -1) {e : Int} (he : pE (tnS (skS r)) = e) (n1 : 0 ≤ e) : Er r e := by
  have f := fin_sk hg
  refine ⟨?_, n1⟩
  rw [← f.2]
  exact err1 f.1 (tA_in (r := skS r) x).2 he n1
theorem nd_D {r : Rw} (hg : Gd r) (hw : wtS r) (hn : ¬ whS r) (hz : TxO r) (x : tA r (spk r (pP r)) ≠ 40) (y : ¬ (tA r (spk r (pP r)) = 118 ∧ isD (tA r (spk r (pP r) + 1)))) (z : ¬ isD (tA r (spk r (pP r)))) : Er r (spk r (pP r)) := by
  have rg := nd_rng hg
  have g4 := hg.o.2.2.2.1
  by_cases u : tA r (spk r (pP r)) = -1
  · exact nd_end hg hn hz u
  · refine nd_err hg u ?_ (by omega)
    rw [nd_lf hg hw hn x]
    have l : lfS (skS r) = bdS (skS r) := by
      show (if tA r (spk r (pP r)) = 118 ∧ isD (tA r (spk r (pP r) + 1)) then _ else if isD (tA r (spk r (pP r))) then _ else _) = _
      rw [if_neg y, if_neg z]
    rw [l]
    exact up_self (skS r 51) 2 _
/-- a step more after a place more: it goes on -/
theorem nd_go {s t : Rw} (hs : Gd s) (lt : pP s < s 49 1) (e : tnS s = t) (e2 : pE t = -1) : Gd t ∧ fin t = fin s ∧ pP s < pP t := by
  have f := fin_tn hs lt
  rw [e] at f
  rcases tn_step hs lt with q | q
  · rw [e] at q; exact absurd e2 q
  · rw [e] at q; exact ⟨q.1, f.symm, q.2⟩
theorem nd_gs {r : Rw} (hg : Gd r) {t : Rw} (x : tA r (spk r (pP r)) ≠ -1) (e : tnS (skS r) = t) (e2 : pE t = -1) : Gd t ∧ fin t = fin r ∧ spk r (pP r) < pP t := by
  have f := fin_sk hg
  have q := nd_go f.1 (tA_in (r := skS r) x).2 e e2
  exact ⟨q.1, q.2.1.trans f.2, q.2.2⟩
/-! a variable -/
def vS (r : Rw) : Rw := adS (avS (avS (skS r))) 1 (tA r (spk r (pP r) + 1) - 48) (-1)
theorem avP (r : Rw) : pP (avS r) = pP r + 1 := up_self (r 51) 1 _
theorem dgS_1 {r : Rw} (h : isD (tA r (pP r))) (g : ¬ isD (tA r (pP r + 1))) : dgS r = avS r := by unfold dgS; rw [if_pos h, if_neg g]
theorem dgS_2 {r : Rw} (h : isD (tA r (pP r))) (g : isD (tA r (pP r + 1))) : dgS r = bdS (avS r) := by unfold dgS; rw [if_pos h, if_pos g]
theorem dgS_0 {r : Rw} (h : ¬ isD (tA r (pP r))) : dgS r = bdS r := by unfold dgS; rw [if_neg h]
theorem dgV_1 {r : Rw} (h : isD (tA r (pP r))) : dgV r = tA r (pP r) - 48 := by unfold dgV; rw [if_pos h]
theorem bdE (r : Rw) : pE (bdS r) = pP r := up_self (r 51) 2 _
theorem spk_d {r : Rw} {p : Int} (h : isD (tA r p)) : spk r p = p := spk_id (by omega)
theorem lf_v {s : Rw} (x : tA s (pP s) = 118) (y : isD (tA s (pP s + 1))) : lfS s = adS (dgS (avS s)) 1 (dgV (avS s)) (-1) := if_pos ⟨x, y⟩
theorem nd_A0 {r : Rw} (hg : Gd r) (hw : wtS r) (hn : ¬ whS r) (x : tA r (spk r (pP r)) = 118) (y : isD (tA r (spk r (pP r) + 1))) {e : Int} (hx : dgX r (spk r (pP r) + 1) e) : Er r e := by
  have rg := nd_rng hg
  have g4 := hg.o.2.2.2.1
  have t := hx.o
  rw [spk_d y] at t
  rcases t with ⟨t, _⟩ | ⟨_, t, rfl⟩
  · exact absurd y t
  · refine nd_err hg (by omega) ?_ (by omega)
    rw [nd_lf hg hw hn (by omega), lf_v (s := skS r) x y]
    show adS _ _ _ _ 51 2 = _
    rw [adS_F _ _ _ _ (by decide), dgS_2 (r := avS (skS r)) (by rw [avP]; exact y) (by rw [avP]; exact t)]
    show pE (bdS (avS (avS (skS r)))) = _
    rw [bdE, avP, avP]
    rfl
theorem nd_A1 {r : Rw} (hg : Gd r) (hw : wtS r) (hn : ¬ whS r) (x : tA r (spk r (pP r)) = 118) (y : isD (tA r (spk r (pP r) + 1))) (z : ¬ isD (tA r (spk r (pP r) + 1 + 1))) : Gd (vS r) ∧ fin (vS r) = fin r ∧ pP r < pP (vS r) := by
  have rg := nd_rng hg
  have e : tnS (skS r) = vS r := by
    rw [nd_lf hg hw hn (by omega), lf_v (s := skS r) x y, dgS_1 (r := avS (skS r)) (by rw [avP]; exact y) (by rw [avP]; exact z), dgV_1 (r := avS (skS r)) (by rw [avP]; exact y), avP]
    rfl
  have e2 : pE (vS r) = -1 := (adS_F _ _ _ _ (by decide)).trans hg.o.1
  have q := nd_gs hg (by omega) e e2
  exact ⟨q.1, q.2.1, by omega⟩

/-! ===== the reference: what the calls tell of the models ===== -/
theorem sc_rI62 (h : Hp) (X F a b c : Int → Int) : sc (rI h 62 X) F a b c = sc h F a b c := by
  rw [sc_of_62, sc_sc]
theorem sc_rf (h : Hp) (x : Int) (F a b c : Int → Int) : sc (rfH h x) F a b c = sc h F a b c := sc_rI62 h _ F a b c
theorem rt_v {Rt : Option AV → Hp → Prop} {x x' : Int} {h h' : Hp} (hs : Rt (some (.inl x')) h') (e1 : x' = x) (e2 : h' = h) : Rt (some (.inl x)) h := e1 ▸ e2 ▸ hs
theorem sc_x3 (h : Hp) (F a b c X F' a' b' c' a2 b2 : Int → Int) : sc h F' a2 b2 c' = wvH (sc (rI (sc h F a b c) 62 X) F' a' b' c') a2 b2 := by rw [sc_62, sc_sc, sc_wv]
def wrd (w : Int → Int) (N v : Int) : Int := if N = -1 then -1 else asg w N v
theorem FR.rf {w F c : Int → Int} {x : Int} (h : FR w F c) : FR w (up F 4 x) c := h
theorem isB_ex {w g : Int → Int} {r : Int} (h : isB (mdl w) g (tot w) r) (e : nxt w 0 ≠ -1) : r ≠ -1 := by
  rcases h.o with ⟨rfl, h1⟩ | ⟨h1, -⟩
  · obtain ⟨a, -, b, c, -⟩ := nxt_some e
    rw [h1 _ a b] at c
    cases c
  · omega
theorem isB_no {w g : Int → Int} {r : Int} (h : isB (mdl w) g (tot w) r) (e : nxt w 0 = -1) : r = -1 := by
  rcases h.o with ⟨q, -⟩ | ⟨h1, h2, h3, -⟩
  · exact q
  · rw [nxt_none e _ h1 h1 h2] at h3
    cases h3
/-! ===== the reference: values laid ===== -/
/-- the row of values is that of an environment -/
def Vls (w env f : Int → Int) : Prop := Box (∀ m, 0 ≤ m → m < w 0 → f m = vl w env m)
def VlsB (w env f : Int → Int) (i : Int) : Prop := Box (∀ m, 0 ≤ m → m < i → f m = vl w env m)
theorem VlsB.step {w env f : Int → Int} {i : Int} (h : VlsB w env f i) {x : Int} (hx : x = vl w env i) : VlsB w env (up f i x) (i + 1) := by
  refine Box.i fun m h0 h1 => ?_
  by_cases e : m = i
  · subst e; rw [up_self, hx]
  · rw [up_ne e]; exact h.o m h0 (by omega)
theorem VlsB.lw {w env f : Int → Int} {i : Int} (h : VlsB w env f i) (hw : WF w) (he : Ev w env) (hi : i ≤ w 0) (h0 : 0 ≤ i) : Lw w f i := by
  refine Box.i fun m a b => ?_
  rw [h.o m a b]
  exact (hw.lw he h0 hi).o m a b
theorem VlsB.val {w env f : Int → Int} {i : Int} (h : VlsB w env f i) (hw : WF w) (hi : i < w 0) (h0 : 0 ≤ i) : nV w env f i = vl w env i := by
  rw [vl_eq' h0 (hw.node h0 hi)]
  exact nV_use (hw.node h0 hi) fun m a b => h.o m a b
/-- the heap with another row of words and of values -/
def wvH (h : Hp) (a b : Int → Int) : Hp := rI (rI h 67 a) 68 b
theorem wvH_63 (h : Hp) (a b : Int → Int) : hI (wvH h a b) 63 = hI h 63 := rfl
theorem wvH_62 (h : Hp) (a b : Int → Int) : hI (wvH h a b) 62 = hI h 62 := rfl
theorem wvH_67 (h : Hp) (a b : Int → Int) : hI (wvH h a b) 67 = a := rfl
theorem wvH_68 (h : Hp) (a b : Int → Int) : hI (wvH h a b) 68 = b := rfl
theorem wvH_69 (h : Hp) (a b : Int → Int) : hI (wvH h a b) 69 = hI h 69 := rfl
/-- the reference's scratch rows: fields, words, values, what is fulfilled -/
def sc (h : Hp) (F a b c : Int → Int) : Hp := (h.1, (fun q => if q = 62 then F else if q = 67 then a else if q = 68 then b else if q = 69 then c else h.2.1 q), h.2.2)
theorem sc_63 (h : Hp) (F a b c : Int → Int) : hI (sc h F a b c) 63 = hI h 63 := rfl
theorem sc_n62 (h : Hp) (F a b c : Int → Int) : hI (sc h F a b c) 62 = F := rfl
theorem sc_n67 (h : Hp) (F a b c : Int → Int) : hI (sc h F a b c) 67 = a := rfl
theorem sc_n68 (h : Hp) (F a b c : Int → Int) : hI (sc h F a b c) 68 = b := rfl
theorem sc_n69 (h : Hp) (F a b c : Int → Int) : hI (sc h F a b c) 69 = c := rfl
theorem sc_n70 (h : Hp) (F a b c : Int → Int) : hI (sc h F a b c) 70 = hI h 70 := rfl
/-- the words of all variables -/
def Asg (w a env : Int → Int) : Prop := Box (∀ v, 0 ≤ v → v < w 281 → a v = env v)
theorem Asg.ev {w a env : Int → Int} (h : Asg w a env) (he : Ev w env) : Ev w a := Box.i fun v h0 h1 => by rw [h.o v h0 h1]; exact he.o v h0 h1
theorem Asg.vls {w a env f : Int → Int} (h : Asg w a env) (hw : WF w) (hf : Vls w a f) : Vls w env f := Box.i fun m h0 h1 => by rw [hf.o m h0 h1]; exact vl_env' hw (fun v a b => h.o v a b) h1
theorem wvH_1 (h : Hp) (a f : Int → Int) : rI (rI h 67 a) 68 f = wvH h a f := rfl
/-- a node's value read with or without its sign -/
def rd (w : Int → Int) (n g v : Int) : Int := if g = 0 then v else sgn v (nd w n 1)
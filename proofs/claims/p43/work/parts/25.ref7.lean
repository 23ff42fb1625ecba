/-! ===== the reference: what is told of a node ===== -/
def orI (s : Int64) (x : Int) : Int64 := if x = -1 then s ||| 0 else s ||| lShl 1 x
def orN (w : Int → Int) (s : Int64) (k i : Int) : Int64 :=
  if i = 2 then orI (orI (orI s (nd w k 2)) (nd w k 3)) (nd w k 4) else if i = 3 then orI (orI s (nd w k 3)) (nd w k 4) else if i = 4 then orI s (nd w k 4) else s
/-- how many nodes below k belong to what a set of them reaches -/
def pF (w : Int → Int) : Nat → Int64 → Int
  | 0, _ => 0
  | k + 1, s => if lShr s (k : Int) &&& 1 = 1 then 1 + pF w k (orN w s (k : Int) 2) else pF w k s
def partsW (w : Int → Int) (n : Int) : Int := pF w (n + 1).toNat (lShl 1 n)
def toldW (w : Int → Int) (n x : Int) : Int :=
  if x = 8 then partsW w n else if x = 5 then (if nd w n 0 < 2 then nd w n 5 else -1) else if 5 < x then (if nd w n 0 = 21 then nd w n (x - 1) else -1) else nd w n x
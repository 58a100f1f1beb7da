/-! what the class's writing methods do -/
def fillN (v : Int32) (f : Ar) : Nat → Ar
  | 0 => f
  | i + 1 => upd (fillN v f i) i v
def coolN (w : Ar) : Nat → Ar
  | 0 => w
  | i + 1 => if 0 < coolN w i i then upd (coolN w i) i (coolN w i i - 1) else coolN w i
def sCool (c : CX) : CX := setM c (mH (cM c), coolN (mW (cM c)) 7, mWa (cM c), mTu (cM c), mSi (cM c), mPu (cM c), mPa (cM c))
def sBegin (c : CX) : CX := setM c (kF (cK c), fillN 0 (mW (cM c)) 7, 0, 0, 0, 0, 0)
def sCopyK (c : CX) : CX := setK c (cDr c)
def sTear (c : CX) : CX := setI c (iB (cI c), iO (cI c), 0)
def sWrite (c : CX) (b : Int32) (q : Bool) : CX := if iL (cI c) < 6 then setI c (upd (iB (cI c)) (iL (cI c)) b, va_up (iO (cI c)) (iL (cI c)) q, iL (cI c) + 1) else c
def sLose (c : CX) : CX := setNK c (cNx c) 0
def sRem (c : CX) : CX := setNK (setRi c (va_up (cRi c) (cNx c) (cM c))) (if cNx c = 9 then 0 else cNx c + 1) (min (cKn c + 1) 10)
def pNx (n : Nat) : Nat := if n = 0 then 9 else n - 1
def sRec (c : CX) : CX := if cKn c = 0 then c else setM (setNK c (pNx (cNx c)) (cKn c - 1)) (cRi c (pNx (cNx c)))
theorem lk_ne {x : Int32} {k : Int} {n : Int32} (h : ¬ x = n) (hk : n.toInt = k := by rfl) : ¬ k = x.toInt := fun q => h (Int32.toInt_inj.mp (by rw [← q, hk]))
theorem nI_z {n : Nat} (hn : n < 2 ^ 31) (h : nI n = 0) : n = 0 := (nI_eq hn (by omega)).mp h
theorem nI_nz {n : Nat} (h : ¬ nI n = 0) : 0 < n := Nat.pos_of_ne_zero fun q => h (by rw [q]; rfl)
theorem nI_le0 {n : Nat} (hn : n < 2 ^ 31) (h : nI n ≤ 0) : n = 0 := by
  have := (nI_leI hn (show 0 < 2 ^ 31 by omega)).mp h
  omega
theorem nI_nle0 {n : Nat} (h : ¬ nI n ≤ 0) : 0 < n := Nat.pos_of_ne_zero fun q => h (by rw [q]; decide)
theorem WX_fst {G : GG} {a : Nat → Nat} {c c' : CX} : (WX G a c).map Prod.fst = (WX G a c').map Prod.fst := rfl
theorem WDs_fst {G : GG} {a : Nat → Nat} {tx : Ar} {c c' : DS} : (WDs G a tx c).map Prod.fst = (WDs G a tx c').map Prod.fst := rfl

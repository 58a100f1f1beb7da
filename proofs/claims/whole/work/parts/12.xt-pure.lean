/-! the public methods of the class that write: the answer, and the state behind it -/
abbrev cM' (c : CX) (h w : Ar) (wa tu si pu pa : Int32) : CX := setM c (h, w, wa, tu, si, pu, pa)
def sMH (c : CX) (v : Ar) : CX := setM c (v, mW (cM c), mWa (cM c), mTu (cM c), mSi (cM c), mPu (cM c), mPa (cM c))
def sMW (c : CX) (v : Ar) : CX := setM c (mH (cM c), v, mWa (cM c), mTu (cM c), mSi (cM c), mPu (cM c), mPa (cM c))
def sWa (c : CX) (v : Int32) : CX := setM c (mH (cM c), mW (cM c), v, mTu (cM c), mSi (cM c), mPu (cM c), mPa (cM c))
def sTu (c : CX) (v : Int32) : CX := setM c (mH (cM c), mW (cM c), mWa (cM c), v, mSi (cM c), mPu (cM c), mPa (cM c))
def sSi (c : CX) (v : Int32) : CX := setM c (mH (cM c), mW (cM c), mWa (cM c), mTu (cM c), v, mPu (cM c), mPa (cM c))
def sPu (c : CX) (v : Int32) : CX := setM c (mH (cM c), mW (cM c), mWa (cM c), mTu (cM c), mSi (cM c), v, mPa (cM c))
def sPa (c : CX) (v : Int32) : CX := setM c (mH (cM c), mW (cM c), mWa (cM c), mTu (cM c), mSi (cM c), mPu (cM c), v)
def xType (c : CX) (x : Int32) : Int32 × CX := if x < 0 then (-1, c) else if x ≤ 255 then (if cLe c < 200 then (nI (cLe c + 1), setLe (setTx c (upd (cTx c) (cLe c) x)) (cLe c + 1)) else (-3, c)) else (-1, c)
def xClear (c : CX) : Int32 × CX := (nI (cLe c), setLe c 0)
def xCouncil (c : CX) : Int32 × CX := if 0 ≤ (rdTx (cTx c) (cLe c) (cDr c, cRd c)).1 then ((rdTx (cTx c) (cLe c) (cDr c, cRd c)).1, setLe (setKe (sLose (sTear (sBegin (sCopyK (setDrRd c (rdTx (cTx c) (cLe c) (cDr c, cRd c)).2.1 (rdTx (cTx c) (cLe c) (cDr c, cRd c)).2.2))))) 0) 0) else ((rdTx (cTx c) (cLe c) (cDr c, cRd c)).1, setDrRd c (rdTx (cTx c) (cLe c) (cDr c, cRd c)).2.1 (rdTx (cTx c) (cLe c) (cDr c, cRd c)).2.2)
def xPuts (c : CX) (b : Int32) : Int32 × CX := if pNoB b then (-1, c) else if mPu (cM c) < 999 then (b2i (pPasses (cK c) (cM c) b), sCool (sPa (sPu (sRem c) (mPu (cM c) + 1)) (mPa (cM c) + b2i (pPasses (cK c) (cM c) b)))) else (-2, c)
def xHands (c : CX) (t f : Int32) : Int32 × CX := if pNoT (cK c) t || pNoO (cK c) f then (-1, c) else (mH (cM c) t.toNatClampNeg, sMH (sRem c) (upd (mH (cM c)) t.toNatClampNeg f))
def xWashes (c : CX) (t : Int32) : Int32 × CX := if pNoT (cK c) t then (-1, c) else if bitI (mWa (cM c)) t = 1 then (-2, c) else (pPop (mWa (cM c) ||| sh1 t), sWa (sRem c) (mWa (cM c) ||| sh1 t))
def xHangs (c : CX) (t : Int32) : Int32 × CX := if pNoT (cK c) t then (-1, c) else if bitI (mWa (cM c)) t = 0 then (-2, c) else if kS (cK c) t.toNatClampNeg = 2 then (bitI (mTu (cM c) ^^^ sh1 t) t, sTu (sWa (sRem c) (mWa (cM c) &&& iv (sh1 t))) (mTu (cM c) ^^^ sh1 t)) else (bitI (mTu (cM c)) t, sWa (sRem c) (mWa (cM c) &&& iv (sh1 t)))
def xWarms (c : CX) (t : Int32) : Int32 × CX := if pNoT (cK c) t then (-1, c) else if kS (cK c) t.toNatClampNeg = 1 then (mW (cM c) t.toNatClampNeg, sMW (sRem c) (upd (mW (cM c)) t.toNatClampNeg (kW (cK c)))) else (-2, c)
def xSickens (c : CX) (f q : Int32) : Int32 × CX := if pNoO (cK c) f || decide (q < 0) || decide (1 < q) then (-1, c) else (bitI (mSi (cM c)) f, sSi (sRem c) ((mSi (cM c) &&& iv (sh1 f)) ||| (q <<< (f &&& 31))))
def xUndo (c : CX) : Int32 × CX := if cKn c = 0 then (-2, c) else (nI (cKn (sRec c)), sRec c)
def xRecord (c : CX) (b q : Int32) : Int32 × CX := if pNoB b || decide (q < 0) || decide (1 < q) then (-1, c) else if iL (cI c) < 6 then (nI (iL (cI (sWrite c b (decide (q = 1))))), sWrite c b (decide (q = 1))) else (-3, c)
def xForget (c : CX) : Int32 × CX := (nI (iL (cI c)), sTear c)
def aThing (c : CX) : CX := setTr c (cTr c + 1)
def aScep (c : CX) : CX := aThing (setTr c (cTr c + 10))
def aOrb (c : CX) : CX := aThing (setTr c (cTr c + 100))
def aRing (c : CX) : CX := aScep (setTr c (cTr c + 1000))
def aSeal (c : CX) : CX := aOrb (setTr c (cTr c + 10000))
def aSpoon (c : CX) : CX := aThing (setTr c (cTr c + 100000))
def xRate (c : CX) (w t : Int32) : Int32 × CX := if pNoT (cK c) t then (-1000000, c) else if w = 0 then (kV (cK c) t.toNatClampNeg, aThing c) else if w = 1 then (kV (cK c) t.toNatClampNeg + pPop (kB (cK c) t.toNatClampNeg), aScep c) else if w = 2 then (kV (cK c) t.toNatClampNeg - mW (cM c) t.toNatClampNeg, aOrb c) else if w = 3 then (2 * (kV (cK c) t.toNatClampNeg + pPop (kB (cK c) t.toNatClampNeg)), aRing c) else if w = 4 then (kV (cK c) t.toNatClampNeg - mW (cM c) t.toNatClampNeg + t, aSeal c) else if w = 5 then (kV (cK c) t.toNatClampNeg + mPu (cM c), aSpoon c) else (-1000000, c)
def xKeep (c : CX) (w : Int32) : Int32 × CX := if pNoI w then (-1, c) else (mPu (cM c), setKe (setIm c (va_up (cIm c) w.toNatClampNeg (cM c))) (cKe c ||| sh1 w))
def xBack (c : CX) (w : Int32) : Int32 × CX := if pNoI w then (-1, c) else if bitI (cKe c) w = 0 then (-2, c) else (mPu (cIm c w.toNatClampNeg), sLose (setM c (cIm c w.toNatClampNeg)))
theorem pNoI_n {t : Int32} (h : pNoI t = false) : ∃ j : Nat, j < 2 ∧ t = nI j := by
  simp only [pNoI, decide_eq_false_iff_not, not_or] at h
  rcases pk_ix t (show 2 < 2 ^ 31 by omega) with q | q | q
  · exact absurd q h.1
  · exact absurd q h.2
  · exact q
theorem okR_setTr {c : CX} {v : Int64} (h : OkR c) : OkR (setTr c v) := by
  unfold OkR at *
  exact h
theorem okR_setKe {c : CX} {v : Int32} (h : OkR c) : OkR (setKe c v) := by
  unfold OkR at *
  exact h
theorem okR_setTx {c : CX} {v : Ar} (h : OkR c) : OkR (setTx c v) := by
  unfold OkR at *
  exact h
theorem okR_setM {c : CX} {v : Mo} (h : OkR c) : OkR (setM c v) := by
  unfold OkR at *
  exact h
theorem okR_setIm {c : CX} {v : Nat → Mo} (h : OkR c) : OkR (setIm c v) := by
  unfold OkR at *
  exact h
theorem okR_sMH {c : CX} {v : Ar} (h : OkR c) : OkR (sMH c v) := by
  unfold OkR at *
  exact h
theorem okR_sMW {c : CX} {v : Ar} (h : OkR c) : OkR (sMW c v) := by
  unfold OkR at *
  exact h
theorem okR_sWa {c : CX} {v : Int32} (h : OkR c) : OkR (sWa c v) := by
  unfold OkR at *
  exact h
theorem okR_sTu {c : CX} {v : Int32} (h : OkR c) : OkR (sTu c v) := by
  unfold OkR at *
  exact h
theorem okR_sSi {c : CX} {v : Int32} (h : OkR c) : OkR (sSi c v) := by
  unfold OkR at *
  exact h
theorem okR_sPu {c : CX} {v : Int32} (h : OkR c) : OkR (sPu c v) := by
  unfold OkR at *
  exact h
theorem okR_sPa {c : CX} {v : Int32} (h : OkR c) : OkR (sPa c v) := by
  unfold OkR at *
  exact h
theorem okR_aThing {c : CX} (h : OkR c) : OkR (aThing c) := by
  unfold OkR at *
  exact h
theorem okR_aScep {c : CX} (h : OkR c) : OkR (aScep c) := by
  unfold OkR at *
  exact h
theorem okR_aOrb {c : CX} (h : OkR c) : OkR (aOrb c) := by
  unfold OkR at *
  exact h
theorem okR_rem {c : CX} (h : OkR c) : OkR (sRem c) := by
  obtain ⟨h1, h2, h3, h4, h5, h6, h7⟩ := h
  refine ⟨h1, h2, h3, h4, h5, ?_, ?_⟩
  · show (if cNx c = 9 then 0 else cNx c + 1) < 10
    split <;> omega
  · show min (cKn c + 1) 10 ≤ 10
    omega
theorem okR_copyK {c : CX} (h : OkR c) (hd : OkD (cDr c, cRd c)) : OkR (sCopyK c) := ⟨hd.1, hd.2.1, hd.2.2.1, h.2.2.2⟩
theorem okR_begin {c : CX} (h : OkR c) : OkR (sBegin c) := by
  unfold OkR at *
  exact h
theorem okR_setLe {c : CX} {v : Nat} (h : OkR c) (hv : v ≤ 200 := by omega) : OkR (setLe c v) := ⟨h.1, h.2.1, h.2.2.1, h.2.2.2.1, hv, h.2.2.2.2.2⟩
theorem okR_tear {c : CX} (h : OkR c) : OkR (sTear c) := ⟨h.1, h.2.1, h.2.2.1, Nat.zero_le _, h.2.2.2.2⟩
/-! the cells of the whole world by their places, and what a write makes of it -/
def fsMain (a : Nat → Nat) (c : CX) : List Value := [.ref (a 15), .int (nI (cLe c)), .ref (a 1), .ref (a 16), .ref (a 21), .ref (a 6), .ref (a 9), .ref (a 10), .ref (a 11), .ref (a 14), .ref (a 53), .int (cKe c), .long (cTr c)]
def fsCn (a : Nat → Nat) (i : Nat) (k : Cn) : List Value := [.int (nI (kT k)), .int (nI (kO k)), .int (kW k), .ref (a (i + 1)), .ref (a (i + 2)), .ref (a (i + 3)), .ref (a (i + 4))]
def fsMo (a : Nat → Nat) (i : Nat) (o : Mo) : List Value := [.ref (a (i + 1)), .ref (a (i + 2)), .int (mWa o), .int (mTu o), .int (mSi o), .int (mPu o), .int (mPa o)]
theorem WX_0 (G : GG) (a : Nat → Nat) (c : CX) : (WX G a c)[0]? = some (a 0, .inr (7, fsMain a c)) := rfl
theorem WX_1 (G : GG) (a : Nat → Nat) (c : CX) : (WX G a c)[1]? = some (a 1, .inr (0, fsCn a 1 (cK c))) := rfl
theorem WX_2 (G : GG) (a : Nat → Nat) (c : CX) : (WX G a c)[2]? = some (a 2, .inl (gI G, 7, .inl (kS (cK c)))) := rfl
theorem WX_3 (G : GG) (a : Nat → Nat) (c : CX) : (WX G a c)[3]? = some (a 3, .inl (gI G, 7, .inl (kV (cK c)))) := rfl
theorem WX_4 (G : GG) (a : Nat → Nat) (c : CX) : (WX G a c)[4]? = some (a 4, .inl (gI G, 7, .inl (kB (cK c)))) := rfl
theorem WX_5 (G : GG) (a : Nat → Nat) (c : CX) : (WX G a c)[5]? = some (a 5, .inl (gI G, 7, .inl (kF (cK c)))) := rfl
theorem WX_6 (G : GG) (a : Nat → Nat) (c : CX) : (WX G a c)[6]? = some (a 6, .inr (2, fsMo a 6 (cM c))) := rfl
theorem WX_7 (G : GG) (a : Nat → Nat) (c : CX) : (WX G a c)[7]? = some (a 7, .inl (gI G, 7, .inl (mH (cM c)))) := rfl
theorem WX_8 (G : GG) (a : Nat → Nat) (c : CX) : (WX G a c)[8]? = some (a 8, .inl (gI G, 7, .inl (mW (cM c)))) := rfl
theorem WX_9 (G : GG) (a : Nat → Nat) (c : CX) : (WX G a c)[9]? = some (a 9, .inr (6, [.ref (a 1), .ref (a 6)])) := rfl
theorem WX_10 (G : GG) (a : Nat → Nat) (c : CX) : (WX G a c)[10]? = some (a 10, .inr (4, [.ref (a 9)])) := rfl
theorem WX_11 (G : GG) (a : Nat → Nat) (c : CX) : (WX G a c)[11]? = some (a 11, .inr (1, [.ref (a 9), .ref (a 12), .ref (a 13), .int (nI (iL (cI c)))])) := rfl
theorem WX_12 (G : GG) (a : Nat → Nat) (c : CX) : (WX G a c)[12]? = some (a 12, .inl (gI G, 6, .inl (iB (cI c)))) := rfl
theorem WX_13 (G : GG) (a : Nat → Nat) (c : CX) : (WX G a c)[13]? = some (a 13, .inl (gZ G, 6, .inl (fun j => b2i (iO (cI c) j)))) := rfl
theorem WX_14 (G : GG) (a : Nat → Nat) (c : CX) : (WX G a c)[14]? = some (a 14, .inr (3, [.ref (a 22), .int (nI (cNx c)), .int (nI (cKn c))])) := rfl
theorem WX_15 (G : GG) (a : Nat → Nat) (c : CX) : (WX G a c)[15]? = some (a 15, .inl (gC G, 200, .inl (cTx c))) := rfl
theorem WX_16 (G : GG) (a : Nat → Nat) (c : CX) : (WX G a c)[16]? = some (a 16, .inr (0, fsCn a 16 (cDr c))) := rfl
theorem WX_21 (G : GG) (a : Nat → Nat) (c : CX) : (WX G a c)[21]? = some (a 21, .inr (5, [.ref (a 15), .ref (a 16), .int (nI (rLen (cRd c))), .int (nI (rPl (cRd c))), .int (rTok (cRd c)), .int (nI (rTP (cRd c))), .int (nI (rNum (cRd c))), .int (rFa (cRd c)), .int (b2i (rWa (cRd c)))])) := rfl
theorem WX_22 (G : GG) (a : Nat → Nat) (c : CX) : (WX G a c)[22]? = some (a 22, .inl (gO G, 10, .inr (.inr (.inr (.inr (fun j => some (a (23 + 3 * j)))))))) := rfl
theorem WX_53 (G : GG) (a : Nat → Nat) (c : CX) : (WX G a c)[53]? = some (a 53, .inl (gO G, 2, .inr (.inr (.inr (.inr (fun j => some (a (54 + 3 * j)))))))) := rfl
theorem WX_p0_1 {G : GG} {a : Nat → Nat} {c : CX} {v : Nat} : (WX G a c).set 0 (a 0, .inr (7, (fsMain a c).set 1 (.int (nI v)))) = WX G a (setLe c v) := rfl
theorem WX_p0_11 {G : GG} {a : Nat → Nat} {c : CX} {v : Int32} : (WX G a c).set 0 (a 0, .inr (7, (fsMain a c).set 11 (.int v))) = WX G a (setKe c v) := rfl
theorem WX_p0_12 {G : GG} {a : Nat → Nat} {c : CX} {v : Int64} : (WX G a c).set 0 (a 0, .inr (7, (fsMain a c).set 12 (.long v))) = WX G a (setTr c v) := rfl
theorem WX_p7 {G : GG} {a : Nat → Nat} {c : CX} {f : Ar} : (WX G a c).set 7 (a 7, .inl (gI G, 7, .inl f)) = WX G a (sMH c f) := rfl
theorem WX_p8 {G : GG} {a : Nat → Nat} {c : CX} {f : Ar} : (WX G a c).set 8 (a 8, .inl (gI G, 7, .inl f)) = WX G a (sMW c f) := rfl
theorem WX_p15 {G : GG} {a : Nat → Nat} {c : CX} {f : Ar} : (WX G a c).set 15 (a 15, .inl (gC G, 200, .inl f)) = WX G a (setTx c f) := rfl
theorem WX_p6_2 {G : GG} {a : Nat → Nat} {c : CX} {v : Int32} : (WX G a c).set 6 (a 6, .inr (2, (fsMo a 6 (cM c)).set 2 (.int v))) = WX G a (sWa c v) := rfl
theorem WX_p6_3 {G : GG} {a : Nat → Nat} {c : CX} {v : Int32} : (WX G a c).set 6 (a 6, .inr (2, (fsMo a 6 (cM c)).set 3 (.int v))) = WX G a (sTu c v) := rfl
theorem WX_p6_4 {G : GG} {a : Nat → Nat} {c : CX} {v : Int32} : (WX G a c).set 6 (a 6, .inr (2, (fsMo a 6 (cM c)).set 4 (.int v))) = WX G a (sSi c v) := rfl
theorem WX_p6_5 {G : GG} {a : Nat → Nat} {c : CX} {v : Int32} : (WX G a c).set 6 (a 6, .inr (2, (fsMo a 6 (cM c)).set 5 (.int v))) = WX G a (sPu c v) := rfl
theorem WX_p6_6 {G : GG} {a : Nat → Nat} {c : CX} {v : Int32} : (WX G a c).set 6 (a 6, .inr (2, (fsMo a 6 (cM c)).set 6 (.int v))) = WX G a (sPa c v) := rfl
theorem ltT_tr {c : CX} {v : Int64} {j : Nat} (h : j < kT (cK c)) : j < kT (cK (setTr c v)) := h

/-! the class's own answers, as it reckons them -/
def pWithin (x y : Int32) : Bool := decide (x &&& (iv y) = 0)
def pAbleF (k : Cn) (o : Mo) : Nat → Int32 := fo (fun t r => if kS k t = 3 then r else if kS k t = 1 then (if mW o t = 0 then r else r ||| sh1 (nI t)) else r ||| sh1 (nI t)) 0
def pAble (k : Cn) (o : Mo) : Int32 := pAbleF k o (kT k) &&& (iv (mWa o))
def pHeldF (o : Mo) (offs : Int32) : Nat → Int32 := fo (fun t r => if bitI offs (mH o t) = 1 then r ||| sh1 (nI t) else r) 0
def pHeld (k : Cn) (o : Mo) (offs : Int32) : Int32 := pHeldF o offs (kT k)
def pVoicesIf (k : Cn) (o : Mo) (sick : Int32) : Int32 := pAble k o &&& (iv (pHeld k o sick))
def pVoices (k : Cn) (o : Mo) : Int32 := pVoicesIf k o (mSi o)
def pVotesF (k : Cn) (set : Int32) : Nat → Int32 := fo (fun t r => if bitI set (nI t) = 1 then r + kV k t else r) 0
def pVotes (k : Cn) (set : Int32) : Int32 := pVotesF k set (kT k)
def pYesF (k : Cn) (b : Int32) : Nat → Int32 := fo (fun t r => r ||| (bitI (kB k t) b <<< (nI t &&& 31))) 0
def pYes (k : Cn) (o : Mo) (b : Int32) : Int32 := pYesF k b (kT k) ^^^ mTu o
def pYesIf (k : Cn) (o : Mo) (b t bills : Int32) : Int32 := (pYes k o b &&& (iv (sh1 t))) ||| ((bitI bills b ^^^ bitI (mTu o) t) <<< (t &&& 31))
def pPassBy (k : Cn) (voices yes : Int32) : Bool := decide (pVotes k (voices &&& (iv yes)) < pVotes k (voices &&& yes))
def pPasses (k : Cn) (o : Mo) (b : Int32) : Bool := pPassBy k (pVoices k o) (pYes k o b)
def pVHeld (k : Cn) (o : Mo) (f : Int32) : Int32 := pVotes k (pVoices k o &&& pHeld k o (sh1 f))
def pMostF (k : Cn) (o : Mo) : Nat → Int32 × Int32 := fo (fun i r => if r.2 < pVHeld k o (nI (i + 1)) then (nI (i + 1), pVHeld k o (nI (i + 1))) else r) ((0 : Int32), pVHeld k o 0)
def pMost (k : Cn) (o : Mo) : Int32 := (pMostF k o (kO k - 1)).1
def pSwayF (k : Cn) (o : Mo) (b : Int32) : Nat → Int32 := fo (fun t r => if pVoices k o &&& sh1 (nI t) = 0 then r else if pPassBy k (pVoices k o &&& (iv (sh1 (nI t)))) (pYes k o b) = pPassBy k (pVoices k o) (pYes k o b) then r else r ||| sh1 (nI t)) 0
def pSway (k : Cn) (o : Mo) (b : Int32) : Int32 := pSwayF k o b (kT k)
/-- Integer.bitCount, as the library reckons it -/
def pPop (x : Int32) : Int32 :=
  let u := fun (a b : Int32) => (a.toUInt32 >>> (b.toUInt32 &&& Int32.toUInt32 31)).toInt32
  let x1 := x - (u x 1 &&& 1431655765)
  let x2 := (x1 &&& 858993459) + (u x1 2 &&& 858993459)
  let x3 := (x2 + u x2 4) &&& 252645135
  let x4 := x3 + u x3 8
  let x5 := x4 + u x4 16
  x5 &&& 63
def pFewer (x y : Int32) : Bool := decide (y = -9 ∨ pPop x < pPop y)
def pTurnF (k : Cn) (o : Mo) (b : Int32) : Nat → Int32 := fo (fun i r => if pWithin (nI i) (pVoices k o) && pFewer (nI i) r && pPassBy k (pVoices k o) (pYes k o b ^^^ nI i) then nI i else r) (-9)
def pTurn (k : Cn) (o : Mo) (b : Int32) : Int32 := pTurnF k o b 128
def pWell (k : Cn) (o : Mo) : Bool := decide (pPop (mSi o) < nI (kO k))
def pMov (k : Cn) (o : Mo) : Int32 := if pWell k o then pHeld k o (mSi o) else 0
def pHandF (k : Cn) (o : Mo) (b : Int32) : Nat → Int32 := fo (fun i r => if pWithin (nI i) (pMov k o) && pFewer (nI i) r && pPassBy k (pVoices k o ||| (nI i &&& pAble k o)) (pYes k o b) then nI i else r) (-9)
def pHand (k : Cn) (o : Mo) (b : Int32) : Int32 := pHandF k o b 128
def pExch (x t u : Int32) : Int32 := (x ^^^ ((bitI x t ^^^ bitI x u) <<< (t &&& 31))) ^^^ ((bitI x t ^^^ bitI x u) <<< (u &&& 31))
def pSwapP (k : Cn) (o : Mo) (b : Int32) (t u : Nat) : Bool := !decide (mH o t = mH o u) && !decide (pPassBy k (pAble k o &&& pExch (iv (pHeld k o (mSi o))) (nI t) (nI u)) (pYes k o b) = pPassBy k (pAble k o &&& (iv (pHeld k o (mSi o)))) (pYes k o b))
def pSwapG (k : Cn) (o : Mo) (b : Int32) (t : Nat) (r : Int32) : Nat → Int32 := fo (fun i q => if pSwapP k o b t (t + 1 + i) then q + 1 else q) r
def pSwapF (k : Cn) (o : Mo) (b : Int32) : Nat → Int32 := fo (fun t r => pSwapG k o b t r (kT k - (t + 1))) 0
def pSwap (k : Cn) (o : Mo) (b : Int32) : Int32 := pSwapF k o b (kT k)
def pChanF : Nat → Int32 := fo (fun _ r => r * 10) 1
def pChan (k : Cn) : Int32 := pChanF (kO k)
def pChSF (sick p : Int32) : Nat → Int32 := fo (fun i r => r * (if bitI sick (nI i) = 1 then p else 10 - p)) 1
def pChS (k : Cn) (sick p : Int32) : Int32 := pChSF sick p (kO k)
def pChPF (k : Cn) (o : Mo) (b p : Int32) : Nat → Int32 := fo (fun i r => if pPassBy k (pVoicesIf k o (nI i)) (pYes k o b) then r + pChS k (nI i) p else r) 0
def pChP (k : Cn) (o : Mo) (b p : Int32) : Int32 := pChPF k o b p (2 ^ kO k)
/-- the orders of so many, by the table -/
def facT (j : Nat) : Int32 := match j with
  | 0 => 1
  | 1 => 1
  | 2 => 2
  | 3 => 6
  | 4 => 24
  | 5 => 120
  | 6 => 720
  | _ => 5040
def pOrd (x : Int32) : Int32 := if x < 0 then 0 else if x < 8 then facT x.toNatClampNeg else 0
def pCar (k : Cn) (set voices : Int32) : Bool := decide (pVotes k voices < 2 * pVotes k set)
def pOrders (k : Cn) (o : Mo) : Int32 := pOrd (pPop (pVoices k o))
def pDecF (k : Cn) (t : Nat) (v : Int32) : Nat → Int32 := fo (fun i r => if pWithin (nI i) (v &&& (iv (sh1 (nI t)))) && !pCar k (nI i) v && pCar k (nI i ||| sh1 (nI t)) v then r + pOrd (pPop (nI i)) * pOrd (pPop ((v &&& (iv (sh1 (nI t)))) &&& (iv (nI i)))) else r) 0
def pDec (k : Cn) (t : Nat) (v : Int32) : Int32 := if v &&& (iv (sh1 (nI t))) = v then 0 else pDecF k t v 128
def pLessF (k : Cn) (o : Mo) : Nat → Int32 := fo (fun t r => if bitI (pVoices k o) (nI t) = 1 then (if pDec k t (pVoices k o) = 0 then r ||| sh1 (nI t) else r) else r) 0
def pLess (k : Cn) (o : Mo) : Int32 := pLessF k o 7
def pLeaB (k : Cn) (set v : Int32) (t : Nat) : Bool := !(decide (bitI set (nI t) = 1) && pCar k (set &&& (iv (sh1 (nI t)))) v)
def pLea (k : Cn) (set v : Int32) : Bool := pWithin set v && pCar k set v && allB (pLeaB k set v) 7
def pLeaN (k : Cn) (o : Mo) : Int32 := cntB (fun i => pLea k (nI i) (pVoices k o)) 128
def pLea1 (k : Cn) (o : Mo) : Int32 := firB (fun i => pLea k (nI i) (pVoices k o)) 128
def pSoForB (k : Cn) (o : Mo) (i : Mi) (t set voices : Int32) (j : Nat) : Bool := decide (pPassBy k voices (pYesIf k o (iB i j) t set) = iO i j)
def pSoFor (k : Cn) (o : Mo) (i : Mi) (t set voices : Int32) : Bool := allB (pSoForB k o i t set voices) (iL i)
def pSoSickB (k : Cn) (o : Mo) (i : Mi) (sick : Int32) (j : Nat) : Bool := decide (pPassBy k (pVoicesIf k o sick) (pYes k o (iB i j)) = iO i j)
def pSoSick (k : Cn) (o : Mo) (i : Mi) (sick : Int32) : Bool := allB (pSoSickB k o i sick) (iL i)
def pPosN (k : Cn) (o : Mo) (i : Mi) (t : Int32) : Int32 := cntB (fun j => pSoFor k o i t (nI j) (pVoices k o)) 32
def pPos1 (k : Cn) (o : Mo) (i : Mi) (t : Int32) : Int32 := firB (fun j => pSoFor k o i t (nI j) (pVoices k o)) 32
def pWhoF (k : Cn) (o : Mo) (i : Mi) : Nat → Int32 := fo (fun f r => if pSoSick k o i (sh1 (nI f)) then r ||| sh1 (nI f) else r) (if pSoSick k o i 0 then 32 else 0)
def pWho (k : Cn) (o : Mo) (i : Mi) : Int32 := pWhoF k o i (kO k)
def gcdF : Nat → Int32 → Int32 → Int32
  | 0, x, _ => x
  | n + 1, x, y => if y = 0 then x else gcdF n y (x - x / y * y)
def pGcd (x y : Int32) : Int32 := gcdF 64 x y
def pTerm (x y w : Int32) : Int32 := if pGcd x y = 0 then w else if w = 0 then x / pGcd x y else y / pGcd x y
def pNoT (k : Cn) (t : Int32) : Bool := decide (t < 0 ∨ nI (kT k) ≤ t)
def pNoO (k : Cn) (t : Int32) : Bool := decide (t < 0 ∨ nI (kO k) ≤ t)
def pNoB (t : Int32) : Bool := decide (t < 0 ∨ 5 ≤ t)
def pNoW (t : Int32) : Bool := decide (t < 0 ∨ 1 < t)
def pNoI (t : Int32) : Bool := decide (t < 0 ∨ 2 ≤ t)
def pFreeF (k : Cn) (o : Mo) : Nat → Int32 := fo (fun b r => r &&& (iv (pSway k o (nI b)))) (pVoices k o)
def pFree (k : Cn) (o : Mo) : Int32 := pFreeF k o 5
/-! the public answers that change nothing -/
def xThing (c : CX) (t w : Int32) : Int32 := if pNoT (cK c) t then -1 else if w = 0 then kS (cK c) t.toNatClampNeg else if w = 1 then kV (cK c) t.toNatClampNeg else if w = 2 then kB (cK c) t.toNatClampNeg else if w = 3 then mH (cM c) t.toNatClampNeg else if w = 4 then bitI (mWa (cM c)) t else if w = 5 then bitI (mTu (cM c)) t else if w = 6 then mW (cM c) t.toNatClampNeg else if w = 7 then bitI (pVoices (cK c) (cM c)) t else -1
def xOff (c : CX) (f w : Int32) : Int32 := if pNoO (cK c) f then -1 else if w = 0 then bitI (mSi (cM c)) f else if w = 1 then pHeld (cK c) (cM c) (sh1 f) else if w = 2 then pVHeld (cK c) (cM c) f else -1
def xBill (c : CX) (b w : Int32) : Int32 := if pNoB b then -1 else if w = 0 then pVotes (cK c) (pVoices (cK c) (cM c) &&& pYes (cK c) (cM c) b) else if w = 1 then pVotes (cK c) (pVoices (cK c) (cM c) &&& (iv (pYes (cK c) (cM c) b))) else if w = 2 then b2i (pPasses (cK c) (cM c) b) else if w = 3 then pVoices (cK c) (cM c) &&& pYes (cK c) (cM c) b else -1
def xNow (c : CX) (w : Int32) : Int32 := if w = 0 then mPu (cM c) else if w = 1 then mPa (cM c) else if w = 2 then pVoices (cK c) (cM c) else if w = 3 then mSi (cM c) else if w = 4 then pMost (cK c) (cM c) else if w = 5 then nI (cKn c) else -1
def xPower (c : CX) (t w : Int32) : Int32 := if pNoT (cK c) t || pNoW w then -1 else pTerm (pDec (cK c) t.toNatClampNeg (pVoices (cK c) (cM c))) (pOrders (cK c) (cM c)) w
def xLeast (c : CX) (w : Int32) : Int32 := if pNoW w then -1 else if w = 0 then pLeaN (cK c) (cM c) else pLea1 (cK c) (cM c)
def xSways (c : CX) (b : Int32) : Int32 := if pNoB b then -1 else pSway (cK c) (cM c) b
def xTurn (c : CX) (b : Int32) : Int32 := if pNoB b then -1 else pTurn (cK c) (cM c) b
def xHand (c : CX) (b : Int32) : Int32 := if pNoB b then -1 else pHand (cK c) (cM c) b
def xSwaps (c : CX) (b : Int32) : Int32 := if pNoB b then -1 else pSwap (cK c) (cM c) b
def xIsFor (c : CX) (t w : Int32) : Int32 := if pNoT (cK c) t || pNoW w then -1 else if w = 0 then pPosN (cK c) (cM c) (cI c) t else pPos1 (cK c) (cM c) (cI c) t
def xOdds (c : CX) (b p w : Int32) : Int32 := if pNoB b || decide (p < 0) || decide (10 < p) || pNoW w then -1 else pTerm (pChP (cK c) (cM c) b p) (pChan (cK c)) w
def xCount (c : CX) (w : Int32) : Int32 := if w = 0 then nI (kT (cK c)) else if w = 1 then nI (kO (cK c)) else if w = 2 then kW (cK c) else if w = 3 then nI (iL (cI c)) else if w = 4 then nI (cLe c) else -1
/-! the table of orders, a static of the class -/
def FacOk (U : State) (H : Heap) : Prop := ∃ t : Nat, va_Z RX4 "FACTORIAL" "[I" (.ref t) (fun _ => False) U H ∧ va_T .int t 8 (fun j => .int (facT j)) (fun _ => False) U H
def PreF (G : GG) (W0 : va_W) (U : State) (H : Heap) : Prop := PreW G W0 U H ∧ FacOk U H
theorem FacOk.mv {s U : State} {H : Heap} (h : FacOk s H) (hU : U.heap = H) (hW : s.vm.Alike U.vm) : FacOk U U.heap := by
  obtain ⟨t, h1, h2⟩ := h
  rw [hU]
  exact ⟨t, h1.moved hW, h2.moved hW⟩
theorem PreF.blind {G : GG} {W0 : va_W} {av : List Value} : FrameBlind (va_Pc av (fun U => PreF G W0 U U.heap)) := by
  intro a U g mk h
  obtain ⟨h0, h1, h2⟩ := h
  exact ⟨h0, (PreW.blind (av := av) a U g mk ⟨h0, h1⟩).2, h2.mv (U := U.calling g mk a) rfl (Vm.Alike.refl U.vm)⟩
theorem PreF.pre {G : GG} {W0 : va_W} {s : State} {H : Heap} (h : PreF G W0 s H) {b ci q0 : Nat} {q : vw_C} {fs : List Value} (hc : vwCl[ci]? = some q) (he : W0[q0]? = some (b, .inr (ci, fs))) {As : List Value} : PreV s H q.1 b (va_Pc (.ref b :: As) (fun U => PreF G W0 U U.heap)) As :=
  ⟨PreF.blind, va_recv h.1.2.1 h.1.1 hc he, fun _ hU hW => ⟨rfl, h.1.mv hU hW, h.2.mv hU hW.alike⟩⟩
theorem PreF.preS {G : GG} {W0 : va_W} {s : State} {H : Heap} (h : PreF G W0 s H) {As : List Value} : PreS s H (va_Pc As (fun U => PreF G W0 U U.heap)) As :=
  ⟨PreF.blind, fun _ hU hW => ⟨rfl, h.1.mv hU hW, h.2.mv hU hW.alike⟩⟩
/-! small facts for the walks -/
theorem pNoT_n {k : Cn} {t : Int32} (h : pNoT k t = false) (h7 : kT k ≤ 7) : ∃ j : Nat, j < kT k ∧ t = nI j := by
  simp only [pNoT, decide_eq_false_iff_not, not_or] at h
  rcases pk_ix t (show kT k < 2 ^ 31 by omega) with q | q | q
  · exact absurd q h.1
  · exact absurd q h.2
  · exact q
theorem pNoO_n {k : Cn} {t : Int32} (h : pNoO k t = false) (h7 : kO k ≤ 5) : ∃ j : Nat, j < kO k ∧ t = nI j := by
  simp only [pNoO, decide_eq_false_iff_not, not_or] at h
  rcases pk_ix t (show kO k < 2 ^ 31 by omega) with q | q | q
  · exact absurd q h.1
  · exact absurd q h.2
  · exact q
theorem sh1_pow : ∀ {n : Nat}, n ≤ 5 → sh1 (nI n) = nI (2 ^ n) := by
  intro n hn
  have h : n = 0 ∨ n = 1 ∨ n = 2 ∨ n = 3 ∨ n = 4 ∨ n = 5 := by omega
  rcases h with rfl | rfl | rfl | rfl | rfl | rfl <;> decide
theorem pw_le {n : Nat} (h : n ≤ 5) : 2 ^ n ≤ 32 := by
  have := Nat.pow_le_pow_right (n := 2) (by omega) h
  omega

/-! the model: its state, its world, its answers that change nothing -/
/-- trace, text, typed, next, token, place, value, fault, many, sort, votes, bills, holder, told, s, w, kept, isKept, undos, undoMany, recordBill, recordIs, recordMany -/
abbrev JX : Type := Int64 × Ar × Nat × Nat × Int32 × Nat × Nat × Int32 × (Nat → Nat) × Ar × Ar × Ar × Ar × Bool × Ar × Ar × Ar × (Nat → Bool) × Ar × Nat × Ar × Ar × Nat
abbrev qTr (c : JX) : Int64 := c.1
abbrev qTx (c : JX) : Ar := c.2.1
abbrev qTy (c : JX) : Nat := c.2.2.1
abbrev qNe (c : JX) : Nat := c.2.2.2.1
abbrev qTo (c : JX) : Int32 := c.2.2.2.2.1
abbrev qPl (c : JX) : Nat := c.2.2.2.2.2.1
abbrev qVa (c : JX) : Nat := c.2.2.2.2.2.2.1
abbrev qFa (c : JX) : Int32 := c.2.2.2.2.2.2.2.1
abbrev qN (c : JX) : Nat → Nat := c.2.2.2.2.2.2.2.2.1
abbrev qSo (c : JX) : Ar := c.2.2.2.2.2.2.2.2.2.1
abbrev qVo (c : JX) : Ar := c.2.2.2.2.2.2.2.2.2.2.1
abbrev qBi (c : JX) : Ar := c.2.2.2.2.2.2.2.2.2.2.2.1
abbrev qHo (c : JX) : Ar := c.2.2.2.2.2.2.2.2.2.2.2.2.1
abbrev qTd (c : JX) : Bool := c.2.2.2.2.2.2.2.2.2.2.2.2.2.1
abbrev qS (c : JX) : Ar := c.2.2.2.2.2.2.2.2.2.2.2.2.2.2.1
abbrev qW (c : JX) : Ar := c.2.2.2.2.2.2.2.2.2.2.2.2.2.2.2.1
abbrev qKe (c : JX) : Ar := c.2.2.2.2.2.2.2.2.2.2.2.2.2.2.2.2.1
abbrev qIk (c : JX) : Nat → Bool := c.2.2.2.2.2.2.2.2.2.2.2.2.2.2.2.2.2.1
abbrev qUn (c : JX) : Ar := c.2.2.2.2.2.2.2.2.2.2.2.2.2.2.2.2.2.2.1
abbrev qUm (c : JX) : Nat := c.2.2.2.2.2.2.2.2.2.2.2.2.2.2.2.2.2.2.2.1
abbrev qRb (c : JX) : Ar := c.2.2.2.2.2.2.2.2.2.2.2.2.2.2.2.2.2.2.2.2.1
abbrev qRi (c : JX) : Ar := c.2.2.2.2.2.2.2.2.2.2.2.2.2.2.2.2.2.2.2.2.2.1
abbrev qRm (c : JX) : Nat := c.2.2.2.2.2.2.2.2.2.2.2.2.2.2.2.2.2.2.2.2.2.2
abbrev fsJ (a : Nat → Nat) (c : JX) : List Value := [.int 0, .long (qTr c), .ref (a 9), .int (nI (qTy c)), .int (nI (qNe c)), .int (qTo c), .int (nI (qPl c)), .int (nI (qVa c)), .int (qFa c), .ref (a 1), .ref (a 2), .ref (a 3), .ref (a 4), .ref (a 10), .int (b2i (qTd c)), .ref (a 5), .ref (a 6), .ref (a 11), .ref (a 12), .ref (a 13), .int (nI (qUm c)), .ref (a 7), .ref (a 8), .int (nI (qRm c))]
/-- 0 the model, 1 many, 2 sort, 3 votes, 4 bills, 5 s, 6 w, 7 recordBill, 8 recordIs, 9 text, 10 holder, 11 kept, 12 isKept, 13 undos -/
def WM (G : GG) (a : Nat → Nat) (c : JX) : va_W := [(a 0, .inr (8, fsJ a c)), (a 1, .inl (gI G, 6, .inl (fun i => nI (qN c i)))), eAr G a 2 14 (qSo c), eAr G a 3 14 (qVo c), eAr G a 4 14 (qBi c), eAr G a 5 19 (qS c), eAr G a 6 19 (qW c), eAr G a 7 6 (qRb c), eAr G a 8 6 (qRi c), eAr G a 9 200 (qTx c), eAr G a 10 7 (qHo c), eAr G a 11 38 (qKe c), (a 12, .inl (gZ G, 2, .inl (fun j => b2i (qIk c j)))), eAr G a 13 190 (qUn c)]
def OkJ (c : JX) : Prop := qN c 0 ≤ 7 ∧ 1 ≤ qN c 1 ∧ qN c 1 ≤ 5 ∧ qTy c ≤ 200 ∧ qRm c ≤ 6 ∧ qUm c ≤ 10
/-- the row that is asked about: now, or as if -/
def rP (q : Bool) : Nat := match q with
  | false => 5
  | true => 6
def rF (c : JX) (q : Bool) : Ar := match q with
  | false => qS c
  | true => qW c
theorem WM_row (G : GG) (a : Nat → Nat) (c : JX) (q : Bool) : (WM G a c)[rP q]? = some (a (rP q), .inl (gI G, 19, .inl (rF c q))) := by cases q <;> rfl
theorem WM_fst {G : GG} {a : Nat → Nat} {c c' : JX} : (WM G a c).map Prod.fst = (WM G a c').map Prod.fst := rfl
def pIn (v x y : Int32) : Bool := !decide (v < x) && !decide (y < v)
def jIsT (n : Nat) (t : Int32) : Bool := pIn t 0 (nI n - 1)
def jOnesF (x : Int32) : Nat → Int32 := fo (fun k n => n + bitI x (nI k)) 0
def jOnes (x : Int32) : Int32 := jOnesF x 7
def jSpk (S r : Ar) (t : Nat) : Bool := decide (bitI (r 14) (nI t) = 0) && decide (bitI (r 16) (r t) = 0) && !decide (S t = 3) && (!decide (S t = 1) || !decide (r (7 + t) ≤ 0))
def jVoiF (S r : Ar) : Nat → Int32 := fo (fun t z => z ||| (if jSpk S r t then sh1 (nI t) else 0)) 0
def jVoi (n : Nat) (S r : Ar) : Int32 := jVoiF S r n
def jYesF (B r : Ar) (b : Int32) : Nat → Int32 := fo (fun t z => z ||| (if ((B t >>> (b &&& 31)) ^^^ (r 15 >>> (nI t &&& 31))) &&& 1 = 1 then sh1 (nI t) else 0)) 0
def jYes (n : Nat) (B r : Ar) (b : Int32) : Int32 := jYesF B r b n
def jVotF (V : Ar) (x : Int32) : Nat → Int32 := fo (fun t z => z + (if bitI x (nI t) = 1 then V t else 0)) 0
def jVot (n : Nat) (V : Ar) (x : Int32) : Int32 := jVotF V x n
def jPBy (n : Nat) (V : Ar) (x y : Int32) : Bool := !decide (jVot n V (x &&& y) ≤ jVot n V (x &&& iv y))
def jPas (n : Nat) (S V B r : Ar) (b : Int32) : Bool := jPBy n V (jVoi n S r) (jYes n B r b)
def jHelF (s : Ar) (o : Int32) : Nat → Int32 := fo (fun t z => z ||| (if s t = o then sh1 (nI t) else 0)) 0
def jHel (n : Nat) (s : Ar) (o : Int32) : Int32 := jHelF s o n
def jVHe (n : Nat) (S V s : Ar) (o : Int32) : Int32 := jVot n V (jHel n s o &&& jVoi n S s)
def jMosF (n : Nat) (S V s : Ar) : Nat → Int32 := fo (fun o z => if jVHe n S V s (nI (o + 1)) ≤ jVHe n S V s z then z else nI (o + 1)) 0
def jMos (n m : Nat) (S V s : Ar) : Int32 := jMosF n S V s (m - 1)
def jCar (n : Nat) (S V s : Ar) (x : Int32) : Bool := !decide (2 * jVot n V x ≤ jVot n V (jVoi n S s))
def jOrdF : Nat → Int32 := fo (fun k r => r * nI (k + 2)) 1
def jOrd (n : Int32) : Int32 := jOrdF (n.toInt - 1).toNat
def jDecF (n : Nat) (S V s : Ar) (t : Nat) : Nat → Int32 := fo (fun i z => z + (if nI i &&& iv (jVoi n S s) = 0 ∧ bitI (nI i) (nI t) = 0 ∧ jCar n S V s (nI i) = false ∧ jCar n S V s (nI i ||| sh1 (nI t)) = true then jOrd (jOnes (nI i)) * jOrd (jOnes (jVoi n S s) - 1 - jOnes (nI i)) else 0)) 0
def jDec (n : Nat) (S V s : Ar) (t : Nat) : Int32 := jDecF n S V s t 128
def jLeaB (n : Nat) (S V s : Ar) (x : Int32) (t : Nat) : Bool := decide (bitI x (nI t) = 0) || !jCar n S V s (x &&& iv (sh1 (nI t)))
def jLea0 (n : Nat) (S V s : Ar) (x : Int32) : Bool := decide (x &&& iv (jVoi n S s) = 0) && jCar n S V s x
def jLea (n : Nat) (S V s : Ar) (x : Int32) : Bool := jLea0 n S V s x && allB (jLeaB n S V s x) n
def jSwyB (n : Nat) (V : Ar) (x y : Int32) (t : Nat) : Bool := decide (bitI x (nI t) = 1) && !decide (jPBy n V (x &&& iv (sh1 (nI t))) y = jPBy n V x y)
def jSwyF (n : Nat) (V : Ar) (x y : Int32) : Nat → Int32 := fo (fun t z => z ||| (if jSwyB n V x y t then sh1 (nI t) else 0)) 0
def jSwy (n : Nat) (S V B s : Ar) (b : Int32) : Int32 := jSwyF n V (jVoi n S s) (jYes n B s b) n
def jRecB (n : Nat) (S V B r rb ri : Ar) (k : Nat) : Bool := decide (jPas n S V B r (rb k) = decide (ri k = 1))
def jRec (n : Nat) (S V B r rb ri : Ar) (m : Nat) : Bool := allB (jRecB n S V B r rb ri) m
theorem bitI_01 (x y : Int32) : bitI x y = 0 ∨ bitI x y = 1 := by
  have h := pk_and (x >>> (y &&& 31)) (m := 1) 1 (by decide)
  have h2 : (x >>> (y &&& 31)).toBitVec.toNat % 2 ^ 1 < 2 := Nat.mod_lt _ (by decide)
  rw [bitI, h]
  generalize (x >>> (y &&& 31)).toBitVec.toNat % 2 ^ 1 = k at h2 ⊢
  have : k = 0 ∨ k = 1 := by omega
  rcases this with rfl | rfl
  · left; rfl
  · right; rfl
theorem bitI_n0 {x y : Int32} (h : ¬ bitI x y = 0) : bitI x y = 1 := (bitI_01 x y).resolve_left h
theorem bitI_n1 {x y : Int32} (h : ¬ bitI x y = 1) : bitI x y = 0 := (bitI_01 x y).resolve_right h
theorem jOnesF_n (x : Int32) : ∀ n : Nat, ∃ k : Nat, k ≤ n ∧ jOnesF x n = nI k
  | 0 => ⟨0, Nat.le_refl 0, rfl⟩
  | n + 1 => by
    obtain ⟨k, h1, h2⟩ := jOnesF_n x n
    rcases bitI_01 x (nI n) with q | q
    · exact ⟨k, by omega, by rw [jOnesF, fo_s, ← jOnesF, h2, q, show (0 : Int32) = nI 0 from rfl, nI_add]; rfl⟩
    · exact ⟨k + 1, by omega, by rw [jOnesF, fo_s, ← jOnesF, h2, q, show (1 : Int32) = nI 1 from rfl, nI_add]⟩
theorem jOnes_n (x : Int32) : ∃ k : Nat, k ≤ 7 ∧ jOnes x = nI k := jOnesF_n x 7
theorem jOnes_7 (x : Int32) : jOnes x ≤ 7 := by
  obtain ⟨k, h1, h2⟩ := jOnes_n x
  rw [h2, show (7 : Int32) = nI 7 from rfl, nI_leI (by omega) (by omega)]
  exact h1
theorem jOnes_s7 (x y : Int32) : jOnes x - 1 - jOnes y ≤ 7 := by
  obtain ⟨k, h1, h2⟩ := jOnes_n x
  obtain ⟨j, h3, h4⟩ := jOnes_n y
  rw [h2, h4]
  have key : ∀ k, k < 8 → ∀ j, j < 8 → nI k - 1 - nI j ≤ 7 := by decide +kernel
  exact key k (by omega) j (by omega)
theorem jIsT_n {n : Nat} {t : Int32} (h : jIsT n t = true) (h7 : n ≤ 7) : ∃ j : Nat, j < n ∧ t = nI j := by
  simp only [jIsT, pIn, Bool.and_eq_true, Bool.not_eq_true', decide_eq_false_iff_not] at h
  rcases pk_ix t (show n < 2 ^ 31 by omega) with q | q | q
  · exact absurd q h.1
  · exfalso
    have h2 := h.2
    have key : ∀ n, n < 8 → ((nI n) - 1).toInt = (n : Int) - 1 := by decide +kernel
    have h3 := Int32.le_iff_toInt_le.mp q
    have h4 := Int32.not_lt.mp h2
    have h5 := Int32.le_iff_toInt_le.mp h4
    rw [key n (by omega)] at h5
    rw [nI_toInt (by omega)] at h3
    omega
  · exact q
theorem updN_eq (f : Nat → Nat) (i v : Nat) : upd (fun j => nI (f j)) i (nI v) = fun j => nI (va_up f i v j) := by
  funext j
  simp only [upd, va_up]
  split <;> rfl
theorem jOrd_at {n : Int32} {i : Nat} (h1 : i = 0 ∨ nI (i + 1) ≤ n) (h2 : n < nI (i + 2)) (hi : i ≤ 7) : jOrdF i = jOrd n := by
  have h3 := Int32.lt_iff_toInt_lt.mp h2
  rw [nI_toInt (by omega)] at h3
  rw [jOrd]
  congr 1
  rcases h1 with q | q
  · omega
  · have h4 := Int32.le_iff_toInt_le.mp q
    rw [nI_toInt (by omega)] at h4
    omega
theorem rem_n {u w : Nat} (hu : u < 2 ^ 31) (h0 : 0 < w) (hw : w < 2 ^ 31) : nI u - nI u / nI w * nI w = nI (u % w) := pk_rem hu h0 hw
section WKJ
variable {p : Program} {l : Launch} {e : Env} {R : Room} {s : State} {m : MethodId} {args : Array Value} {below : List Frame} {meth : Method} {c : Code} {H : Heap} {locs : List Loc} {cells slots : Nat} {Q : State → Prop} {cc : ByteArray} {pc : Nat} {ls : Array Slot} {rest : List Value}
theorem wk_add0 (hexec : p.tables.exec = Jvm.exec) (hb : c.code = cc) {x : Nat} (hdg : decode cc pc = .ok (.iadd, 1)) (k : W p l e R s m args below meth c H locs cells slots Q (F0 m (pc + 1) ls (.int (nI x) :: rest))) : W p l e R s m args below meth c H locs cells slots Q (F0 m pc ls (.int (nI x) :: .int 0 :: rest)) := by
  refine lv_iadd hexec hb hdg ?_
  rw [show (0 : Int32) = nI 0 from rfl, nI_add, Nat.zero_add]
  exact k
end WKJ

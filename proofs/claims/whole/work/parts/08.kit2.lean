/-! OWN HELPERS for the methods that write -/
theorem arrV_congr {cI : ClassId} {n : Nat} {f g : Nat → Value} (h : ∀ i, i < n → f i = g i) : arrV cI n f = arrV cI n g := by
  unfold arrV
  congr 1
  apply congrArg
  funext j
  exact h j.val j.isLt
theorem va_P_arr {D : va_G} {cl : List vw_C} {A : Nat → Prop} {ws : va_W} {H : Heap} {q0 a : Nat} {cA : ClassId} {n : Nat} {f : Nat → Int32} (h : va_P D cl ws H) (hD : va_D A ws) (he : ws[q0]? = some (a, .inl (cA, n, .inl f))) (g : Nat → Int32) (hfg : ∀ i, i < n → f i = g i) : va_P D cl (ws.set q0 (a, .inl (cA, n, .inl g))) H := by
  refine h.set hD he ?_ (fun _ _ => rfl)
  have h0 := h q0 _ he
  show H[a]? = some (vp_cell cA (n, .inl g))
  have h1 : H[a]? = some (vp_cell cA (n, .inl f)) := h0
  rw [h1, vp_cell_i, vp_cell_i, arrV_congr (fun i hi => by rw [hfg i hi])]
theorem va_P_arq {D : va_G} {cl : List vw_C} {A : Nat → Prop} {ws : va_W} {H : Heap} {q0 a : Nat} {cA : ClassId} {n : Nat} {f : Nat → Option Nat} (h : va_P D cl ws H) (hD : va_D A ws) (he : ws[q0]? = some (a, .inl (cA, n, .inr (.inr (.inr (.inr f)))))) (g : Nat → Option Nat) (hfg : ∀ i, i < n → f i = g i) : va_P D cl (ws.set q0 (a, .inl (cA, n, .inr (.inr (.inr (.inr g)))))) H := by
  refine h.set hD he ?_ (fun _ _ => rfl)
  have h0 := h q0 _ he
  show H[a]? = some (vp_cell cA (n, .inr (.inr (.inr (.inr g)))))
  have h1 : H[a]? = some (vp_cell cA (n, .inr (.inr (.inr (.inr f))))) := h0
  rw [h1, vp_cell_q, vp_cell_q, arrV_congr (fun i hi => by rw [hfg i hi])]
theorem va_P_left {D : va_G} {cl : List vw_C} {w1 w2 : va_W} {H : Heap} (h : va_P D cl (w1 ++ w2) H) : va_P D cl w1 H := fun k q hk => h k q (by rw [List.getElem?_append_left (List.getElem?_eq_some_iff.mp hk).1]; exact hk)
theorem set_set_same {ws : va_W} {k : Nat} {x y : Nat × va_E} : (ws.set k x).set k y = ws.set k y := by simp
section WK2
variable {p : Program} {l : Launch} {e : Env} {R : Room} {s : State} {m : MethodId} {args : Array Value} {below : List Frame} {meth : Method} {c : Code} {H : Heap} {locs : List Loc} {cells slots : Nat} {Q : State → Prop}
variable {cc : ByteArray} {pc : Nat} {ls : Array Slot} {rest st0 : List Value} {D : va_G} {cl : List vw_C} {A A0 : Nat → Prop} {a : Nat} {av : Array Value} {tys : List (ClassId × FieldType)} {ws : va_W} {H0 : Heap} {mc ms : Nat}
/-- System.arraycopy of all seven -/
theorem wk_copy7 {cc : ByteArray} (hexec : p.tables.exec = Jvm.exec) (hb : c.code = cc) (hml : c.maxLocals = ls.size) {own : String} {index : Nat} (hown : s.vm.findClass own = some m.cls) (hlink : (Cond.methodLink own index arraycopyName).before args s = true) (hnat : (Cond.native arraycopyName).before args s = true) (hstat : (Cond.static arraycopyName).before args s = true) (hini : (Cond.initialized "java/lang/System").before args s = true)
    (hK : va_K D cl tys s) (hP : va_P D cl ws H) (hD : va_D A ws) (hS : va_S A H0 H locs) (q0 q1 t0 : Nat) {a0 : Nat} {c0 : ClassId} {f g : Nat → Int32} (ha0 : ws[q0]? = some (a0, .inl (c0, 7, .inl f))) (ha1 : ws[q1]? = some (a, .inl (c0, 7, .inl g))) (ht0 : tys[t0]? = some (c0, .int))
    (hframes : 1 ≤ R.frames) (hlocals : (rest.map fun v => v.category).sum + (nativeFrameWords "java/lang/System" "arraycopy" 5 + 11) ≤ R.locals) (hdg : decode cc pc = .ok (.invokestatic index, 3))
    (kk : ∀ (H1 : Heap) (locs1 : List Loc), va_P D cl (ws.set q1 (a, .inl (c0, 7, .inl f))) H1 → va_D A (ws.set q1 (a, .inl (c0, 7, .inl f))) → va_S A H0 H1 locs1 → W p l e R s m args below meth c H1 locs1 cells slots Q (F0 m (pc + 3) ls rest)) : W p l e R s m args below meth c H locs cells slots Q (F0 m pc ls (.int 7 :: .int 0 :: .ref a :: .int 0 :: .ref a0 :: rest)) := by
  refine va_copyi hexec hb hml hown hlink hnat hstat hini hK hP hD hS q0 q1 t0 t0 ha0 ha1 ht0 ht0 rfl (by decide) (by decide) (by decide) (by decide) (by decide) (fun i _ => rfl) hframes hlocals hdg (fun H1 locs1 hP1 hD1 hS1 => ?_)
  have hl : q1 < ws.length := (List.getElem?_eq_some_iff.mp ha1).1
  have h2 := va_P_arr hP1 hD1 (List.getElem?_set_self hl) f (fun i hi => by
    show va_cpy f g 0 0 7 i = f i
    unfold va_cpy
    rw [if_pos ⟨Nat.zero_le i, by omega⟩]
    simp)
  rw [set_set_same] at h2
  exact kk H1 locs1 h2 (hD.set ha1) hS1
/-- a call whose world is the caller's whole world -/
theorem wk_callA {r : Option Value} {W1 : va_W} (hr : va_Run p l e R s m args below meth c H locs cells slots mc ms (F0 m pc ls st0) rest (Qm D cl r W1 (va_A ws H.size) av) (va_A ws H.size)) (hD : va_D A0 ws) (hS : va_S A0 H0 H locs) (hA : ∀ q, H0.size ≤ q → A0 q) (ha : W1.map Prod.fst = ws.map Prod.fst)
    (kk : ∀ (H1 : Heap) (locs1 : List Loc), va_P D cl W1 H1 → va_D A0 W1 → va_S A0 H0 H1 locs1 → W p l e R s m args below meth c H1 locs1 (cells + mc) (slots + ms) Q (F0 m (pc + 3) ls (r.toList ++ rest))) : W p l e R s m args below meth c H locs cells slots Q (F0 m pc ls st0) := by
  intro T hT X
  obtain ⟨v, st₀, t, T', L, h0, X', hL, e1, e2, ⟨hv, hp1, hz, hk⟩, st⟩ := hr T hT X
  cases hv
  rw [h0] at hz hk
  have hF : ∀ q, va_A ws H.size q → A0 q := by
    intro q h
    rcases h with ⟨k, e, h⟩ | h
    · exact hD.2 k (q, e) h
    · exact hA q (Nat.le_trans hS.1 h)
  have key : ∀ (k : Nat) (q : Nat × va_E), W1[k]? = some q → ∃ q0, ws[k]? = some q0 ∧ q0.1 = q.1 := by
    intro k q hq
    have h3 : (W1.map Prod.fst)[k]? = some q.1 := by rw [List.getElem?_map, hq]; rfl
    rw [ha, List.getElem?_map] at h3
    cases hw : ws[k]? with
    | none => rw [hw] at h3; cases h3
    | some q0 => rw [hw] at h3; exact ⟨q0, rfl, Option.some.inj h3⟩
  have hD2 : va_D A0 W1 := by
    refine ⟨fun i j x y hi hj hxy => ?_, fun k q hq => ?_⟩
    · obtain ⟨x0, h1, h2⟩ := key i x hi
      obtain ⟨y0, h3, h4⟩ := key j y hj
      exact hD.1 i j x0 y0 h1 h3 (h2.trans (hxy.trans h4.symm))
    · obtain ⟨q0, h1, h2⟩ := key k q hq
      rw [← h2]
      exact hD.2 k q0 h1
  obtain ⟨t2, a1, b1⟩ := kk T'.heap (locs ++ L) (by rw [e1]; exact hp1) hD2
    ⟨Nat.le_trans hS.1 (by rw [e1]; exact hz), fun q h1 h2 => by rw [e1, hk q (Nat.lt_of_lt_of_le h1 hS.1) (fun z => h2 (hF q z))]; exact hS.2.1 q h1 h2, fun q hq => by
      rcases List.mem_append.mp hq with h | h
      · exact hS.2.2 q h
      · exact hF _ (hL q h)⟩ T' rfl X'
  exact ⟨t2, st t2 a1, b1⟩
/-- ends of a method that writes: its world W2 is the promised one -/
theorem wk_mret' {v : Int32} {r : Option Value} {W1 W2 : va_W} (hexec : p.tables.exec = Jvm.exec) (hb : c.code = cc) (hr : meth.sig.returnType = some .int) (hlocks : meth.locks = false) (hdg : decode cc pc = .ok (.ireturn, 1)) (hP : va_P D cl W2 H) (hS : va_S A s.heap H locs) (he : r = some (Value.int v)) (hW : W1 = W2) : W p l e R s m args below meth c H locs cells slots (MQ below (Qm D cl r W1 A) args s cells slots A) (F0 m pc ls [.int v]) := by
  subst hW
  exact wk_mret hexec hb hr hlocks hdg hP hS he.symm
theorem wk_mzret' {v : Int32} {r : Option Value} {W1 W2 : va_W} (hexec : p.tables.exec = Jvm.exec) (hb : c.code = cc) (hr : meth.sig.returnType = some .boolean) (hn : narrow .boolean (.int v) = .int v) (hlocks : meth.locks = false) (hdg : decode cc pc = .ok (.ireturn, 1)) (hP : va_P D cl W2 H) (hS : va_S A s.heap H locs) (he : r = some (Value.int v)) (hW : W1 = W2) : W p l e R s m args below meth c H locs cells slots (MQ below (Qm D cl r W1 A) args s cells slots A) (F0 m pc ls [.int v]) := by
  subst hW
  subst he
  exact W.zret hexec hb hr hn (fun t ht _ => ⟨rfl, by rw [ht]; exact hP, hS.F ht⟩) hS.2.2 hdg hlocks
theorem wk_mvret' {W1 W2 : va_W} (hexec : p.tables.exec = Jvm.exec) (hb : c.code = cc) (hr : meth.sig.returnType = none) (hlocks : meth.locks = false) (hdg : decode cc pc = .ok (.return_, 1)) (hP : va_P D cl W2 H) (hS : va_S A s.heap H locs) (hW : W1 = W2) : W p l e R s m args below meth c H locs cells slots (MQ below (Qm D cl none W1 A) args s cells slots A) (F0 m pc ls []) := by
  subst hW
  exact wk_mvret hexec hb hr hlocks hdg hP hS
end WK2
theorem PreM.mk {G : GG} {W0 : va_W} {A0 : Nat → Prop} {s : State} {H : Heap} (hP : va_P G.1 vwCl W0 H) (hK : va_K G.1 vwCl (tysG G) s) (hN : NW s) (hD : va_D A0 W0) : PreM G W0 H.size s H := ⟨⟨hP, hK, hN⟩, hD.weaken (fun _ _ _ _ => trivial), rfl⟩
/-! the class's state, written anew in one place -/
def setTx (c : CX) (v : Ar) : CX := (v, cLe c, cK c, cDr c, cRd c, cM c, cI c, cNx c, cKn c, cRi c, cIm c, cKe c, cTr c)
def setLe (c : CX) (v : Nat) : CX := (cTx c, v, cK c, cDr c, cRd c, cM c, cI c, cNx c, cKn c, cRi c, cIm c, cKe c, cTr c)
def setK (c : CX) (v : Cn) : CX := (cTx c, cLe c, v, cDr c, cRd c, cM c, cI c, cNx c, cKn c, cRi c, cIm c, cKe c, cTr c)
def setDrRd (c : CX) (v : Cn) (w : Rd) : CX := (cTx c, cLe c, cK c, v, w, cM c, cI c, cNx c, cKn c, cRi c, cIm c, cKe c, cTr c)
def setM (c : CX) (v : Mo) : CX := (cTx c, cLe c, cK c, cDr c, cRd c, v, cI c, cNx c, cKn c, cRi c, cIm c, cKe c, cTr c)
def setI (c : CX) (v : Mi) : CX := (cTx c, cLe c, cK c, cDr c, cRd c, cM c, v, cNx c, cKn c, cRi c, cIm c, cKe c, cTr c)
def setNK (c : CX) (v w : Nat) : CX := (cTx c, cLe c, cK c, cDr c, cRd c, cM c, cI c, v, w, cRi c, cIm c, cKe c, cTr c)
def setRi (c : CX) (v : Nat → Mo) : CX := (cTx c, cLe c, cK c, cDr c, cRd c, cM c, cI c, cNx c, cKn c, v, cIm c, cKe c, cTr c)
def setIm (c : CX) (v : Nat → Mo) : CX := (cTx c, cLe c, cK c, cDr c, cRd c, cM c, cI c, cNx c, cKn c, cRi c, v, cKe c, cTr c)
def setKe (c : CX) (v : Int32) : CX := (cTx c, cLe c, cK c, cDr c, cRd c, cM c, cI c, cNx c, cKn c, cRi c, cIm c, v, cTr c)
def setTr (c : CX) (v : Int64) : CX := (cTx c, cLe c, cK c, cDr c, cRd c, cM c, cI c, cNx c, cKn c, cRi c, cIm c, cKe c, v)
abbrev rLen (r : Rd) : Nat := r.1
abbrev rPl (r : Rd) : Nat := r.2.1
abbrev rTok (r : Rd) : Int32 := r.2.2.1
abbrev rTP (r : Rd) : Nat := r.2.2.2.1
abbrev rNum (r : Rd) : Nat := r.2.2.2.2.1
abbrev rFa (r : Rd) : Int32 := r.2.2.2.2.2.1
abbrev rWa (r : Rd) : Bool := r.2.2.2.2.2.2
abbrev eRd (a : Nat → Nat) (r : Rd) : Nat × va_E := (a 21, .inr (5, [.ref (a 15), .ref (a 16), .int (nI (rLen r)), .int (nI (rPl r)), .int (rTok r), .int (nI (rTP r)), .int (nI (rNum r)), .int (rFa r), .int (b2i (rWa r))]))
/-- all that the class has: what is read (0 .. 14); 15 text, 16 draft (17 .. 20), 21 reader, 22 ring (23 + 3 j), 53 images (54 + 3 j) -/
def WX (G : GG) (a : Nat → Nat) (c : CX) : va_W := WR G a c ++ [(a 15, .inl (gC G, 200, .inl (cTx c))), eCn a 16 (cDr c), eAr G a 17 7 (kS (cDr c)), eAr G a 18 7 (kV (cDr c)), eAr G a 19 7 (kB (cDr c)), eAr G a 20 7 (kF (cDr c)), eRd a (cRd c), (a 22, .inl (gO G, 10, .inr (.inr (.inr (.inr (fun j => some (a (23 + 3 * j)))))))), eMo a 23 (cRi c 0), eAr G a 24 7 (mH (cRi c 0)), eAr G a 25 7 (mW (cRi c 0)), eMo a 26 (cRi c 1), eAr G a 27 7 (mH (cRi c 1)), eAr G a 28 7 (mW (cRi c 1)), eMo a 29 (cRi c 2), eAr G a 30 7 (mH (cRi c 2)), eAr G a 31 7 (mW (cRi c 2)), eMo a 32 (cRi c 3), eAr G a 33 7 (mH (cRi c 3)), eAr G a 34 7 (mW (cRi c 3)), eMo a 35 (cRi c 4), eAr G a 36 7 (mH (cRi c 4)), eAr G a 37 7 (mW (cRi c 4)), eMo a 38 (cRi c 5), eAr G a 39 7 (mH (cRi c 5)), eAr G a 40 7 (mW (cRi c 5)), eMo a 41 (cRi c 6), eAr G a 42 7 (mH (cRi c 6)), eAr G a 43 7 (mW (cRi c 6)), eMo a 44 (cRi c 7), eAr G a 45 7 (mH (cRi c 7)), eAr G a 46 7 (mW (cRi c 7)), eMo a 47 (cRi c 8), eAr G a 48 7 (mH (cRi c 8)), eAr G a 49 7 (mW (cRi c 8)), eMo a 50 (cRi c 9), eAr G a 51 7 (mH (cRi c 9)), eAr G a 52 7 (mW (cRi c 9)), (a 53, .inl (gO G, 2, .inr (.inr (.inr (.inr (fun j => some (a (54 + 3 * j)))))))), eMo a 54 (cIm c 0), eAr G a 55 7 (mH (cIm c 0)), eAr G a 56 7 (mW (cIm c 0)), eMo a 57 (cIm c 1), eAr G a 58 7 (mH (cIm c 1)), eAr G a 59 7 (mW (cIm c 1))]
/-- the reader's part: 0 reader, 1 text, 2 draft (3 .. 6) -/
def WD (G : GG) (a : Nat → Nat) (tx : Ar) (d : Cn) (r : Rd) : va_W := [eRd a r, (a 15, .inl (gC G, 200, .inl tx)), eCn a 16 d, eAr G a 17 7 (kS d), eAr G a 18 7 (kV d), eAr G a 19 7 (kB d), eAr G a 20 7 (kF d)]
/-- two moments: 0 the one that is written (1, 2), 3 the one that is read (4, 5) -/
def WC (G : GG) (b : Nat → Nat) (x y : Mo) : va_W := [eMo b 0 x, eAr G b 1 7 (mH x), eAr G b 2 7 (mW x), eMo b 3 y, eAr G b 4 7 (mH y), eAr G b 5 7 (mW y)]
def twoM (a : Nat → Nat) (i j : Nat) : Nat → Nat := fun k => if k < 3 then a (i + k) else a (j + (k - 3))
theorem ring_nd {j : Nat} (h : j < 10) : va_nd [23 + 3 * j, 24 + 3 * j, 25 + 3 * j, 6, 7, 8] = true := by
  have h : j = 0 ∨ j = 1 ∨ j = 2 ∨ j = 3 ∨ j = 4 ∨ j = 5 ∨ j = 6 ∨ j = 7 ∨ j = 8 ∨ j = 9 := by omega
  rcases h with rfl | rfl | rfl | rfl | rfl | rfl | rfl | rfl | rfl | rfl <;> rfl
theorem ring_nd2 {j : Nat} (h : j < 10) : va_nd [6, 7, 8, 23 + 3 * j, 24 + 3 * j, 25 + 3 * j] = true := by
  have h : j = 0 ∨ j = 1 ∨ j = 2 ∨ j = 3 ∨ j = 4 ∨ j = 5 ∨ j = 6 ∨ j = 7 ∨ j = 8 ∨ j = 9 := by omega
  rcases h with rfl | rfl | rfl | rfl | rfl | rfl | rfl | rfl | rfl | rfl <;> rfl
theorem ring_get (G : GG) (a : Nat → Nat) (c : CX) {j : Nat} (h : j < 10) : [23 + 3 * j, 24 + 3 * j, 25 + 3 * j, 6, 7, 8].map (fun i => (WX G a c)[i]?) = (WC G (twoM a (23 + 3 * j) 6) (cRi c j) (cM c)).map some := by
  have h : j = 0 ∨ j = 1 ∨ j = 2 ∨ j = 3 ∨ j = 4 ∨ j = 5 ∨ j = 6 ∨ j = 7 ∨ j = 8 ∨ j = 9 := by omega
  rcases h with rfl | rfl | rfl | rfl | rfl | rfl | rfl | rfl | rfl | rfl <;> rfl
theorem ring_get2 (G : GG) (a : Nat → Nat) (c : CX) {j : Nat} (h : j < 10) : [6, 7, 8, 23 + 3 * j, 24 + 3 * j, 25 + 3 * j].map (fun i => (WX G a c)[i]?) = (WC G (twoM a 6 (23 + 3 * j)) (cM c) (cRi c j)).map some := by
  have h : j = 0 ∨ j = 1 ∨ j = 2 ∨ j = 3 ∨ j = 4 ∨ j = 5 ∨ j = 6 ∨ j = 7 ∨ j = 8 ∨ j = 9 := by omega
  rcases h with rfl | rfl | rfl | rfl | rfl | rfl | rfl | rfl | rfl | rfl <;> rfl
theorem ring_set (G : GG) (a : Nat → Nat) (c : CX) {j : Nat} (h : j < 10) : setL (WX G a c) [23 + 3 * j, 24 + 3 * j, 25 + 3 * j, 6, 7, 8] (WC G (twoM a (23 + 3 * j) 6) (cM c) (cM c)) = WX G a (setRi c (va_up (cRi c) j (cM c))) := by
  have h : j = 0 ∨ j = 1 ∨ j = 2 ∨ j = 3 ∨ j = 4 ∨ j = 5 ∨ j = 6 ∨ j = 7 ∨ j = 8 ∨ j = 9 := by omega
  rcases h with rfl | rfl | rfl | rfl | rfl | rfl | rfl | rfl | rfl | rfl <;> rfl
theorem ring_set2 (G : GG) (a : Nat → Nat) (c : CX) {j : Nat} (h : j < 10) : setL (WX G a c) [6, 7, 8, 23 + 3 * j, 24 + 3 * j, 25 + 3 * j] (WC G (twoM a 6 (23 + 3 * j)) (cRi c j) (cRi c j)) = WX G a (setM c (cRi c j)) := by
  have h : j = 0 ∨ j = 1 ∨ j = 2 ∨ j = 3 ∨ j = 4 ∨ j = 5 ∨ j = 6 ∨ j = 7 ∨ j = 8 ∨ j = 9 := by omega
  rcases h with rfl | rfl | rfl | rfl | rfl | rfl | rfl | rfl | rfl | rfl <;> rfl
theorem imgs_nd {j : Nat} (h : j < 2) : va_nd [54 + 3 * j, 55 + 3 * j, 56 + 3 * j, 6, 7, 8] = true := by
  have h : j = 0 ∨ j = 1 := by omega
  rcases h with rfl | rfl <;> rfl
theorem imgs_nd2 {j : Nat} (h : j < 2) : va_nd [6, 7, 8, 54 + 3 * j, 55 + 3 * j, 56 + 3 * j] = true := by
  have h : j = 0 ∨ j = 1 := by omega
  rcases h with rfl | rfl <;> rfl
theorem imgs_get (G : GG) (a : Nat → Nat) (c : CX) {j : Nat} (h : j < 2) : [54 + 3 * j, 55 + 3 * j, 56 + 3 * j, 6, 7, 8].map (fun i => (WX G a c)[i]?) = (WC G (twoM a (54 + 3 * j) 6) (cIm c j) (cM c)).map some := by
  have h : j = 0 ∨ j = 1 := by omega
  rcases h with rfl | rfl <;> rfl
theorem imgs_get2 (G : GG) (a : Nat → Nat) (c : CX) {j : Nat} (h : j < 2) : [6, 7, 8, 54 + 3 * j, 55 + 3 * j, 56 + 3 * j].map (fun i => (WX G a c)[i]?) = (WC G (twoM a 6 (54 + 3 * j)) (cM c) (cIm c j)).map some := by
  have h : j = 0 ∨ j = 1 := by omega
  rcases h with rfl | rfl <;> rfl
theorem imgs_set (G : GG) (a : Nat → Nat) (c : CX) {j : Nat} (h : j < 2) : setL (WX G a c) [54 + 3 * j, 55 + 3 * j, 56 + 3 * j, 6, 7, 8] (WC G (twoM a (54 + 3 * j) 6) (cM c) (cM c)) = WX G a (setIm c (va_up (cIm c) j (cM c))) := by
  have h : j = 0 ∨ j = 1 := by omega
  rcases h with rfl | rfl <;> rfl
theorem imgs_set2 (G : GG) (a : Nat → Nat) (c : CX) {j : Nat} (h : j < 2) : setL (WX G a c) [6, 7, 8, 54 + 3 * j, 55 + 3 * j, 56 + 3 * j] (WC G (twoM a 6 (54 + 3 * j)) (cIm c j) (cIm c j)) = WX G a (setM c (cIm c j)) := by
  have h : j = 0 ∨ j = 1 := by omega
  rcases h with rfl | rfl <;> rfl
abbrev DS : Type := Cn × Rd
def WDs (G : GG) (a : Nat → Nat) (tx : Ar) (c : DS) : va_W := WD G a tx c.1 c.2
/-- what keeps the reader in its rows -/
def OkD (c : DS) : Prop := kT c.1 ≤ 7 ∧ 1 ≤ kO c.1 ∧ kO c.1 ≤ 5 ∧ rLen c.2 ≤ 200 ∧ rPl c.2 ≤ rLen c.2 ∧ rTP c.2 ≤ rPl c.2 ∧ rNum c.2 ≤ 32
theorem updB_eq (f : Nat → Bool) (i : Nat) (v : Bool) : upd (fun j => b2i (f j)) i (b2i v) = fun j => b2i (va_up f i v j) := by
  funext j
  by_cases h : j = i <;> simp [upd, va_up, h]
theorem min_n {x y : Nat} (hx : x < 2 ^ 31) (hy : y < 2 ^ 31) : (if nI y < nI x then nI y else nI x) = nI (min x y) := by
  by_cases h : y < x
  · rw [if_pos ((nI_ltI hy hx).mpr h), Nat.min_eq_right (by omega)]
  · rw [if_neg (fun q => h ((nI_ltI hy hx).mp q)), Nat.min_eq_left (by omega)]
theorem chr_small {j : Nat} (h : j < 256) : vp_nar .char ((nI j).toUInt32 % 65536).toInt32 = nI j := by
  rw [pk_vc, pk_char, pk_tn (by omega), Nat.mod_eq_of_lt (by omega)]
/-! the reader, as the class reads -/
def mkF (r : Rd) : Rd := if rFa r = -1 then (rLen r, rPl r, rTok r, rTP r, rNum r, nI (rTP r), rWa r) else r
def isDig (x : Int32) : Bool := decide (48 ≤ x) && decide (x ≤ 57)
def dg (x : Int32) : Nat := x.toNatClampNeg - 48
theorem dg_of {x : Int32} (h : isDig x = true) : ∃ q : Nat, q < 10 ∧ x = nI (48 + q) := by
  simp only [isDig, Bool.and_eq_true, decide_eq_true_eq] at h
  have h0 : ¬ x < 0 := fun z => by
    have h1 := Int32.le_iff_toInt_le.mp h.1
    have h2 := Int32.lt_iff_toInt_lt.mp z
    have h3 : (48 : Int32).toInt = 48 := rfl
    have h4 : (0 : Int32).toInt = 0 := rfl
    omega
  obtain ⟨j, hj, rfl⟩ := nI_of h0
  have h1 : nI 48 ≤ nI j := h.1
  have h2 : nI j ≤ nI 57 := h.2
  rw [nI_leI (by omega) hj] at h1
  rw [nI_leI hj (by omega)] at h2
  exact ⟨j - 48, by omega, by rw [show 48 + (j - 48) = j by omega]⟩
theorem dg_eq {x : Int32} (h : isDig x = true) : x - 48 = nI (dg x) := by
  obtain ⟨q, hq, rfl⟩ := dg_of h
  rw [dg, nI_clamp (by omega), show 48 + q - 48 = q by omega]
  show nI (48 + q) - nI 48 = nI q
  rw [pk_sub (by omega), show 48 + q - 48 = q by omega]
theorem dg_lt {x : Int32} (h : isDig x = true) : dg x < 10 := by
  obtain ⟨q, hq, rfl⟩ := dg_of h
  rw [dg, nI_clamp (by omega)]
  omega
def skF (tx : Ar) (len : Nat) : Nat → Nat → Nat
  | 0, p => p
  | n + 1, p => if p < len ∧ tx p = 32 then skF tx len n (p + 1) else p
def skB (tx : Ar) (len p : Nat) : Nat := skF tx len (len - p) p
def dgF (tx : Ar) (len : Nat) : Nat → Nat → Nat → Nat × Nat
  | 0, p, m => (p, m)
  | n + 1, p, m => if p < len ∧ isDig (tx p) = true then dgF tx len n (p + 1) (min (m * 10 + dg (tx p)) 32) else (p, m)
def dgB (tx : Ar) (len p : Nat) : Nat × Nat := dgF tx len (len - p) p 0
def plR (r : Rd) (p : Nat) : Rd := (rLen r, p, rTok r, rTP r, rNum r, rFa r, rWa r)
def pnR (r : Rd) (p m : Nat) : Rd := (rLen r, p, rTok r, rTP r, m, rFa r, rWa r)
def tkT (z t : Bool) (d m : Nat) : Int32 := if (z && decide (1 < d)) || decide (31 < m) then -3 else if t then -2 else -2
def tkD (tx : Ar) (r : Rd) : Rd := (rLen r, (dgB tx (rLen r) (rPl r)).1, (if (tx (rPl r) = 48 ∧ 1 < (dgB tx (rLen r) (rPl r)).1 - rTP r) ∨ 31 < (dgB tx (rLen r) (rPl r)).2 then -3 else -2), rTP r, (dgB tx (rLen r) (rPl r)).2, rFa r, rWa r)
def nxP (tx : Ar) (r : Rd) (p : Nat) : Rd := if rLen r ≤ p then (rLen r, p, -1, p, rNum r, rFa r, rWa r) else if isDig (tx p) then tkD tx (rLen r, p, rTok r, p, rNum r, rFa r, rWa r) else (rLen r, p + 1, tx p, p, rNum r, rFa r, rWa r)
def nxT (tx : Ar) (r : Rd) : Rd := nxP tx r (skB tx (rLen r) (rPl r))
def rdN (tx : Ar) (lo hi : Nat) (r : Rd) : Nat × Rd := if rTok (nxT tx r) = -2 ∧ lo ≤ rNum (nxT tx r) ∧ rNum (nxT tx r) ≤ hi then (rNum (nxT tx r), nxT tx r) else (lo, mkF (nxT tx r))
def addT (d : Cn) (s v b h : Nat) : Cn := if kT d < 7 then (kT d + 1, kO d, kW d, upd (kS d) (kT d) (nI s), upd (kV d) (kT d) (nI v), upd (kB d) (kT d) (nI b), upd (kF d) (kT d) (nI h)) else d
def offT (d : Cn) (n : Nat) : Cn := (kT d, n, kW d, kS d, kV d, kB d, kF d)
def warT (d : Cn) (n : Nat) : Cn := (kT d, kO d, nI n, kS d, kV d, kB d, kF d)
def wtR (r : Rd) : Rd := (rLen r, rPl r, rTok r, rTP r, rNum r, rFa r, true)
def newT (d : Cn) : Cn := (0, 3, 2, kS d, kV d, kB d, kF d)
def rdOff (tx : Ar) (items : Nat) (c : DS) : DS := (offT c.1 (rdN tx 1 5 (if 0 < items then mkF c.2 else c.2)).1, (rdN tx 1 5 (if 0 < items then mkF c.2 else c.2)).2)
def rdThg (tx : Ar) (c : DS) : DS :=
  let r0 := if kT c.1 < 7 then c.2 else mkF c.2
  let z1 := rdN tx 0 3 r0
  let z2 := rdN tx 1 9 z1.2
  let z3 := rdN tx 0 31 z2.2
  let z4 := rdN tx 0 (kO c.1 - 1) z3.2
  (addT c.1 z1.1 z2.1 z3.1 z4.1, z4.2)
def rdWar (tx : Ar) (c : DS) : DS := (warT c.1 (rdN tx 0 9 (wtR (if rWa c.2 then mkF c.2 else c.2))).1, (rdN tx 0 9 (wtR (if rWa c.2 then mkF c.2 else c.2))).2)
def rdEnd (tx : Ar) (r : Rd) : Rd := if rTok (nxT tx r) = 59 then nxT tx r else mkF (nxT tx r)
def rdBeg (tx : Ar) (n : Nat) (c : DS) : DS := (newT c.1, nxT tx (min n 200, 0, rTok c.2, rTP c.2, rNum c.2, -1, false))
def rdSw (tx : Ar) (items : Nat) (c : DS) : DS := if rTok c.2 = 111 then rdOff tx items c else if rTok c.2 = 116 then rdThg tx c else if rTok c.2 = 119 then rdWar tx c else (c.1, mkF c.2)
def rdIt (tx : Ar) (items : Nat) (c : DS) : DS := ((rdSw tx items c).1, nxT tx (rdEnd tx (rdSw tx items c).2))
def rdL (tx : Ar) : Nat → Nat → DS → Nat × DS
  | 0, items, c => (items, c)
  | n + 1, items, c => if rTok c.2 = -1 ∨ ¬ rFa c.2 = -1 then (items, c) else rdL tx n (items + 1) (rdIt tx items c)
def rdTx (tx : Ar) (n : Nat) (c : DS) : Int32 × DS :=
  let z := rdL tx 201 0 (rdBeg tx n c)
  (if rFa z.2.2 = -1 then nI z.1 else -10 - rFa z.2.2, z.2)
/-! the invariant through the reader -/
theorem mkF_len (r : Rd) : rLen (mkF r) = rLen r ∧ rPl (mkF r) = rPl r ∧ rTP (mkF r) = rTP r ∧ rNum (mkF r) = rNum r ∧ rTok (mkF r) = rTok r ∧ rWa (mkF r) = rWa r := by
  unfold mkF
  by_cases h : rFa r = -1 <;> simp [h]
theorem skF_le (tx : Ar) (len : Nat) : ∀ (n p : Nat), p ≤ skF tx len n p ∧ (p ≤ len → skF tx len n p ≤ len)
  | 0, p => ⟨Nat.le_refl _, fun h => h⟩
  | n + 1, p => by
    unfold skF
    by_cases h : p < len ∧ tx p = 32
    · rw [if_pos h]
      have := skF_le tx len n (p + 1)
      exact ⟨by omega, fun _ => this.2 (by omega)⟩
    · rw [if_neg h]
      exact ⟨Nat.le_refl _, fun h => h⟩
theorem dgF_le (tx : Ar) (len : Nat) : ∀ (n p m : Nat), p ≤ (dgF tx len n p m).1 ∧ (p ≤ len → (dgF tx len n p m).1 ≤ len) ∧ (m ≤ 32 → (dgF tx len n p m).2 ≤ 32)
  | 0, p, m => ⟨Nat.le_refl _, fun h => h, fun h => h⟩
  | n + 1, p, m => by
    unfold dgF
    by_cases h : p < len ∧ isDig (tx p) = true
    · rw [if_pos h]
      have := dgF_le tx len n (p + 1) (min (m * 10 + dg (tx p)) 32)
      exact ⟨by omega, fun _ => this.2.1 (by omega), fun _ => this.2.2 (by omega)⟩
    · rw [if_neg h]
      exact ⟨Nat.le_refl _, fun h => h, fun h => h⟩
/-- the reader's own bounds -/
def OkRd (r : Rd) : Prop := rLen r ≤ 200 ∧ rPl r ≤ rLen r ∧ rTP r ≤ rPl r ∧ rNum r ≤ 32
theorem ok_mkF {r : Rd} (h : OkRd r) : OkRd (mkF r) := by
  obtain ⟨h1, h2, h3, h4, -, -⟩ := mkF_len r
  unfold OkRd
  rw [h1, h2, h3, h4]
  exact h
theorem ok_tkD {tx : Ar} {r : Rd} (h : OkRd r) : OkRd (tkD tx r) := by
  obtain ⟨h1, h2, h3, h4⟩ := h
  have := dgF_le tx (rLen r) (rLen r - rPl r) (rPl r) 0
  refine ⟨h1, this.2.1 h2, ?_, this.2.2 (by omega)⟩
  show rTP r ≤ (dgB tx (rLen r) (rPl r)).1
  exact Nat.le_trans h3 this.1
theorem ok_nxT {tx : Ar} {r : Rd} (h1 : rLen r ≤ 200) (h2 : rPl r ≤ rLen r) (h4 : rNum r ≤ 32) : OkRd (nxT tx r) := by
  have hs := skF_le tx (rLen r) (rLen r - rPl r) (rPl r)
  unfold nxT nxP
  have e : skB tx (rLen r) (rPl r) = skF tx (rLen r) (rLen r - rPl r) (rPl r) := rfl
  rw [e]
  generalize skF tx (rLen r) (rLen r - rPl r) (rPl r) = p at hs
  by_cases h : rLen r ≤ p
  · rw [if_pos h]
    exact ⟨h1, hs.2 h2, Nat.le_refl _, h4⟩
  · rw [if_neg h]
    by_cases hd : isDig (tx p) = true
    · rw [if_pos hd]
      exact ok_tkD ⟨h1, hs.2 h2, Nat.le_refl _, h4⟩
    · rw [if_neg hd]
      exact ⟨h1, show p + 1 ≤ rLen r by omega, show p ≤ p + 1 by omega, h4⟩
theorem ok_nx {tx : Ar} {r : Rd} (h : OkRd r) : OkRd (nxT tx r) := ok_nxT h.1 h.2.1 h.2.2.2
theorem ok_rdN {tx : Ar} {lo hi : Nat} {r : Rd} (h : OkRd r) : OkRd (rdN tx lo hi r).2 := by
  unfold rdN
  split
  · exact ok_nx h
  · exact ok_mkF (ok_nx h)
theorem rdN_in {tx : Ar} {lo hi : Nat} {r : Rd} (h : lo ≤ hi) : lo ≤ (rdN tx lo hi r).1 ∧ (rdN tx lo hi r).1 ≤ hi := by
  unfold rdN
  split
  · next q => exact q.2
  · exact ⟨Nat.le_refl _, h⟩
theorem okD_iff {c : DS} : OkD c ↔ (kT c.1 ≤ 7 ∧ 1 ≤ kO c.1 ∧ kO c.1 ≤ 5) ∧ OkRd c.2 := by
  unfold OkD OkRd
  constructor
  · rintro ⟨a, b, c, d, e, f, g⟩; exact ⟨⟨a, b, c⟩, d, e, f, g⟩
  · rintro ⟨⟨a, b, c⟩, d, e, f, g⟩; exact ⟨a, b, c, d, e, f, g⟩
theorem ok_addT {d : Cn} {s v b h : Nat} (hd : kT d ≤ 7 ∧ 1 ≤ kO d ∧ kO d ≤ 5) : kT (addT d s v b h) ≤ 7 ∧ 1 ≤ kO (addT d s v b h) ∧ kO (addT d s v b h) ≤ 5 := by
  unfold addT
  split
  · exact ⟨show kT d + 1 ≤ 7 by omega, hd.2⟩
  · exact hd
theorem ok_if {P : Prop} [Decidable P] {r : Rd} (h : OkRd r) : OkRd (if P then mkF r else r) := by split; exact ok_mkF h; exact h
theorem ok_if2 {P : Prop} [Decidable P] {r : Rd} (h : OkRd r) : OkRd (if P then r else mkF r) := by split; exact h; exact ok_mkF h
theorem ok_rdOff {tx : Ar} {items : Nat} {c : DS} (h : OkD c) : OkD (rdOff tx items c) := by
  rw [okD_iff] at h ⊢
  have hi := rdN_in (tx := tx) (lo := 1) (hi := 5) (r := if 0 < items then mkF c.2 else c.2) (by omega)
  exact ⟨⟨h.1.1, hi⟩, ok_rdN (ok_if h.2)⟩
theorem ok_rdWar {tx : Ar} {c : DS} (h : OkD c) : OkD (rdWar tx c) := by
  rw [okD_iff] at h ⊢
  exact ⟨h.1, ok_rdN (show OkRd (wtR (if rWa c.2 then mkF c.2 else c.2)) from ok_if (P := rWa c.2 = true) h.2)⟩
theorem ok_rdThg {tx : Ar} {c : DS} (h : OkD c) : OkD (rdThg tx c) := by
  rw [okD_iff] at h ⊢
  simp only [rdThg]
  refine ⟨ok_addT h.1, ?_⟩
  apply ok_rdN
  apply ok_rdN
  apply ok_rdN
  apply ok_rdN
  exact ok_if2 h.2
theorem ok_rdEnd {tx : Ar} {r : Rd} (h : OkRd r) : OkRd (rdEnd tx r) := ok_if2 (P := rTok (nxT tx r) = 59) (ok_nx h)
theorem ok_rdBeg {tx : Ar} {n : Nat} {c : DS} (h : OkD c) : OkD (rdBeg tx n c) := by
  rw [okD_iff] at h ⊢
  exact ⟨⟨show 0 ≤ 7 by omega, show 1 ≤ 3 by omega, show 3 ≤ 5 by omega⟩, ok_nxT (show min n 200 ≤ 200 by omega) (show 0 ≤ min n 200 by omega) h.2.2.2.2⟩
theorem ok_rdSw {tx : Ar} {items : Nat} {c : DS} (h : OkD c) : OkD (rdSw tx items c) := by
  unfold rdSw
  split
  · exact ok_rdOff h
  · split
    · exact ok_rdThg h
    · split
      · exact ok_rdWar h
      · rw [okD_iff] at h ⊢
        exact ⟨h.1, ok_mkF h.2⟩
theorem ok_rdIt {tx : Ar} {items : Nat} {c : DS} (h : OkD c) : OkD (rdIt tx items c) := by
  have h2 := okD_iff.mp (ok_rdSw (tx := tx) (items := items) h)
  exact okD_iff.mpr ⟨h2.1, ok_nx (ok_rdEnd h2.2)⟩
theorem ok_rdL {tx : Ar} : ∀ (n items : Nat) (c : DS), OkD c → OkD (rdL tx n items c).2
  | 0, _, _, h => h
  | n + 1, items, c, h => by
    unfold rdL
    split
    · exact h
    · exact ok_rdL n (items + 1) _ (ok_rdIt h)
theorem ok_rdTx {tx : Ar} {n : Nat} {c : DS} (h : OkD c) : OkD (rdTx tx n c).2 := ok_rdL 201 0 _ (ok_rdBeg h)

/-! objects made anew -/
def PreK (G : GG) (W0 : va_W) (sz : Nat) (U : State) (H : Heap) : Prop := PreM G W0 sz U H ∧ va_AO RX2 U
theorem PreK.blind {G : GG} {W0 : va_W} {sz : Nat} {av : List Value} : FrameBlind (va_Pc av (fun U => PreK G W0 sz U U.heap)) := by
  intro a U g mk h
  obtain ⟨h0, h1, h2⟩ := h
  exact ⟨h0, (PreM.blind (av := av) a U g mk ⟨h0, h1⟩).2, h2.moved (U := U.calling g mk a) (Vm.Alike.refl U.vm)⟩
theorem PreK.preS {G : GG} {W0 : va_W} {sz : Nat} {s : State} {H : Heap} (h : PreK G W0 sz s H) {As : List Value} : PreS s H (va_Pc As (fun U => PreK G W0 sz U U.heap)) As :=
  ⟨PreK.blind, fun _ hU hW => ⟨rfl, h.1.mv hU hW, h.2.moved hW.alike⟩⟩
/-- the end of a constructor: the object and what it made, at some addresses f -/
def Qk (D : va_G) (cl : List vw_C) (Wf : (Nat → Nat) → va_W) (A : Nat → Prop) : Array Value → State → Outcome → State → Prop := fun _ st oc t => oc = .returned none ∧ (∃ f : Nat → Nat, va_P D cl (Wf f) t.heap ∧ va_D A (Wf f)) ∧ va_F A st t
section WKK
variable {p : Program} {l : Launch} {e : Env} {R : Room} {s : State} {m : MethodId} {args : Array Value} {below : List Frame} {meth : Method} {c : Code} {H : Heap} {locs : List Loc} {cells slots : Nat} {Q : State → Prop}
variable {cc : ByteArray} {pc : Nat} {ls : Array Slot} {rest st0 : List Value} {D : va_G} {cl : List vw_C} {A A0 : Nat → Prop} {a : Array Value} {ws : va_W} {H0 : Heap} {mc ms : Nat}
theorem wk_ctor {Wf : (Nat → Nat) → va_W} {wc wr : va_W} (hr : va_Run p l e R s m args below meth c H locs cells slots mc ms (F0 m pc ls st0) rest (Qk D cl Wf (va_A wc H.size) a) (va_A wc H.size)) (hP : va_P D cl ws H) (hD : va_D A0 ws) (hS : va_S A0 H0 H locs) (hA : ∀ q, H0.size ≤ q → A0 q) (isC isR : List Nat) (hC : isC.map (fun i => ws[i]?) = wc.map some) (hR : isR.map (fun i => ws[i]?) = wr.map some) (hn : va_nd isR = true) (hdis : ∀ i ∈ isR, i ∉ isC)
    (kk : ∀ (f : Nat → Nat) (H1 : Heap) (locs1 : List Loc), va_P D cl (wr ++ Wf f) H1 → va_D A0 (wr ++ Wf f) → va_S A0 H0 H1 locs1 → W p l e R s m args below meth c H1 locs1 (cells + mc) (slots + ms) Q (F0 m (pc + 3) ls rest)) : W p l e R s m args below meth c H locs cells slots Q (F0 m pc ls st0) := by
  intro T hT X
  obtain ⟨v, st₀, t, T', L, h0, X', hL, e1, e2, ⟨hv, ⟨f, hp1, hd1⟩, hz, hk⟩, st⟩ := hr T hT X
  cases hv
  rw [h0] at hz hk
  have hF := va_free hD hS hA isC hC
  obtain ⟨hP2, hD2⟩ := va_join hP hD isC isR hC hR hn hdis hk hF hp1 hd1
  obtain ⟨t2, a1, b1⟩ := kk f T'.heap (locs ++ L) (by rw [e1]; exact hP2) hD2
    ⟨Nat.le_trans hS.1 (by rw [e1]; exact hz), fun q h1 h2 => by rw [e1, hk q (Nat.lt_of_lt_of_le h1 hS.1) (fun z => h2 (hF q z))]; exact hS.2.1 q h1 h2, fun q hq => by
      rcases List.mem_append.mp hq with h | h
      · exact hS.2.2 q h
      · exact hF _ (hL q h)⟩ T' rfl X'
  exact ⟨t2, st t2 a1, b1⟩
theorem wk_kret {Wf : (Nat → Nat) → va_W} {W1 : va_W} (f : Nat → Nat) (hexec : p.tables.exec = Jvm.exec) (hb : c.code = cc) (hr : meth.sig.returnType = none) (hlocks : meth.locks = false) (hdg : decode cc pc = .ok (.return_, 1)) (hP : va_P D cl W1 H) (hD : va_D A W1) (hS : va_S A s.heap H locs) (he : Wf f = W1) : W p l e R s m args below meth c H locs cells slots (MQ below (Qk D cl Wf A) args s cells slots A) (F0 m pc ls []) :=
  W.vret hexec hb hr (fun t ht _ => ⟨rfl, ⟨f, by rw [ht, he]; exact hP, by rw [he]; exact hD⟩, hS.F ht⟩) hS.2.2 hdg hlocks
variable {G : GG}
theorem wk_newa {atype : ArrayType} {ty : FieldType} {cA0 : ClassId} (k0 : Nat) (ht : (tysG G)[k0]? = some (cA0, ty)) (hu : ∀ c1 c2 : ClassId, va_RA s c1 ty → va_RA s c2 ty → c1 = c2) (hexec : p.tables.exec = Jvm.exec) (hb : c.code = cc) (harr : (Cond.arrayClass (newarray.typeOf atype)).before args s = true) (hty : newarray.typeOf atype = ty) (hK : va_K G.1 vwCl (tysG G) s) (hP : va_P G.1 vwCl ws H) (hD : va_D A ws) (hS : va_S A H0 H locs) (hA : ∀ q, H0.size ≤ q → A q)
    {n : Int32} {N' : Nat} {a0 : vp_A} (ha : ∀ cA : ClassId, vp_cell cA a0 = arrV cA N' (fun _ => defaultValue ty)) (hn : ¬ n < 0) (hN : n.toNatClampNeg = N') (hbytes : N' * componentBytes ty ≤ 536870912) (hcells : cells + 1 ≤ R.cells) (hslots : slots + N' ≤ R.slots) (hdg : decode cc pc = .ok (.newarray atype, 2))
    (kk : ∀ (q : Nat) (H1 : Heap), va_P G.1 vwCl (ws ++ [(q, .inl (cA0, a0))]) H1 → va_D A (ws ++ [(q, .inl (cA0, a0))]) → va_S A H0 H1 locs →
      W p l e R s m args below meth c H1 locs (cells + 1) (slots + N') Q (F0 m (pc + 2) ls (.ref q :: rest))) : W p l e R s m args below meth c H locs cells slots Q (F0 m pc ls (.int n :: rest)) := by
  refine va_newa hexec hb harr hty hK hP hD hS hA ha hn hN hbytes hcells hslots hdg (fun q cA H1 hK1 hP1 hD1 hS1 => ?_)
  have e : cA = cA0 := hu _ _ (hK1.2 4 (cA, ty) rfl).2 (hK.2 k0 _ ht).2
  subst e
  exact kk q H1 hP1 hD1 hS1
theorem wk_newq {own : String} {index : Nat} (hexec : p.tables.exec = Jvm.exec) (hb : c.code = cc) (hown : s.vm.findClass own = some m.cls) (hclink : (Cond.classLink own index RX2).before args s = true) (hover : va_AO RX2 s) (hK : va_K G.1 vwCl (tysG G) s) (hP : va_P G.1 vwCl ws H) (hD : va_D A ws) (hS : va_S A H0 H locs) (hA : ∀ q, H0.size ≤ q → A q)
    {n : Int32} {N' : Nat} (hn : ¬ n < 0) (hN : n.toNatClampNeg = N') (hbytes : N' * 4 ≤ 536870912) (hcells : cells + 1 ≤ R.cells) (hslots : slots + N' ≤ R.slots) (hdg : decode cc pc = .ok (.anewarray index, 3))
    (kk : ∀ (q : Nat) (H1 : Heap), va_P G.1 vwCl (ws ++ [(q, .inl (gO G, N', .inr (.inr (.inr (.inr (fun _ => none))))))]) H1 → va_D A (ws ++ [(q, .inl (gO G, N', .inr (.inr (.inr (.inr (fun _ => none))))))]) → va_S A H0 H1 locs →
      W p l e R s m args below meth c H1 locs (cells + 1) (slots + N') Q (F0 m (pc + 3) ls (.ref q :: rest))) : W p l e R s m args below meth c H locs cells slots Q (F0 m pc ls (.int n :: rest)) := by
  refine va_newq hexec hb hown hclink hover hK hP hD hS hA hn hN hbytes hcells hslots hdg (fun q cA H1 hK1 hP1 hD1 hS1 => ?_)
  obtain ⟨-, -, -, -, -, h1⟩ := (hK1.2 4 (cA, .object RX2) rfl).2
  obtain ⟨-, -, -, -, -, h2⟩ := (hK.2 3 (gO G, .object RX2) rfl).2
  have e : cA = gO G := Option.some.inj (h1.symm.trans h2)
  subst e
  exact kk q H1 hP1 hD1 hS1
end WKK
theorem ra_int {s : State} (c1 c2 : ClassId) (h1 : va_RA s c1 .int) (h2 : va_RA s c2 .int) : c1 = c2 := Option.some.inj (Eq.trans (Eq.symm h1) h2)
theorem ra_char {s : State} (c1 c2 : ClassId) (h1 : va_RA s c1 .char) (h2 : va_RA s c2 .char) : c1 = c2 := Option.some.inj (Eq.trans (Eq.symm h1) h2)
theorem ra_bool {s : State} (c1 c2 : ClassId) (h1 : va_RA s c1 .boolean) (h2 : va_RA s c2 .boolean) : c1 = c2 := Option.some.inj (Eq.trans (Eq.symm h1) h2)
/-- h, then the others -/
def ac (h : Nat) (f : Nat → Nat) : Nat → Nat
  | 0 => h
  | i + 1 => f i
def z0 : Ar := fun _ => 0
def o0 : Mo := (z0, z0, 0, 0, 0, 0, 0)
def k0 : Cn := (0, 3, 2, z0, z0, z0, z0)
def rd0 : Rd := (0, 0, -1, 0, 0, -1, false)
def mi0 : Mi := (z0, fun _ => false, 0)
def cx0 : CX := (z0, 0, k0, k0, rd0, o0, mi0, 0, 0, fun _ => o0, fun _ => o0, 0, 0)
def nm0 : Nat → Nat := va_up (va_up (fun _ => 0) 1 3) 2 2
def jx0 : JX := (0, z0, 0, 0, 0, 0, 0, 0, nm0, z0, z0, z0, z0, false, z0, z0, z0, fun _ => false, z0, 0, z0, z0, 0)
theorem many0 : upd (upd z0 1 3) 2 2 = fun i => nI (nm0 i) := by
  funext i
  simp only [upd, nm0, va_up, z0]
  split
  · rfl
  · split <;> rfl

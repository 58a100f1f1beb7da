theorem hdV_X2_copyFrom : yX2_copyFrom.cls = RX2 ∧ yX2_copyFrom.cls ≠ "java/lang/invoke/MethodHandle" ∧ yX2_copyFrom.cls ≠ "java/lang/invoke/VarHandle" ∧ (parseMethodDescriptor yX2_copyFrom.desc).map (fun d => d.parameters.length) = some 1 := by decide +kernel
set_option maxHeartbeats 4000000 in
set_option maxRecDepth 100000 in
theorem c_X2_copyFrom (l : Launch) (G : GG) (b : Nat → Nat) (x y : Mo) (sz : Nat) : Met l yX2_copyFrom wsX2_copyFrom ({ frames := 1, cells := 0, slots := 0, locals := 30 }) (va_Pc [.ref (b 0), .ref (b 3)] (fun U => PreM G (WC G b x y) sz U U.heap)) (Qm G.1 vwCl (none) (WC G b y y) (va_A (WC G b x y) sz)) 0 0 (va_A (WC G b x y) sz) := by
  refine Met.ofW (cc := cX2_copyFrom) (maxL := 2) (ret := none) (by decide) rfl ?_
  intro p e s m args below meth cd s₁ BB hml hv
  obtain ⟨rfl, ⟨hP, hK, hN⟩, hD0, hsz⟩ := hv
  have hx := BB.exec
  have hb := BB.bytes
  have hr := BB.returns
  have hts := atoms_spec (ws := wsX2_copyFrom) BB.pre
  have hown : s.vm.findClass RX2 = some m.cls := findClass_of_methodNamed BB.named
  have hlocks := BB.notSynchronized
  have hrc : 0 + 0 ≤ (headSpec wsX2_copyFrom ({ frames := 1, cells := 0, slots := 0, locals := 30 })).room.cells := Nat.le_refl _
  have hrs : 0 + 0 ≤ (headSpec wsX2_copyFrom ({ frames := 1, cells := 0, slots := 0, locals := 30 })).room.slots := Nat.le_refl _
  subst hsz
  have hD := hD0.self (sz := s.heap.size)
  generalize hAe : va_A (WC G b x y) s.heap.size = A at hD ⊢
  have hA : ∀ q : Nat, s.heap.size ≤ q → A q := fun q h => by rw [← hAe]; exact Or.inr h
  have hS : va_S A s.heap s.heap [] := va_S.rf
  have hin2 : ∀ w ∈ u_ws RX2 TX2 7, w ∈ wsX2_copyFrom := by decide +kernel
  have hf9 := hts (.fieldLink RX2 9 "RegaliaVotes$Moment" "holder" "[I") (by decide +kernel)
  have hf15 := hts (.fieldLink RX2 15 "RegaliaVotes$Moment" "warmth" "[I") (by decide +kernel)
  have hf18 := hts (.fieldLink RX2 18 "RegaliaVotes$Moment" "wash" "I") (by decide +kernel)
  have hf22 := hts (.fieldLink RX2 22 "RegaliaVotes$Moment" "turned" "I") (by decide +kernel)
  have hf25 := hts (.fieldLink RX2 25 "RegaliaVotes$Moment" "sick" "I") (by decide +kernel)
  have hf28 := hts (.fieldLink RX2 28 "RegaliaVotes$Moment" "put" "I") (by decide +kernel)
  have hf31 := hts (.fieldLink RX2 31 "RegaliaVotes$Moment" "passed" "I") (by decide +kernel)
  refine wk_enter (n := 2) (Nat.le_of_ble_eq_true rfl) (fun ls hl => ?_)
  have hl : lv_has ls 2 [(0, .ref (b 0)), (1, .ref (b 3))] := hl
  refine lv_aload_n hx hb dX2_copyFrom_0 rfl (lv_at hl 1 rfl) ?_
  refine va_get (D := G.1) (v := .ref (b 4)) hx hb hts hin2 hown hK hP 3 rfl rfl 0 (by decide) hf9 (fun _ h => h) rfl dX2_copyFrom_1 ?_
  refine lv_iconst (v := 0) hx hb dX2_copyFrom_4 (by decide) ?_
  refine lv_aload_n hx hb dX2_copyFrom_5 rfl (lv_at hl 0 rfl) ?_
  refine va_get (D := G.1) (v := .ref (b 1)) hx hb hts hin2 hown hK hP 0 rfl rfl 0 (by decide) hf9 (fun _ h => h) rfl dX2_copyFrom_6 ?_
  refine lv_iconst (v := 0) hx hb dX2_copyFrom_9 (by decide) ?_
  refine lv_bipush (v := 7) hx hb dX2_copyFrom_10 (by decide) ?_
  refine wk_copy7 hx hb (hml.trans hl.1.symm) hown (hts (.methodLink RX2 39 arraycopyName) (by decide +kernel)) (hts (.native arraycopyName) (by decide +kernel)) (hts (.static arraycopyName) (by decide +kernel)) (hts (.initialized "java/lang/System") (by decide +kernel)) hK hP hD hS 4 1 1 rfl rfl rfl (Nat.le_of_ble_eq_true rfl) (Nat.le_of_ble_eq_true rfl) dX2_copyFrom_12 (fun H locs hP hD hS => ?_)
  refine lv_aload_n hx hb dX2_copyFrom_15 rfl (lv_at hl 1 rfl) ?_
  refine va_get (D := G.1) (v := .ref (b 5)) hx hb hts hin2 hown hK hP 3 rfl rfl 1 (by decide) hf15 (fun _ h => h) rfl dX2_copyFrom_16 ?_
  refine lv_iconst (v := 0) hx hb dX2_copyFrom_19 (by decide) ?_
  refine lv_aload_n hx hb dX2_copyFrom_20 rfl (lv_at hl 0 rfl) ?_
  refine va_get (D := G.1) (v := .ref (b 2)) hx hb hts hin2 hown hK hP 0 rfl rfl 1 (by decide) hf15 (fun _ h => h) rfl dX2_copyFrom_21 ?_
  refine lv_iconst (v := 0) hx hb dX2_copyFrom_24 (by decide) ?_
  refine lv_bipush (v := 7) hx hb dX2_copyFrom_25 (by decide) ?_
  refine wk_copy7 hx hb (hml.trans hl.1.symm) hown (hts (.methodLink RX2 39 arraycopyName) (by decide +kernel)) (hts (.native arraycopyName) (by decide +kernel)) (hts (.static arraycopyName) (by decide +kernel)) (hts (.initialized "java/lang/System") (by decide +kernel)) hK hP hD hS 5 2 1 rfl rfl rfl (Nat.le_of_ble_eq_true rfl) (Nat.le_of_ble_eq_true rfl) dX2_copyFrom_27 (fun H locs hP hD hS => ?_)
  refine lv_aload_n hx hb dX2_copyFrom_30 rfl (lv_at hl 0 rfl) ?_
  refine lv_aload_n hx hb dX2_copyFrom_31 rfl (lv_at hl 1 rfl) ?_
  refine va_get (D := G.1) (v := .int (mWa y)) hx hb hts hin2 hown hK hP 3 rfl rfl 2 (by decide) hf18 (fun _ h => h) rfl dX2_copyFrom_32 ?_
  refine va_put (D := G.1) (v := .int (mWa y)) (ty := .int) hx hb hts hin2 tyX2 tyX2_ok nmX2 hown hK hP hD hS 0 rfl rfl 2 (by decide) hf18 (fun _ h => h) rfl (by decide +kernel) rfl rfl (Nat.le_of_ble_eq_true rfl) dX2_copyFrom_35 (fun H locs hP hD hS => ?_)
  refine lv_aload_n hx hb dX2_copyFrom_38 rfl (lv_at hl 0 rfl) ?_
  refine lv_aload_n hx hb dX2_copyFrom_39 rfl (lv_at hl 1 rfl) ?_
  refine va_get (D := G.1) (v := .int (mTu y)) hx hb hts hin2 hown hK hP 3 rfl rfl 3 (by decide) hf22 (fun _ h => h) rfl dX2_copyFrom_40 ?_
  refine va_put (D := G.1) (v := .int (mTu y)) (ty := .int) hx hb hts hin2 tyX2 tyX2_ok nmX2 hown hK hP hD hS 0 rfl rfl 3 (by decide) hf22 (fun _ h => h) rfl (by decide +kernel) rfl rfl (Nat.le_of_ble_eq_true rfl) dX2_copyFrom_43 (fun H locs hP hD hS => ?_)
  refine lv_aload_n hx hb dX2_copyFrom_46 rfl (lv_at hl 0 rfl) ?_
  refine lv_aload_n hx hb dX2_copyFrom_47 rfl (lv_at hl 1 rfl) ?_
  refine va_get (D := G.1) (v := .int (mSi y)) hx hb hts hin2 hown hK hP 3 rfl rfl 4 (by decide) hf25 (fun _ h => h) rfl dX2_copyFrom_48 ?_
  refine va_put (D := G.1) (v := .int (mSi y)) (ty := .int) hx hb hts hin2 tyX2 tyX2_ok nmX2 hown hK hP hD hS 0 rfl rfl 4 (by decide) hf25 (fun _ h => h) rfl (by decide +kernel) rfl rfl (Nat.le_of_ble_eq_true rfl) dX2_copyFrom_51 (fun H locs hP hD hS => ?_)
  refine lv_aload_n hx hb dX2_copyFrom_54 rfl (lv_at hl 0 rfl) ?_
  refine lv_aload_n hx hb dX2_copyFrom_55 rfl (lv_at hl 1 rfl) ?_
  refine va_get (D := G.1) (v := .int (mPu y)) hx hb hts hin2 hown hK hP 3 rfl rfl 5 (by decide) hf28 (fun _ h => h) rfl dX2_copyFrom_56 ?_
  refine va_put (D := G.1) (v := .int (mPu y)) (ty := .int) hx hb hts hin2 tyX2 tyX2_ok nmX2 hown hK hP hD hS 0 rfl rfl 5 (by decide) hf28 (fun _ h => h) rfl (by decide +kernel) rfl rfl (Nat.le_of_ble_eq_true rfl) dX2_copyFrom_59 (fun H locs hP hD hS => ?_)
  refine lv_aload_n hx hb dX2_copyFrom_62 rfl (lv_at hl 0 rfl) ?_
  refine lv_aload_n hx hb dX2_copyFrom_63 rfl (lv_at hl 1 rfl) ?_
  refine va_get (D := G.1) (v := .int (mPa y)) hx hb hts hin2 hown hK hP 3 rfl rfl 6 (by decide) hf31 (fun _ h => h) rfl dX2_copyFrom_64 ?_
  refine va_put (D := G.1) (v := .int (mPa y)) (ty := .int) hx hb hts hin2 tyX2 tyX2_ok nmX2 hown hK hP hD hS 0 rfl rfl 6 (by decide) hf31 (fun _ h => h) rfl (by decide +kernel) rfl rfl (Nat.le_of_ble_eq_true rfl) dX2_copyFrom_67 (fun H locs hP hD hS => ?_)
  exact wk_mvret' hx hb hr hlocks dX2_copyFrom_70 hP hS (rfl)
theorem hdS_J7_fill_53178 : yJ7_fill_53178.cls ≠ "java/lang/invoke/MethodHandle" ∧ yJ7_fill_53178.cls ≠ "java/lang/invoke/VarHandle" ∧ (parseMethodDescriptor yJ7_fill_53178.desc).map (fun d => d.parameters.length) = some 2 := by decide +kernel
set_option maxHeartbeats 4000000 in
set_option maxRecDepth 100000 in
theorem c_J7_fill_53178 (l : Launch) (G : GG) (b : Nat) (f : Ar) (v : Int32) (sz : Nat) : Met l yJ7_fill_53178 wsJ7_fill_53178 ({ frames := 0, cells := 0, slots := 0, locals := 0 }) (va_Pc [.ref b, .int v] (fun U => PreM G ([(b, .inl (gI G, 7, .inl f))]) sz U U.heap)) (Qm G.1 vwCl (none) ([(b, .inl (gI G, 7, .inl (fillN v f 7)))]) (va_A ([(b, .inl (gI G, 7, .inl f))]) sz)) 0 0 (va_A ([(b, .inl (gI G, 7, .inl f))]) sz) := by
  refine Met.ofW (cc := cJ7_fill_53178) (maxL := 4) (ret := none) (by decide) rfl ?_
  intro p e s m args below meth cd s₁ BB hml hv
  obtain ⟨rfl, ⟨hP, hK, hN⟩, hD0, hsz⟩ := hv
  have hx := BB.exec
  have hb := BB.bytes
  have hr := BB.returns
  have hts := atoms_spec (ws := wsJ7_fill_53178) BB.pre
  have hown : s.vm.findClass RJ7 = some m.cls := findClass_of_methodNamed BB.named
  have hlocks := BB.notSynchronized
  have hrc : 0 + 0 ≤ (headSpec wsJ7_fill_53178 ({ frames := 0, cells := 0, slots := 0, locals := 0 })).room.cells := Nat.le_refl _
  have hrs : 0 + 0 ≤ (headSpec wsJ7_fill_53178 ({ frames := 0, cells := 0, slots := 0, locals := 0 })).room.slots := Nat.le_refl _
  subst hsz
  have hD := hD0.self (sz := s.heap.size)
  generalize hAe : va_A ([(b, .inl (gI G, 7, .inl f))]) s.heap.size = A at hD ⊢
  have hA : ∀ q : Nat, s.heap.size ≤ q → A q := fun q h => by rw [← hAe]; exact Or.inr h
  have hS : va_S A s.heap s.heap [] := va_S.rf
  refine wk_enter (n := 4) (Nat.le_of_ble_eq_true rfl) (fun ls hl => ?_)
  have hl : lv_has ls 4 [(0, .ref b), (1, .int v)] := hl
  refine lv_iconst (v := 0) hx hb dJ7_fill_53178_0 (by decide) ?_
  refine lv_istore_n (lv' := [(2, .int 0), (0, .ref b), (1, .int v)]) hx hb dJ7_fill_53178_1 rfl hl (by decide) rfl (fun ls hl => ?_)
  refine lv_aload_n hx hb dJ7_fill_53178_2 rfl (lv_at hl 1 rfl) ?_
  refine va_alen (v := 7) hx hb hK hP 0 1 rfl rfl rfl dJ7_fill_53178_3 ?_
  refine lv_istore_n (lv' := [(3, .int 7), (2, .int 0), (0, .ref b), (1, .int v)]) hx hb dJ7_fill_53178_4 rfl hl (by decide) rfl (fun ls hl => ?_)
  refine wk_loopM (σ := Nat) (nL := 4) (fun xσ n => match xσ with | i => i + n = 7) (fun xσ => match xσ with | i => [(3, .int 7), (2, .int (nI i)), (0, .ref b), (1, .int v)]) (fun xσ => match xσ with | i => [(b, .inl (gI G, 7, .inl (fillN v f i)))]) 0 7 (by omega) hl hP hD hS ?_
  rintro n5 i ls H locs hI5 hl hP hD hS ih5
  have hl : lv_has ls 4 [(3, .int 7), (2, .int (nI i)), (0, .ref b), (1, .int v)] := hl
  have hP : va_P G.1 vwCl ([(b, .inl (gI G, 7, .inl (fillN v f i)))]) H := hP
  have hD : va_D A ([(b, .inl (gI G, 7, .inl (fillN v f i)))]) := hD
  obtain hi := hI5
  refine lv_iload_n hx hb dJ7_fill_53178_5 rfl (lv_at hl 1 rfl) ?_
  refine lv_iload_n hx hb dJ7_fill_53178_6 rfl (lv_at hl 0 rfl) ?_
  refine wk_ge (x := i) (y := 7) (tgt := 20) hx hb (by omega) (by omega) dJ7_fill_53178_7 (by decide) (fun c7 => ?_) (fun c7 => ?_)
  · exact wk_mvret' hx hb hr hlocks dJ7_fill_53178_20 hP hS (by rw [show i = 7 by omega])
  · refine lv_aload_n hx hb dJ7_fill_53178_10 rfl (lv_at hl 2 rfl) ?_
    refine lv_iload_n hx hb dJ7_fill_53178_11 rfl (lv_at hl 1 rfl) ?_
    refine lv_iload_n hx hb dJ7_fill_53178_12 rfl (lv_at hl 3 rfl) ?_
    refine wk_iast (i := i) hx hb hK hP hD hS 0 1 rfl rfl (by omega) (Nat.le_of_ble_eq_true rfl) dJ7_fill_53178_13 (fun H locs hP hD hS => ?_)
    refine lv_iinc (v := (nI (i + 1))) (lv' := [(2, .int (nI (i + 1))), (3, .int 7), (0, .ref b), (1, .int v)]) hx hb dJ7_fill_53178_14 hl (k := 1) rfl (wk_i1 i) (by decide) rfl (fun ls hl => ?_)
    refine lv_goto (tgt := 5) hx hb dJ7_fill_53178_17 (by decide) ?_
    exact ih5 (i + 1) (n5 - 1) ls H _ (by omega) (by omega) (lv_sub hl [1, 0, 2, 3] rfl) hP hD hS
theorem hdV_X2_cool : yX2_cool.cls = RX2 ∧ yX2_cool.cls ≠ "java/lang/invoke/MethodHandle" ∧ yX2_cool.cls ≠ "java/lang/invoke/VarHandle" ∧ (parseMethodDescriptor yX2_cool.desc).map (fun d => d.parameters.length) = some 0 := by decide +kernel
set_option maxHeartbeats 4000000 in
set_option maxRecDepth 100000 in
theorem c_X2_cool (l : Launch) (G : GG) (a : Nat → Nat) (c : CX) (hc : OkR c) (sz : Nat) : Met l yX2_cool wsX2_cool ({ frames := 0, cells := 0, slots := 0, locals := 0 }) (va_Pc [.ref (a 6)] (fun U => PreM G (WX G a c) sz U U.heap)) (Qm G.1 vwCl (none) (WX G a (sCool c)) (va_A (WX G a c) sz)) 0 0 (va_A (WX G a c) sz) := by
  refine Met.ofW (cc := cX2_cool) (maxL := 2) (ret := none) (by decide) rfl ?_
  intro p e s m args below meth cd s₁ BB hml hv
  obtain ⟨rfl, ⟨hP, hK, hN⟩, hD0, hsz⟩ := hv
  have hx := BB.exec
  have hb := BB.bytes
  have hr := BB.returns
  have hts := atoms_spec (ws := wsX2_cool) BB.pre
  have hown : s.vm.findClass RX2 = some m.cls := findClass_of_methodNamed BB.named
  have hlocks := BB.notSynchronized
  have hrc : 0 + 0 ≤ (headSpec wsX2_cool ({ frames := 0, cells := 0, slots := 0, locals := 0 })).room.cells := Nat.le_refl _
  have hrs : 0 + 0 ≤ (headSpec wsX2_cool ({ frames := 0, cells := 0, slots := 0, locals := 0 })).room.slots := Nat.le_refl _
  subst hsz
  have hD := hD0.self (sz := s.heap.size)
  generalize hAe : va_A (WX G a c) s.heap.size = A at hD ⊢
  have hA : ∀ q : Nat, s.heap.size ≤ q → A q := fun q h => by rw [← hAe]; exact Or.inr h
  have hS : va_S A s.heap s.heap [] := va_S.rf
  obtain ⟨hk7, ho1, ho5, hi6, hl200, hnx, hkn⟩ := id hc
  have hin2 : ∀ w ∈ u_ws RX2 TX2 7, w ∈ wsX2_cool := by decide +kernel
  have hf15 := hts (.fieldLink RX2 15 "RegaliaVotes$Moment" "warmth" "[I") (by decide +kernel)
  refine wk_enter (n := 2) (Nat.le_of_ble_eq_true rfl) (fun ls hl => ?_)
  have hl : lv_has ls 2 [(0, .ref (a 6))] := hl
  refine lv_iconst (v := 0) hx hb dX2_cool_0 (by decide) ?_
  refine lv_istore_n (lv' := [(1, .int 0), (0, .ref (a 6))]) hx hb dX2_cool_1 rfl hl (by decide) rfl (fun ls hl => ?_)
  refine wk_loopM (σ := Nat) (nL := 2) (fun xσ n => match xσ with | i => i + n = 7) (fun xσ => match xσ with | i => [(1, .int (nI i)), (0, .ref (a 6))]) (fun xσ => match xσ with | i => WX G a (setM c (mH (cM c), coolN (mW (cM c)) i, mWa (cM c), mTu (cM c), mSi (cM c), mPu (cM c), mPa (cM c)))) 0 7 (by omega) hl hP hD hS ?_
  rintro n2 i ls H locs hI2 hl hP hD hS ih2
  have hl : lv_has ls 2 [(1, .int (nI i)), (0, .ref (a 6))] := hl
  have hP : va_P G.1 vwCl (WX G a (setM c (mH (cM c), coolN (mW (cM c)) i, mWa (cM c), mTu (cM c), mSi (cM c), mPu (cM c), mPa (cM c)))) H := hP
  have hD : va_D A (WX G a (setM c (mH (cM c), coolN (mW (cM c)) i, mWa (cM c), mTu (cM c), mSi (cM c), mPu (cM c), mPa (cM c)))) := hD
  obtain hi := hI2
  refine lv_iload_n hx hb dX2_cool_2 rfl (lv_at hl 0 rfl) ?_
  refine lv_bipush (v := 7) hx hb dX2_cool_3 (by decide) ?_
  refine wk_ge (x := i) (y := 7) (tgt := 33) hx hb (by omega) (by omega) dX2_cool_5 (by decide) (fun c5 => ?_) (fun c5 => ?_)
  · exact wk_mvret' hx hb hr hlocks dX2_cool_33 hP hS (by rw [show i = 7 by omega]; rfl)
  · refine lv_aload_n hx hb dX2_cool_8 rfl (lv_at hl 1 rfl) ?_
    refine va_get (D := G.1) (v := .ref (a 8)) hx hb hts hin2 hown hK hP 6 rfl rfl 1 (by decide) hf15 (fun _ h => h) rfl dX2_cool_9 ?_
    refine lv_iload_n hx hb dX2_cool_12 rfl (lv_at hl 0 rfl) ?_
    refine wk_iald (i := i) hx hb hK hP 8 1 rfl rfl (by omega) (Nat.le_of_ble_eq_true rfl) dX2_cool_13 ?_
    refine lv_if_le (tgt := 27) hx hb dX2_cool_14 (by decide) (fun c14 => ?_) (fun c14 => ?_)
    · refine lv_iinc (v := (nI (i + 1))) (lv' := [(1, .int (nI (i + 1))), (0, .ref (a 6))]) hx hb dX2_cool_27 hl (k := 0) rfl (wk_i1 i) (by decide) rfl (fun ls hl => ?_)
      refine lv_goto (tgt := 2) hx hb dX2_cool_30 (by decide) ?_
      have he : coolN (mW (cM c)) (i + 1) = coolN (mW (cM c)) i := by simp only [coolN]; exact if_neg (Int32.not_lt.mpr c14)
      have hP : va_P G.1 vwCl (WX G a (setM c (mH (cM c), coolN (mW (cM c)) (i + 1), mWa (cM c), mTu (cM c), mSi (cM c), mPu (cM c), mPa (cM c)))) H := by rw [he]; exact hP
      have hD : va_D A (WX G a (setM c (mH (cM c), coolN (mW (cM c)) (i + 1), mWa (cM c), mTu (cM c), mSi (cM c), mPu (cM c), mPa (cM c)))) := by rw [he]; exact hD
      exact ih2 (i + 1) (n2 - 1) ls H _ (by omega) (by omega) (lv_sub hl [0, 1] rfl) hP hD hS
    · refine lv_aload_n hx hb dX2_cool_17 rfl (lv_at hl 1 rfl) ?_
      refine va_get (D := G.1) (v := .ref (a 8)) hx hb hts hin2 hown hK hP 6 rfl rfl 1 (by decide) hf15 (fun _ h => h) rfl dX2_cool_18 ?_
      refine lv_iload_n hx hb dX2_cool_21 rfl (lv_at hl 0 rfl) ?_
      refine lv_dup2_11 hx hb dX2_cool_22 rfl rfl ?_
      refine wk_iald (i := i) hx hb hK hP 8 1 rfl rfl (by omega) (Nat.le_of_ble_eq_true rfl) dX2_cool_23 ?_
      refine lv_iconst (v := 1) hx hb dX2_cool_24 (by decide) ?_
      refine lv_isub hx hb dX2_cool_25 ?_
      refine wk_iast (i := i) hx hb hK hP hD hS 8 1 rfl rfl (by omega) (Nat.le_of_ble_eq_true rfl) dX2_cool_26 (fun H locs hP hD hS => ?_)
      refine lv_iinc (v := (nI (i + 1))) (lv' := [(1, .int (nI (i + 1))), (0, .ref (a 6))]) hx hb dX2_cool_27 hl (k := 0) rfl (wk_i1 i) (by decide) rfl (fun ls hl => ?_)
      refine lv_goto (tgt := 2) hx hb dX2_cool_30 (by decide) ?_
      have he : coolN (mW (cM c)) (i + 1) = upd (coolN (mW (cM c)) i) i (coolN (mW (cM c)) i i - 1) := by simp only [coolN]; exact if_pos (Int32.not_le.mp c14)
      have hP : va_P G.1 vwCl (WX G a (setM c (mH (cM c), coolN (mW (cM c)) (i + 1), mWa (cM c), mTu (cM c), mSi (cM c), mPu (cM c), mPa (cM c)))) H := by rw [he]; exact hP
      have hD : va_D A (WX G a (setM c (mH (cM c), coolN (mW (cM c)) (i + 1), mWa (cM c), mTu (cM c), mSi (cM c), mPu (cM c), mPa (cM c)))) := by rw [he]; exact hD
      exact ih2 (i + 1) (n2 - 1) ls H _ (by omega) (by omega) (lv_sub hl [0, 1] rfl) hP hD hS
theorem hdV_X2_beginWith : yX2_beginWith.cls = RX2 ∧ yX2_beginWith.cls ≠ "java/lang/invoke/MethodHandle" ∧ yX2_beginWith.cls ≠ "java/lang/invoke/VarHandle" ∧ (parseMethodDescriptor yX2_beginWith.desc).map (fun d => d.parameters.length) = some 1 := by decide +kernel
set_option maxHeartbeats 4000000 in
set_option maxRecDepth 100000 in
theorem c_X2_beginWith (l : Launch) (G : GG) (a : Nat → Nat) (c : CX) (hc : OkR c) (sz : Nat) : Met l yX2_beginWith wsX2_beginWith ({ frames := 1, cells := 0, slots := 0, locals := 30 }) (va_Pc [.ref (a 6), .ref (a 1)] (fun U => PreM G (WX G a c) sz U U.heap)) (Qm G.1 vwCl (none) (WX G a (sBegin c)) (va_A (WX G a c) sz)) 0 0 (va_A (WX G a c) sz) := by
  refine Met.ofW (cc := cX2_beginWith) (maxL := 2) (ret := none) (by decide) rfl ?_
  intro p e s m args below meth cd s₁ BB hml hv
  obtain ⟨rfl, ⟨hP, hK, hN⟩, hD0, hsz⟩ := hv
  have hx := BB.exec
  have hb := BB.bytes
  have hr := BB.returns
  have hts := atoms_spec (ws := wsX2_beginWith) BB.pre
  have hown : s.vm.findClass RX2 = some m.cls := findClass_of_methodNamed BB.named
  have hlocks := BB.notSynchronized
  have hrc : 0 + 0 ≤ (headSpec wsX2_beginWith ({ frames := 1, cells := 0, slots := 0, locals := 30 })).room.cells := Nat.le_refl _
  have hrs : 0 + 0 ≤ (headSpec wsX2_beginWith ({ frames := 1, cells := 0, slots := 0, locals := 30 })).room.slots := Nat.le_refl _
  subst hsz
  have hD := hD0.self (sz := s.heap.size)
  generalize hAe : va_A (WX G a c) s.heap.size = A at hD ⊢
  have hA : ∀ q : Nat, s.heap.size ≤ q → A q := fun q h => by rw [← hAe]; exact Or.inr h
  have hS : va_S A s.heap s.heap [] := va_S.rf
  obtain ⟨hk7, ho1, ho5, hi6, hl200, hnx, hkn⟩ := id hc
  have hin0 : ∀ w ∈ u_ws RX0 TX0 7, w ∈ wsX2_beginWith := by decide +kernel
  have hin2 : ∀ w ∈ u_ws RX2 TX2 7, w ∈ wsX2_beginWith := by decide +kernel
  have hf9 := hts (.fieldLink RX2 9 "RegaliaVotes$Moment" "holder" "[I") (by decide +kernel)
  have hf15 := hts (.fieldLink RX2 15 "RegaliaVotes$Moment" "warmth" "[I") (by decide +kernel)
  have hf18 := hts (.fieldLink RX2 18 "RegaliaVotes$Moment" "wash" "I") (by decide +kernel)
  have hf22 := hts (.fieldLink RX2 22 "RegaliaVotes$Moment" "turned" "I") (by decide +kernel)
  have hf25 := hts (.fieldLink RX2 25 "RegaliaVotes$Moment" "sick" "I") (by decide +kernel)
  have hf28 := hts (.fieldLink RX2 28 "RegaliaVotes$Moment" "put" "I") (by decide +kernel)
  have hf31 := hts (.fieldLink RX2 31 "RegaliaVotes$Moment" "passed" "I") (by decide +kernel)
  have hf34 := hts (.fieldLink RX2 34 "RegaliaVotes$Council" "firstHolder" "[I") (by decide +kernel)
  refine wk_enter (n := 2) (Nat.le_of_ble_eq_true rfl) (fun ls hl => ?_)
  have hl : lv_has ls 2 [(0, .ref (a 6)), (1, .ref (a 1))] := hl
  refine lv_aload_n hx hb dX2_beginWith_0 rfl (lv_at hl 1 rfl) ?_
  refine va_get (D := G.1) (v := .ref (a 5)) hx hb hts hin0 hown hK hP 1 rfl rfl 6 (by decide) hf34 (fun _ h => h) rfl dX2_beginWith_1 ?_
  refine lv_iconst (v := 0) hx hb dX2_beginWith_4 (by decide) ?_
  refine lv_aload_n hx hb dX2_beginWith_5 rfl (lv_at hl 0 rfl) ?_
  refine va_get (D := G.1) (v := .ref (a 7)) hx hb hts hin2 hown hK hP 6 rfl rfl 0 (by decide) hf9 (fun _ h => h) rfl dX2_beginWith_6 ?_
  refine lv_iconst (v := 0) hx hb dX2_beginWith_9 (by decide) ?_
  refine lv_bipush (v := 7) hx hb dX2_beginWith_10 (by decide) ?_
  refine wk_copy7 hx hb (hml.trans hl.1.symm) hown (hts (.methodLink RX2 39 arraycopyName) (by decide +kernel)) (hts (.native arraycopyName) (by decide +kernel)) (hts (.static arraycopyName) (by decide +kernel)) (hts (.initialized "java/lang/System") (by decide +kernel)) hK hP hD hS 5 7 1 rfl rfl rfl (Nat.le_of_ble_eq_true rfl) (Nat.le_of_ble_eq_true rfl) dX2_beginWith_12 (fun H locs hP hD hS => ?_)
  refine lv_aload_n hx hb dX2_beginWith_15 rfl (lv_at hl 0 rfl) ?_
  refine va_get (D := G.1) (v := .ref (a 8)) hx hb hts hin2 hown hK hP 6 rfl rfl 1 (by decide) hf15 (fun _ h => h) rfl dX2_beginWith_16 ?_
  refine lv_iconst (v := 0) hx hb dX2_beginWith_19 (by decide) ?_
  refine wk_call (va_runS (As := [.ref (a 8), .int 0]) (rest := []) ⟨hx, hb, hml, hown, hts⟩ (c_J7_fill_53178 l G (a 8) (mW (cM c)) 0 H.size) (va_cwS 2 hts gX2_beginWith_J7_fill_53178 rfl rfl rfl hdS_J7_fill_53178 ⟨Nat.le_of_ble_eq_true rfl, Nat.le_of_ble_eq_true rfl⟩) ((PreM.of hP hK hN hD [8] rfl rfl).preS) rfl rfl hl.1 rfl (lv_room (Nat.le_of_ble_eq_true rfl)) dX2_beginWith_20 ⟨hrc, hrs⟩) hP hD hS hA [8] rfl rfl (fun H locs hP hD hS => ?_)
  refine W.eq (g2 := F0 m 23 ls []) rfl ?_
  refine lv_aload_n hx hb dX2_beginWith_23 rfl (lv_at hl 0 rfl) ?_
  refine lv_iconst (v := 0) hx hb dX2_beginWith_24 (by decide) ?_
  refine va_put (D := G.1) (v := .int 0) (ty := .int) hx hb hts hin2 tyX2 tyX2_ok nmX2 hown hK hP hD hS 6 rfl rfl 2 (by decide) hf18 (fun _ h => h) rfl (by decide +kernel) rfl rfl (Nat.le_of_ble_eq_true rfl) dX2_beginWith_25 (fun H locs hP hD hS => ?_)
  refine lv_aload_n hx hb dX2_beginWith_28 rfl (lv_at hl 0 rfl) ?_
  refine lv_iconst (v := 0) hx hb dX2_beginWith_29 (by decide) ?_
  refine va_put (D := G.1) (v := .int 0) (ty := .int) hx hb hts hin2 tyX2 tyX2_ok nmX2 hown hK hP hD hS 6 rfl rfl 3 (by decide) hf22 (fun _ h => h) rfl (by decide +kernel) rfl rfl (Nat.le_of_ble_eq_true rfl) dX2_beginWith_30 (fun H locs hP hD hS => ?_)
  refine lv_aload_n hx hb dX2_beginWith_33 rfl (lv_at hl 0 rfl) ?_
  refine lv_iconst (v := 0) hx hb dX2_beginWith_34 (by decide) ?_
  refine va_put (D := G.1) (v := .int 0) (ty := .int) hx hb hts hin2 tyX2 tyX2_ok nmX2 hown hK hP hD hS 6 rfl rfl 4 (by decide) hf25 (fun _ h => h) rfl (by decide +kernel) rfl rfl (Nat.le_of_ble_eq_true rfl) dX2_beginWith_35 (fun H locs hP hD hS => ?_)
  refine lv_aload_n hx hb dX2_beginWith_38 rfl (lv_at hl 0 rfl) ?_
  refine lv_iconst (v := 0) hx hb dX2_beginWith_39 (by decide) ?_
  refine va_put (D := G.1) (v := .int 0) (ty := .int) hx hb hts hin2 tyX2 tyX2_ok nmX2 hown hK hP hD hS 6 rfl rfl 5 (by decide) hf28 (fun _ h => h) rfl (by decide +kernel) rfl rfl (Nat.le_of_ble_eq_true rfl) dX2_beginWith_40 (fun H locs hP hD hS => ?_)
  refine lv_aload_n hx hb dX2_beginWith_43 rfl (lv_at hl 0 rfl) ?_
  refine lv_iconst (v := 0) hx hb dX2_beginWith_44 (by decide) ?_
  refine va_put (D := G.1) (v := .int 0) (ty := .int) hx hb hts hin2 tyX2 tyX2_ok nmX2 hown hK hP hD hS 6 rfl rfl 6 (by decide) hf31 (fun _ h => h) rfl (by decide +kernel) rfl rfl (Nat.le_of_ble_eq_true rfl) dX2_beginWith_45 (fun H locs hP hD hS => ?_)
  exact wk_mvret' hx hb hr hlocks dX2_beginWith_48 hP hS (rfl)
theorem hdV_X0_copyFrom : yX0_copyFrom.cls = RX0 ∧ yX0_copyFrom.cls ≠ "java/lang/invoke/MethodHandle" ∧ yX0_copyFrom.cls ≠ "java/lang/invoke/VarHandle" ∧ (parseMethodDescriptor yX0_copyFrom.desc).map (fun d => d.parameters.length) = some 1 := by decide +kernel
set_option maxHeartbeats 4000000 in
set_option maxRecDepth 100000 in
theorem c_X0_copyFrom (l : Launch) (G : GG) (a : Nat → Nat) (c : CX) (hc : OkR c) (sz : Nat) : Met l yX0_copyFrom wsX0_copyFrom ({ frames := 1, cells := 0, slots := 0, locals := 30 }) (va_Pc [.ref (a 1), .ref (a 16)] (fun U => PreM G (WX G a c) sz U U.heap)) (Qm G.1 vwCl (none) (WX G a (sCopyK c)) (va_A (WX G a c) sz)) 0 0 (va_A (WX G a c) sz) := by
  refine Met.ofW (cc := cX0_copyFrom) (maxL := 2) (ret := none) (by decide) rfl ?_
  intro p e s m args below meth cd s₁ BB hml hv
  obtain ⟨rfl, ⟨hP, hK, hN⟩, hD0, hsz⟩ := hv
  have hx := BB.exec
  have hb := BB.bytes
  have hr := BB.returns
  have hts := atoms_spec (ws := wsX0_copyFrom) BB.pre
  have hown : s.vm.findClass RX0 = some m.cls := findClass_of_methodNamed BB.named
  have hlocks := BB.notSynchronized
  have hrc : 0 + 0 ≤ (headSpec wsX0_copyFrom ({ frames := 1, cells := 0, slots := 0, locals := 30 })).room.cells := Nat.le_refl _
  have hrs : 0 + 0 ≤ (headSpec wsX0_copyFrom ({ frames := 1, cells := 0, slots := 0, locals := 30 })).room.slots := Nat.le_refl _
  subst hsz
  have hD := hD0.self (sz := s.heap.size)
  generalize hAe : va_A (WX G a c) s.heap.size = A at hD ⊢
  have hA : ∀ q : Nat, s.heap.size ≤ q → A q := fun q h => by rw [← hAe]; exact Or.inr h
  have hS : va_S A s.heap s.heap [] := va_S.rf
  obtain ⟨hk7, ho1, ho5, hi6, hl200, hnx, hkn⟩ := id hc
  have hin0 : ∀ w ∈ u_ws RX0 TX0 7, w ∈ wsX0_copyFrom := by decide +kernel
  have hf9 := hts (.fieldLink RX0 9 "RegaliaVotes$Council" "things" "I") (by decide +kernel)
  have hf15 := hts (.fieldLink RX0 15 "RegaliaVotes$Council" "officers" "I") (by decide +kernel)
  have hf18 := hts (.fieldLink RX0 18 "RegaliaVotes$Council" "warmth" "I") (by decide +kernel)
  have hf21 := hts (.fieldLink RX0 21 "RegaliaVotes$Council" "sort" "[I") (by decide +kernel)
  have hf25 := hts (.fieldLink RX0 25 "RegaliaVotes$Council" "votes" "[I") (by decide +kernel)
  have hf28 := hts (.fieldLink RX0 28 "RegaliaVotes$Council" "forBills" "[I") (by decide +kernel)
  have hf31 := hts (.fieldLink RX0 31 "RegaliaVotes$Council" "firstHolder" "[I") (by decide +kernel)
  refine wk_enter (n := 2) (Nat.le_of_ble_eq_true rfl) (fun ls hl => ?_)
  have hl : lv_has ls 2 [(0, .ref (a 1)), (1, .ref (a 16))] := hl
  refine lv_aload_n hx hb dX0_copyFrom_0 rfl (lv_at hl 0 rfl) ?_
  refine lv_aload_n hx hb dX0_copyFrom_1 rfl (lv_at hl 1 rfl) ?_
  refine va_get (D := G.1) (v := .int (nI (kT (cDr c)))) hx hb hts hin0 hown hK hP 16 rfl rfl 0 (by decide) hf9 (fun _ h => h) rfl dX0_copyFrom_2 ?_
  refine va_put (D := G.1) (v := .int (nI (kT (cDr c)))) (ty := .int) hx hb hts hin0 tyX0 tyX0_ok nmX0 hown hK hP hD hS 1 rfl rfl 0 (by decide) hf9 (fun _ h => h) rfl (by decide +kernel) rfl rfl (Nat.le_of_ble_eq_true rfl) dX0_copyFrom_5 (fun H locs hP hD hS => ?_)
  refine lv_aload_n hx hb dX0_copyFrom_8 rfl (lv_at hl 0 rfl) ?_
  refine lv_aload_n hx hb dX0_copyFrom_9 rfl (lv_at hl 1 rfl) ?_
  refine va_get (D := G.1) (v := .int (nI (kO (cDr c)))) hx hb hts hin0 hown hK hP 16 rfl rfl 1 (by decide) hf15 (fun _ h => h) rfl dX0_copyFrom_10 ?_
  refine va_put (D := G.1) (v := .int (nI (kO (cDr c)))) (ty := .int) hx hb hts hin0 tyX0 tyX0_ok nmX0 hown hK hP hD hS 1 rfl rfl 1 (by decide) hf15 (fun _ h => h) rfl (by decide +kernel) rfl rfl (Nat.le_of_ble_eq_true rfl) dX0_copyFrom_13 (fun H locs hP hD hS => ?_)
  refine lv_aload_n hx hb dX0_copyFrom_16 rfl (lv_at hl 0 rfl) ?_
  refine lv_aload_n hx hb dX0_copyFrom_17 rfl (lv_at hl 1 rfl) ?_
  refine va_get (D := G.1) (v := .int (kW (cDr c))) hx hb hts hin0 hown hK hP 16 rfl rfl 2 (by decide) hf18 (fun _ h => h) rfl dX0_copyFrom_18 ?_
  refine va_put (D := G.1) (v := .int (kW (cDr c))) (ty := .int) hx hb hts hin0 tyX0 tyX0_ok nmX0 hown hK hP hD hS 1 rfl rfl 2 (by decide) hf18 (fun _ h => h) rfl (by decide +kernel) rfl rfl (Nat.le_of_ble_eq_true rfl) dX0_copyFrom_21 (fun H locs hP hD hS => ?_)
  refine lv_aload_n hx hb dX0_copyFrom_24 rfl (lv_at hl 1 rfl) ?_
  refine va_get (D := G.1) (v := .ref (a 17)) hx hb hts hin0 hown hK hP 16 rfl rfl 3 (by decide) hf21 (fun _ h => h) rfl dX0_copyFrom_25 ?_
  refine lv_iconst (v := 0) hx hb dX0_copyFrom_28 (by decide) ?_
  refine lv_aload_n hx hb dX0_copyFrom_29 rfl (lv_at hl 0 rfl) ?_
  refine va_get (D := G.1) (v := .ref (a 2)) hx hb hts hin0 hown hK hP 1 rfl rfl 3 (by decide) hf21 (fun _ h => h) rfl dX0_copyFrom_30 ?_
  refine lv_iconst (v := 0) hx hb dX0_copyFrom_33 (by decide) ?_
  refine lv_bipush (v := 7) hx hb dX0_copyFrom_34 (by decide) ?_
  refine wk_copy7 hx hb (hml.trans hl.1.symm) hown (hts (.methodLink RX0 34 arraycopyName) (by decide +kernel)) (hts (.native arraycopyName) (by decide +kernel)) (hts (.static arraycopyName) (by decide +kernel)) (hts (.initialized "java/lang/System") (by decide +kernel)) hK hP hD hS 17 2 1 rfl rfl rfl (Nat.le_of_ble_eq_true rfl) (Nat.le_of_ble_eq_true rfl) dX0_copyFrom_36 (fun H locs hP hD hS => ?_)
  refine lv_aload_n hx hb dX0_copyFrom_39 rfl (lv_at hl 1 rfl) ?_
  refine va_get (D := G.1) (v := .ref (a 18)) hx hb hts hin0 hown hK hP 16 rfl rfl 4 (by decide) hf25 (fun _ h => h) rfl dX0_copyFrom_40 ?_
  refine lv_iconst (v := 0) hx hb dX0_copyFrom_43 (by decide) ?_
  refine lv_aload_n hx hb dX0_copyFrom_44 rfl (lv_at hl 0 rfl) ?_
  refine va_get (D := G.1) (v := .ref (a 3)) hx hb hts hin0 hown hK hP 1 rfl rfl 4 (by decide) hf25 (fun _ h => h) rfl dX0_copyFrom_45 ?_
  refine lv_iconst (v := 0) hx hb dX0_copyFrom_48 (by decide) ?_
  refine lv_bipush (v := 7) hx hb dX0_copyFrom_49 (by decide) ?_
  refine wk_copy7 hx hb (hml.trans hl.1.symm) hown (hts (.methodLink RX0 34 arraycopyName) (by decide +kernel)) (hts (.native arraycopyName) (by decide +kernel)) (hts (.static arraycopyName) (by decide +kernel)) (hts (.initialized "java/lang/System") (by decide +kernel)) hK hP hD hS 18 3 1 rfl rfl rfl (Nat.le_of_ble_eq_true rfl) (Nat.le_of_ble_eq_true rfl) dX0_copyFrom_51 (fun H locs hP hD hS => ?_)
  refine lv_aload_n hx hb dX0_copyFrom_54 rfl (lv_at hl 1 rfl) ?_
  refine va_get (D := G.1) (v := .ref (a 19)) hx hb hts hin0 hown hK hP 16 rfl rfl 5 (by decide) hf28 (fun _ h => h) rfl dX0_copyFrom_55 ?_
  refine lv_iconst (v := 0) hx hb dX0_copyFrom_58 (by decide) ?_
  refine lv_aload_n hx hb dX0_copyFrom_59 rfl (lv_at hl 0 rfl) ?_
  refine va_get (D := G.1) (v := .ref (a 4)) hx hb hts hin0 hown hK hP 1 rfl rfl 5 (by decide) hf28 (fun _ h => h) rfl dX0_copyFrom_60 ?_
  refine lv_iconst (v := 0) hx hb dX0_copyFrom_63 (by decide) ?_
  refine lv_bipush (v := 7) hx hb dX0_copyFrom_64 (by decide) ?_
  refine wk_copy7 hx hb (hml.trans hl.1.symm) hown (hts (.methodLink RX0 34 arraycopyName) (by decide +kernel)) (hts (.native arraycopyName) (by decide +kernel)) (hts (.static arraycopyName) (by decide +kernel)) (hts (.initialized "java/lang/System") (by decide +kernel)) hK hP hD hS 19 4 1 rfl rfl rfl (Nat.le_of_ble_eq_true rfl) (Nat.le_of_ble_eq_true rfl) dX0_copyFrom_66 (fun H locs hP hD hS => ?_)
  refine lv_aload_n hx hb dX0_copyFrom_69 rfl (lv_at hl 1 rfl) ?_
  refine va_get (D := G.1) (v := .ref (a 20)) hx hb hts hin0 hown hK hP 16 rfl rfl 6 (by decide) hf31 (fun _ h => h) rfl dX0_copyFrom_70 ?_
  refine lv_iconst (v := 0) hx hb dX0_copyFrom_73 (by decide) ?_
  refine lv_aload_n hx hb dX0_copyFrom_74 rfl (lv_at hl 0 rfl) ?_
  refine va_get (D := G.1) (v := .ref (a 5)) hx hb hts hin0 hown hK hP 1 rfl rfl 6 (by decide) hf31 (fun _ h => h) rfl dX0_copyFrom_75 ?_
  refine lv_iconst (v := 0) hx hb dX0_copyFrom_78 (by decide) ?_
  refine lv_bipush (v := 7) hx hb dX0_copyFrom_79 (by decide) ?_
  refine wk_copy7 hx hb (hml.trans hl.1.symm) hown (hts (.methodLink RX0 34 arraycopyName) (by decide +kernel)) (hts (.native arraycopyName) (by decide +kernel)) (hts (.static arraycopyName) (by decide +kernel)) (hts (.initialized "java/lang/System") (by decide +kernel)) hK hP hD hS 20 5 1 rfl rfl rfl (Nat.le_of_ble_eq_true rfl) (Nat.le_of_ble_eq_true rfl) dX0_copyFrom_81 (fun H locs hP hD hS => ?_)
  exact wk_mvret' hx hb hr hlocks dX0_copyFrom_84 hP hS (rfl)
theorem hdV_X1_tearUp : yX1_tearUp.cls = RX1 ∧ yX1_tearUp.cls ≠ "java/lang/invoke/MethodHandle" ∧ yX1_tearUp.cls ≠ "java/lang/invoke/VarHandle" ∧ (parseMethodDescriptor yX1_tearUp.desc).map (fun d => d.parameters.length) = some 0 := by decide +kernel
set_option maxHeartbeats 4000000 in
set_option maxRecDepth 100000 in
theorem c_X1_tearUp (l : Launch) (G : GG) (a : Nat → Nat) (c : CX) (hc : OkR c) (sz : Nat) : Met l yX1_tearUp wsX1_tearUp ({ frames := 0, cells := 0, slots := 0, locals := 0 }) (va_Pc [.ref (a 11)] (fun U => PreM G (WX G a c) sz U U.heap)) (Qm G.1 vwCl (none) (WX G a (sTear c)) (va_A (WX G a c) sz)) 0 0 (va_A (WX G a c) sz) := by
  refine Met.ofW (cc := cX1_tearUp) (maxL := 1) (ret := none) (by decide) rfl ?_
  intro p e s m args below meth cd s₁ BB hml hv
  obtain ⟨rfl, ⟨hP, hK, hN⟩, hD0, hsz⟩ := hv
  have hx := BB.exec
  have hb := BB.bytes
  have hr := BB.returns
  have hts := atoms_spec (ws := wsX1_tearUp) BB.pre
  have hown : s.vm.findClass RX1 = some m.cls := findClass_of_methodNamed BB.named
  have hlocks := BB.notSynchronized
  have hrc : 0 + 0 ≤ (headSpec wsX1_tearUp ({ frames := 0, cells := 0, slots := 0, locals := 0 })).room.cells := Nat.le_refl _
  have hrs : 0 + 0 ≤ (headSpec wsX1_tearUp ({ frames := 0, cells := 0, slots := 0, locals := 0 })).room.slots := Nat.le_refl _
  subst hsz
  have hD := hD0.self (sz := s.heap.size)
  generalize hAe : va_A (WX G a c) s.heap.size = A at hD ⊢
  have hA : ∀ q : Nat, s.heap.size ≤ q → A q := fun q h => by rw [← hAe]; exact Or.inr h
  have hS : va_S A s.heap s.heap [] := va_S.rf
  obtain ⟨hk7, ho1, ho5, hi6, hl200, hnx, hkn⟩ := id hc
  have hin1 : ∀ w ∈ u_ws RX1 TX1 4, w ∈ wsX1_tearUp := by decide +kernel
  have hf19 := hts (.fieldLink RX1 19 "RegaliaVotes$Minutes" "lines" "I") (by decide +kernel)
  refine wk_enter (n := 1) (Nat.le_of_ble_eq_true rfl) (fun ls hl => ?_)
  have hl : lv_has ls 1 [(0, .ref (a 11))] := hl
  refine lv_aload_n hx hb dX1_tearUp_0 rfl (lv_at hl 0 rfl) ?_
  refine lv_iconst (v := 0) hx hb dX1_tearUp_1 (by decide) ?_
  refine va_put (D := G.1) (v := .int 0) (ty := .int) hx hb hts hin1 tyX1 tyX1_ok nmX1 hown hK hP hD hS 11 rfl rfl 3 (by decide) hf19 (fun _ h => h) rfl (by decide +kernel) rfl rfl (Nat.le_of_ble_eq_true rfl) dX1_tearUp_2 (fun H locs hP hD hS => ?_)
  exact wk_mvret' hx hb hr hlocks dX1_tearUp_5 hP hS (rfl)
theorem hdV_X1_write : yX1_write.cls = RX1 ∧ yX1_write.cls ≠ "java/lang/invoke/MethodHandle" ∧ yX1_write.cls ≠ "java/lang/invoke/VarHandle" ∧ (parseMethodDescriptor yX1_write.desc).map (fun d => d.parameters.length) = some 2 := by decide +kernel
set_option maxHeartbeats 4000000 in
set_option maxRecDepth 100000 in
theorem c_X1_write (l : Launch) (G : GG) (a : Nat → Nat) (c : CX) (hc : OkR c) (b : Int32) (q : Bool) (sz : Nat) : Met l yX1_write wsX1_write ({ frames := 0, cells := 0, slots := 0, locals := 0 }) (va_Pc [.ref (a 11), .int b, .int (b2i q)] (fun U => PreM G (WX G a c) sz U U.heap)) (Qm G.1 vwCl (none) (WX G a (sWrite c b q)) (va_A (WX G a c) sz)) 0 0 (va_A (WX G a c) sz) := by
  refine Met.ofW (cc := cX1_write) (maxL := 3) (ret := none) (by decide) rfl ?_
  intro p e s m args below meth cd s₁ BB hml hv
  obtain ⟨rfl, ⟨hP, hK, hN⟩, hD0, hsz⟩ := hv
  have hx := BB.exec
  have hb := BB.bytes
  have hr := BB.returns
  have hts := atoms_spec (ws := wsX1_write) BB.pre
  have hown : s.vm.findClass RX1 = some m.cls := findClass_of_methodNamed BB.named
  have hlocks := BB.notSynchronized
  have hrc : 0 + 0 ≤ (headSpec wsX1_write ({ frames := 0, cells := 0, slots := 0, locals := 0 })).room.cells := Nat.le_refl _
  have hrs : 0 + 0 ≤ (headSpec wsX1_write ({ frames := 0, cells := 0, slots := 0, locals := 0 })).room.slots := Nat.le_refl _
  subst hsz
  have hD := hD0.self (sz := s.heap.size)
  generalize hAe : va_A (WX G a c) s.heap.size = A at hD ⊢
  have hA : ∀ q : Nat, s.heap.size ≤ q → A q := fun q h => by rw [← hAe]; exact Or.inr h
  have hS : va_S A s.heap s.heap [] := va_S.rf
  obtain ⟨hk7, ho1, ho5, hi6, hl200, hnx, hkn⟩ := id hc
  have hin1 : ∀ w ∈ u_ws RX1 TX1 4, w ∈ wsX1_write := by decide +kernel
  have hf9 := hts (.fieldLink RX1 9 "RegaliaVotes$Minutes" "bills" "[I") (by decide +kernel)
  have hf15 := hts (.fieldLink RX1 15 "RegaliaVotes$Minutes" "outcomes" "[Z") (by decide +kernel)
  have hf19 := hts (.fieldLink RX1 19 "RegaliaVotes$Minutes" "lines" "I") (by decide +kernel)
  refine wk_enter (n := 3) (Nat.le_of_ble_eq_true rfl) (fun ls hl => ?_)
  have hl : lv_has ls 3 [(0, .ref (a 11)), (1, .int b), (2, .int (b2i q))] := hl
  refine lv_aload_n hx hb dX1_write_0 rfl (lv_at hl 0 rfl) ?_
  refine va_get (D := G.1) (v := .int (nI (iL (cI c)))) hx hb hts hin1 hown hK hP 11 rfl rfl 3 (by decide) hf19 (fun _ h => h) rfl dX1_write_1 ?_
  refine lv_bipush (v := 6) hx hb dX1_write_4 (by decide) ?_
  refine wk_lt (x := (iL (cI c))) (y := 6) (tgt := 10) hx hb (by omega) (by omega) dX1_write_6 (by decide) (fun c6 => ?_) (fun c6 => ?_)
  · refine lv_aload_n hx hb dX1_write_10 rfl (lv_at hl 0 rfl) ?_
    refine va_get (D := G.1) (v := .ref (a 12)) hx hb hts hin1 hown hK hP 11 rfl rfl 1 (by decide) hf9 (fun _ h => h) rfl dX1_write_11 ?_
    refine lv_aload_n hx hb dX1_write_14 rfl (lv_at hl 0 rfl) ?_
    refine va_get (D := G.1) (v := .int (nI (iL (cI c)))) hx hb hts hin1 hown hK hP 11 rfl rfl 3 (by decide) hf19 (fun _ h => h) rfl dX1_write_15 ?_
    refine lv_iload_n hx hb dX1_write_18 rfl (lv_at hl 1 rfl) ?_
    refine wk_iast (i := (iL (cI c))) hx hb hK hP hD hS 12 1 rfl rfl (by omega) (Nat.le_of_ble_eq_true rfl) dX1_write_19 (fun H locs hP hD hS => ?_)
    refine lv_aload_n hx hb dX1_write_20 rfl (lv_at hl 0 rfl) ?_
    refine va_get (D := G.1) (v := .ref (a 13)) hx hb hts hin1 hown hK hP 11 rfl rfl 2 (by decide) hf15 (fun _ h => h) rfl dX1_write_21 ?_
    refine lv_aload_n hx hb dX1_write_24 rfl (lv_at hl 0 rfl) ?_
    refine va_get (D := G.1) (v := .int (nI (iL (cI c)))) hx hb hts hin1 hown hK hP 11 rfl rfl 3 (by decide) hf19 (fun _ h => h) rfl dX1_write_25 ?_
    refine lv_iload_n hx hb dX1_write_28 rfl (lv_at hl 2 rfl) ?_
    refine wk_zast (i := (iL (cI c))) (x := (b2i q)) hx hb hK hP hD hS 13 2 rfl rfl (by omega) (Nat.le_of_ble_eq_true rfl) (b2i_vnar _) dX1_write_29 (fun H locs hP hD hS => ?_)
    rw [updB_eq] at hP hD
    refine lv_aload_n hx hb dX1_write_30 rfl (lv_at hl 0 rfl) ?_
    refine lv_dup hx hb dX1_write_31 rfl ?_
    refine va_get (D := G.1) (v := .int (nI (iL (cI c)))) hx hb hts hin1 hown hK hP 11 rfl rfl 3 (by decide) hf19 (fun _ h => h) rfl dX1_write_32 ?_
    refine lv_iconst (v := 1) hx hb dX1_write_35 (by decide) ?_
    refine wk_iadd (x := (iL (cI c))) (y := 1) hx hb dX1_write_36 ?_
    refine va_put (D := G.1) (v := .int (nI ((iL (cI c)) + 1))) (ty := .int) hx hb hts hin1 tyX1 tyX1_ok nmX1 hown hK hP hD hS 11 rfl rfl 3 (by decide) hf19 (fun _ h => h) rfl (by decide +kernel) rfl rfl (Nat.le_of_ble_eq_true rfl) dX1_write_37 (fun H locs hP hD hS => ?_)
    exact wk_mvret' hx hb hr hlocks dX1_write_40 hP hS (congrArg (WX G a) (show sWrite c b q = setI c (upd (iB (cI c)) (iL (cI c)) b, va_up (iO (cI c)) (iL (cI c)) q, iL (cI c) + 1) from by simp only [sWrite]; rw [if_pos c6]))
  · exact wk_mvret' hx hb hr hlocks dX1_write_9 hP hS (congrArg (WX G a) (show sWrite c b q = c from by simp only [sWrite]; rw [if_neg (by omega)]))
theorem hdV_X3_lose : yX3_lose.cls = RX3 ∧ yX3_lose.cls ≠ "java/lang/invoke/MethodHandle" ∧ yX3_lose.cls ≠ "java/lang/invoke/VarHandle" ∧ (parseMethodDescriptor yX3_lose.desc).map (fun d => d.parameters.length) = some 0 := by decide +kernel
set_option maxHeartbeats 4000000 in
set_option maxRecDepth 100000 in
theorem c_X3_lose (l : Launch) (G : GG) (a : Nat → Nat) (c : CX) (hc : OkR c) (sz : Nat) : Met l yX3_lose wsX3_lose ({ frames := 0, cells := 0, slots := 0, locals := 0 }) (va_Pc [.ref (a 14)] (fun U => PreM G (WX G a c) sz U U.heap)) (Qm G.1 vwCl (none) (WX G a (sLose c)) (va_A (WX G a c) sz)) 0 0 (va_A (WX G a c) sz) := by
  refine Met.ofW (cc := cX3_lose) (maxL := 1) (ret := none) (by decide) rfl ?_
  intro p e s m args below meth cd s₁ BB hml hv
  obtain ⟨rfl, ⟨hP, hK, hN⟩, hD0, hsz⟩ := hv
  have hx := BB.exec
  have hb := BB.bytes
  have hr := BB.returns
  have hts := atoms_spec (ws := wsX3_lose) BB.pre
  have hown : s.vm.findClass RX3 = some m.cls := findClass_of_methodNamed BB.named
  have hlocks := BB.notSynchronized
  have hrc : 0 + 0 ≤ (headSpec wsX3_lose ({ frames := 0, cells := 0, slots := 0, locals := 0 })).room.cells := Nat.le_refl _
  have hrs : 0 + 0 ≤ (headSpec wsX3_lose ({ frames := 0, cells := 0, slots := 0, locals := 0 })).room.slots := Nat.le_refl _
  subst hsz
  have hD := hD0.self (sz := s.heap.size)
  generalize hAe : va_A (WX G a c) s.heap.size = A at hD ⊢
  have hA : ∀ q : Nat, s.heap.size ≤ q → A q := fun q h => by rw [← hAe]; exact Or.inr h
  have hS : va_S A s.heap s.heap [] := va_S.rf
  obtain ⟨hk7, ho1, ho5, hi6, hl200, hnx, hkn⟩ := id hc
  have hin3 : ∀ w ∈ u_ws RX3 TX3 3, w ∈ wsX3_lose := by decide +kernel
  have hf21 := hts (.fieldLink RX3 21 "RegaliaVotes$Past" "known" "I") (by decide +kernel)
  refine wk_enter (n := 1) (Nat.le_of_ble_eq_true rfl) (fun ls hl => ?_)
  have hl : lv_has ls 1 [(0, .ref (a 14))] := hl
  refine lv_aload_n hx hb dX3_lose_0 rfl (lv_at hl 0 rfl) ?_
  refine lv_iconst (v := 0) hx hb dX3_lose_1 (by decide) ?_
  refine va_put (D := G.1) (v := .int 0) (ty := .int) hx hb hts hin3 tyX3 tyX3_ok nmX3 hown hK hP hD hS 14 rfl rfl 2 (by decide) hf21 (fun _ h => h) rfl (by decide +kernel) rfl rfl (Nat.le_of_ble_eq_true rfl) dX3_lose_2 (fun H locs hP hD hS => ?_)
  exact wk_mvret' hx hb hr hlocks dX3_lose_5 hP hS (rfl)
theorem hdV_X3_remember : yX3_remember.cls = RX3 ∧ yX3_remember.cls ≠ "java/lang/invoke/MethodHandle" ∧ yX3_remember.cls ≠ "java/lang/invoke/VarHandle" ∧ (parseMethodDescriptor yX3_remember.desc).map (fun d => d.parameters.length) = some 1 := by decide +kernel
set_option maxHeartbeats 4000000 in
set_option maxRecDepth 100000 in
theorem c_X3_remember (l : Launch) (G : GG) (a : Nat → Nat) (c : CX) (hc : OkR c) (sz : Nat) : Met l yX3_remember wsX3_remember ({ frames := 2, cells := 0, slots := 0, locals := 51 }) (va_Pc [.ref (a 14), .ref (a 6)] (fun U => PreM G (WX G a c) sz U U.heap)) (Qm G.1 vwCl (none) (WX G a (sRem c)) (va_A (WX G a c) sz)) 0 0 (va_A (WX G a c) sz) := by
  refine Met.ofW (cc := cX3_remember) (maxL := 2) (ret := none) (by decide) rfl ?_
  intro p e s m args below meth cd s₁ BB hml hv
  obtain ⟨rfl, ⟨hP, hK, hN⟩, hD0, hsz⟩ := hv
  have hx := BB.exec
  have hb := BB.bytes
  have hr := BB.returns
  have hts := atoms_spec (ws := wsX3_remember) BB.pre
  have hown : s.vm.findClass RX3 = some m.cls := findClass_of_methodNamed BB.named
  have hlocks := BB.notSynchronized
  have hrc : 0 + 0 ≤ (headSpec wsX3_remember ({ frames := 2, cells := 0, slots := 0, locals := 51 })).room.cells := Nat.le_refl _
  have hrs : 0 + 0 ≤ (headSpec wsX3_remember ({ frames := 2, cells := 0, slots := 0, locals := 51 })).room.slots := Nat.le_refl _
  subst hsz
  have hD := hD0.self (sz := s.heap.size)
  generalize hAe : va_A (WX G a c) s.heap.size = A at hD ⊢
  have hA : ∀ q : Nat, s.heap.size ≤ q → A q := fun q h => by rw [← hAe]; exact Or.inr h
  have hS : va_S A s.heap s.heap [] := va_S.rf
  obtain ⟨hk7, ho1, ho5, hi6, hl200, hnx, hkn⟩ := id hc
  have hin3 : ∀ w ∈ u_ws RX3 TX3 3, w ∈ wsX3_remember := by decide +kernel
  have hf11 := hts (.fieldLink RX3 11 "RegaliaVotes$Past" "ring" "[LRegaliaVotes$Moment;") (by decide +kernel)
  have hf17 := hts (.fieldLink RX3 17 "RegaliaVotes$Past" "next" "I") (by decide +kernel)
  have hf21 := hts (.fieldLink RX3 21 "RegaliaVotes$Past" "known" "I") (by decide +kernel)
  refine wk_enter (n := 2) (Nat.le_of_ble_eq_true rfl) (fun ls hl => ?_)
  have hl : lv_has ls 2 [(0, .ref (a 14)), (1, .ref (a 6))] := hl
  refine lv_aload_n hx hb dX3_remember_0 rfl (lv_at hl 0 rfl) ?_
  refine va_get (D := G.1) (v := .ref (a 22)) hx hb hts hin3 hown hK hP 14 rfl rfl 0 (by decide) hf11 (fun _ h => h) rfl dX3_remember_1 ?_
  refine lv_aload_n hx hb dX3_remember_4 rfl (lv_at hl 0 rfl) ?_
  refine va_get (D := G.1) (v := .int (nI (cNx c))) hx hb hts hin3 hown hK hP 14 rfl rfl 1 (by decide) hf17 (fun _ h => h) rfl dX3_remember_5 ?_
  refine wk_aald (i := (cNx c)) (b := a (23 + 3 * (cNx c))) hx hb hK hP 22 3 rfl rfl hnx (Nat.le_of_ble_eq_true rfl) rfl dX3_remember_8 ?_
  refine lv_aload_n hx hb dX3_remember_9 rfl (lv_at hl 1 rfl) ?_
  refine wk_call (va_runV (As := [.ref (a 6)]) (rest := []) ⟨hx, hb, hml, hown, hts⟩ (c_X2_copyFrom l G (twoM a (23 + 3 * (cNx c)) 6) (cRi c (cNx c)) (cM c) s.heap.size) (cwV 1 hts gX3_remember_X2_copyFrom rfl rfl rfl hdV_X2_copyFrom ⟨Nat.le_of_ble_eq_true rfl, Nat.le_of_ble_eq_true rfl⟩) ((PreM.of hP hK hN hD [23 + 3 * (cNx c), 24 + 3 * (cNx c), 25 + 3 * (cNx c), 6, 7, 8] (ring_nd hnx) (ring_get G a c hnx)).pre (ci := 2) (q0 := 0) rfl rfl) rfl rfl hl.1 rfl (lv_room (Nat.le_of_ble_eq_true rfl)) dX3_remember_10 ⟨hrc, hrs⟩) hP hD hS hA [23 + 3 * (cNx c), 24 + 3 * (cNx c), 25 + 3 * (cNx c), 6, 7, 8] (ring_get G a c hnx) rfl (fun H locs hP hD hS => ?_)
  rw [ring_set G a c hnx] at hP hD
  have hP : va_P G.1 vwCl (WX G a (setRi c (va_up (cRi c) (cNx c) (cM c)))) H := hP
  have hD : va_D A (WX G a (setRi c (va_up (cRi c) (cNx c) (cM c)))) := hD
  refine W.eq (g2 := F0 m 13 ls []) rfl ?_
  refine lv_aload_n hx hb dX3_remember_13 rfl (lv_at hl 0 rfl) ?_
  refine lv_aload_n hx hb dX3_remember_14 rfl (lv_at hl 0 rfl) ?_
  refine va_get (D := G.1) (v := .int (nI (cNx c))) hx hb hts hin3 hown hK hP 14 rfl rfl 1 (by decide) hf17 (fun _ h => h) rfl dX3_remember_15 ?_
  refine lv_bipush (v := 9) hx hb dX3_remember_18 (by decide) ?_
  refine wk_ne (x := (cNx c)) (y := 9) (tgt := 27) hx hb (by omega) (by omega) dX3_remember_20 (by decide) (fun c20 => ?_) (fun c20 => ?_)
  · refine lv_aload_n hx hb dX3_remember_27 rfl (lv_at hl 0 rfl) ?_
    refine va_get (D := G.1) (v := .int (nI (cNx c))) hx hb hts hin3 hown hK hP 14 rfl rfl 1 (by decide) hf17 (fun _ h => h) rfl dX3_remember_28 ?_
    refine lv_iconst (v := 1) hx hb dX3_remember_31 (by decide) ?_
    refine wk_iadd (x := (cNx c)) (y := 1) hx hb dX3_remember_32 ?_
    refine va_put (D := G.1) (v := .int (nI ((cNx c) + 1))) (ty := .int) hx hb hts hin3 tyX3 tyX3_ok nmX3 hown hK hP hD hS 14 rfl rfl 1 (by decide) hf17 (fun _ h => h) rfl (by decide +kernel) rfl rfl (Nat.le_of_ble_eq_true rfl) dX3_remember_33 (fun H locs hP hD hS => ?_)
    refine lv_aload_n hx hb dX3_remember_36 rfl (lv_at hl 0 rfl) ?_
    refine lv_aload_n hx hb dX3_remember_37 rfl (lv_at hl 0 rfl) ?_
    refine va_get (D := G.1) (v := .int (nI (cKn c))) hx hb hts hin3 hown hK hP 14 rfl rfl 2 (by decide) hf21 (fun _ h => h) rfl dX3_remember_38 ?_
    refine lv_iconst (v := 1) hx hb dX3_remember_41 (by decide) ?_
    refine wk_iadd (x := (cKn c)) (y := 1) hx hb dX3_remember_42 ?_
    refine lv_bipush (v := 10) hx hb dX3_remember_43 (by decide) ?_
    refine va_mmin hx hb (hml.trans hl.1.symm) hown (hts (.methodLink RX3 29 Lib.Math.min.name) (by decide +kernel)) (hts (.static Lib.Math.min.name) (by decide +kernel)) (hts (.initialized "java/lang/Math") (by decide +kernel)) (hts (.code Lib.Math.min.name Lib.Math.min.code 2 (some .int)) (by decide +kernel)) (Nat.le_of_ble_eq_true rfl) (Nat.le_of_ble_eq_true rfl) (Nat.zero_le _) (Nat.zero_le _) dX3_remember_45 ?_
    refine W.eq (congrArg (fun z => F0 m 48 ls (.int z :: [.ref (a 14)])) (min_n (x := ((cKn c) + 1)) (y := 10) (by omega) (by omega))) ?_
    refine va_put (D := G.1) (v := .int (nI (min ((cKn c) + 1) 10))) (ty := .int) hx hb hts hin3 tyX3 tyX3_ok nmX3 hown hK hP hD hS 14 rfl rfl 2 (by decide) hf21 (fun _ h => h) rfl (by decide +kernel) rfl rfl (Nat.le_of_ble_eq_true rfl) dX3_remember_48 (fun H locs hP hD hS => ?_)
    exact wk_mvret' hx hb hr hlocks dX3_remember_51 hP hS (congrArg (WX G a) (show sRem c = setNK (setRi c (va_up (cRi c) (cNx c) (cM c))) (cNx c + 1) (min (cKn c + 1) 10) from by simp only [sRem]; rw [if_neg c20]))
  · refine lv_iconst (v := 0) hx hb dX3_remember_23 (by decide) ?_
    refine lv_goto (tgt := 33) hx hb dX3_remember_24 (by decide) ?_
    refine va_put (D := G.1) (v := .int 0) (ty := .int) hx hb hts hin3 tyX3 tyX3_ok nmX3 hown hK hP hD hS 14 rfl rfl 1 (by decide) hf17 (fun _ h => h) rfl (by decide +kernel) rfl rfl (Nat.le_of_ble_eq_true rfl) dX3_remember_33 (fun H locs hP hD hS => ?_)
    refine lv_aload_n hx hb dX3_remember_36 rfl (lv_at hl 0 rfl) ?_
    refine lv_aload_n hx hb dX3_remember_37 rfl (lv_at hl 0 rfl) ?_
    refine va_get (D := G.1) (v := .int (nI (cKn c))) hx hb hts hin3 hown hK hP 14 rfl rfl 2 (by decide) hf21 (fun _ h => h) rfl dX3_remember_38 ?_
    refine lv_iconst (v := 1) hx hb dX3_remember_41 (by decide) ?_
    refine wk_iadd (x := (cKn c)) (y := 1) hx hb dX3_remember_42 ?_
    refine lv_bipush (v := 10) hx hb dX3_remember_43 (by decide) ?_
    refine va_mmin hx hb (hml.trans hl.1.symm) hown (hts (.methodLink RX3 29 Lib.Math.min.name) (by decide +kernel)) (hts (.static Lib.Math.min.name) (by decide +kernel)) (hts (.initialized "java/lang/Math") (by decide +kernel)) (hts (.code Lib.Math.min.name Lib.Math.min.code 2 (some .int)) (by decide +kernel)) (Nat.le_of_ble_eq_true rfl) (Nat.le_of_ble_eq_true rfl) (Nat.zero_le _) (Nat.zero_le _) dX3_remember_45 ?_
    refine W.eq (congrArg (fun z => F0 m 48 ls (.int z :: [.ref (a 14)])) (min_n (x := ((cKn c) + 1)) (y := 10) (by omega) (by omega))) ?_
    refine va_put (D := G.1) (v := .int (nI (min ((cKn c) + 1) 10))) (ty := .int) hx hb hts hin3 tyX3 tyX3_ok nmX3 hown hK hP hD hS 14 rfl rfl 2 (by decide) hf21 (fun _ h => h) rfl (by decide +kernel) rfl rfl (Nat.le_of_ble_eq_true rfl) dX3_remember_48 (fun H locs hP hD hS => ?_)
    exact wk_mvret' hx hb hr hlocks dX3_remember_51 hP hS (congrArg (WX G a) (show sRem c = setNK (setRi c (va_up (cRi c) (cNx c) (cM c))) 0 (min (cKn c + 1) 10) from by simp only [sRem]; rw [if_pos c20]))
theorem hdV_X3_recall : yX3_recall.cls = RX3 ∧ yX3_recall.cls ≠ "java/lang/invoke/MethodHandle" ∧ yX3_recall.cls ≠ "java/lang/invoke/VarHandle" ∧ (parseMethodDescriptor yX3_recall.desc).map (fun d => d.parameters.length) = some 1 := by decide +kernel
set_option maxHeartbeats 4000000 in
set_option maxRecDepth 100000 in
theorem c_X3_recall (l : Launch) (G : GG) (a : Nat → Nat) (c : CX) (hc : OkR c) (sz : Nat) : Met l yX3_recall wsX3_recall ({ frames := 2, cells := 0, slots := 0, locals := 51 }) (va_Pc [.ref (a 14), .ref (a 6)] (fun U => PreM G (WX G a c) sz U U.heap)) (Qm G.1 vwCl (none) (WX G a (sRec c)) (va_A (WX G a c) sz)) 0 0 (va_A (WX G a c) sz) := by
  refine Met.ofW (cc := cX3_recall) (maxL := 2) (ret := none) (by decide) rfl ?_
  intro p e s m args below meth cd s₁ BB hml hv
  obtain ⟨rfl, ⟨hP, hK, hN⟩, hD0, hsz⟩ := hv
  have hx := BB.exec
  have hb := BB.bytes
  have hr := BB.returns
  have hts := atoms_spec (ws := wsX3_recall) BB.pre
  have hown : s.vm.findClass RX3 = some m.cls := findClass_of_methodNamed BB.named
  have hlocks := BB.notSynchronized
  have hrc : 0 + 0 ≤ (headSpec wsX3_recall ({ frames := 2, cells := 0, slots := 0, locals := 51 })).room.cells := Nat.le_refl _
  have hrs : 0 + 0 ≤ (headSpec wsX3_recall ({ frames := 2, cells := 0, slots := 0, locals := 51 })).room.slots := Nat.le_refl _
  subst hsz
  have hD := hD0.self (sz := s.heap.size)
  generalize hAe : va_A (WX G a c) s.heap.size = A at hD ⊢
  have hA : ∀ q : Nat, s.heap.size ≤ q → A q := fun q h => by rw [← hAe]; exact Or.inr h
  have hS : va_S A s.heap s.heap [] := va_S.rf
  obtain ⟨hk7, ho1, ho5, hi6, hl200, hnx, hkn⟩ := id hc
  have hin3 : ∀ w ∈ u_ws RX3 TX3 3, w ∈ wsX3_recall := by decide +kernel
  have hf11 := hts (.fieldLink RX3 11 "RegaliaVotes$Past" "ring" "[LRegaliaVotes$Moment;") (by decide +kernel)
  have hf17 := hts (.fieldLink RX3 17 "RegaliaVotes$Past" "next" "I") (by decide +kernel)
  have hf21 := hts (.fieldLink RX3 21 "RegaliaVotes$Past" "known" "I") (by decide +kernel)
  refine wk_enter (n := 2) (Nat.le_of_ble_eq_true rfl) (fun ls hl => ?_)
  have hl : lv_has ls 2 [(0, .ref (a 14)), (1, .ref (a 6))] := hl
  refine lv_aload_n hx hb dX3_recall_0 rfl (lv_at hl 0 rfl) ?_
  refine va_get (D := G.1) (v := .int (nI (cKn c))) hx hb hts hin3 hown hK hP 14 rfl rfl 2 (by decide) hf21 (fun _ h => h) rfl dX3_recall_1 ?_
  refine lv_if_ne (tgt := 8) hx hb dX3_recall_4 (by decide) (fun c4 => ?_) (fun c4 => ?_)
  · have c4 := nI_nz c4
    refine lv_aload_n hx hb dX3_recall_8 rfl (lv_at hl 0 rfl) ?_
    refine lv_aload_n hx hb dX3_recall_9 rfl (lv_at hl 0 rfl) ?_
    refine va_get (D := G.1) (v := .int (nI (cNx c))) hx hb hts hin3 hown hK hP 14 rfl rfl 1 (by decide) hf17 (fun _ h => h) rfl dX3_recall_10 ?_
    refine lv_if_ne (tgt := 21) hx hb dX3_recall_13 (by decide) (fun c13 => ?_) (fun c13 => ?_)
    · have c13 := nI_nz c13
      refine lv_aload_n hx hb dX3_recall_21 rfl (lv_at hl 0 rfl) ?_
      refine va_get (D := G.1) (v := .int (nI (cNx c))) hx hb hts hin3 hown hK hP 14 rfl rfl 1 (by decide) hf17 (fun _ h => h) rfl dX3_recall_22 ?_
      refine lv_iconst (v := 1) hx hb dX3_recall_25 (by decide) ?_
      refine wk_isub (x := (cNx c)) (y := 1) hx hb (by omega) dX3_recall_26 ?_
      refine va_put (D := G.1) (v := .int (nI ((cNx c) - 1))) (ty := .int) hx hb hts hin3 tyX3 tyX3_ok nmX3 hown hK hP hD hS 14 rfl rfl 1 (by decide) hf17 (fun _ h => h) rfl (by decide +kernel) rfl rfl (Nat.le_of_ble_eq_true rfl) dX3_recall_27 (fun H locs hP hD hS => ?_)
      refine lv_aload_n hx hb dX3_recall_30 rfl (lv_at hl 0 rfl) ?_
      refine lv_dup hx hb dX3_recall_31 rfl ?_
      refine va_get (D := G.1) (v := .int (nI (cKn c))) hx hb hts hin3 hown hK hP 14 rfl rfl 2 (by decide) hf21 (fun _ h => h) rfl dX3_recall_32 ?_
      refine lv_iconst (v := 1) hx hb dX3_recall_35 (by decide) ?_
      refine wk_isub (x := (cKn c)) (y := 1) hx hb (by omega) dX3_recall_36 ?_
      refine va_put (D := G.1) (v := .int (nI ((cKn c) - 1))) (ty := .int) hx hb hts hin3 tyX3 tyX3_ok nmX3 hown hK hP hD hS 14 rfl rfl 2 (by decide) hf21 (fun _ h => h) rfl (by decide +kernel) rfl rfl (Nat.le_of_ble_eq_true rfl) dX3_recall_37 (fun H locs hP hD hS => ?_)
      have hP : va_P G.1 vwCl (WX G a (setNK c ((cNx c) - 1) (cKn c - 1))) H := hP
      have hD : va_D A (WX G a (setNK c ((cNx c) - 1) (cKn c - 1))) := hD
      refine lv_aload_n hx hb dX3_recall_40 rfl (lv_at hl 1 rfl) ?_
      refine lv_aload_n hx hb dX3_recall_41 rfl (lv_at hl 0 rfl) ?_
      refine va_get (D := G.1) (v := .ref (a 22)) hx hb hts hin3 hown hK hP 14 rfl rfl 0 (by decide) hf11 (fun _ h => h) rfl dX3_recall_42 ?_
      refine lv_aload_n hx hb dX3_recall_45 rfl (lv_at hl 0 rfl) ?_
      refine va_get (D := G.1) (v := .int (nI ((cNx c) - 1))) hx hb hts hin3 hown hK hP 14 rfl rfl 1 (by decide) hf17 (fun _ h => h) rfl dX3_recall_46 ?_
      refine wk_aald (i := ((cNx c) - 1)) (b := a (23 + 3 * ((cNx c) - 1))) hx hb hK hP 22 3 rfl rfl (by omega) (Nat.le_of_ble_eq_true rfl) rfl dX3_recall_49 ?_
      refine wk_call (va_runV (As := [.ref (a (23 + 3 * ((cNx c) - 1)))]) (rest := []) ⟨hx, hb, hml, hown, hts⟩ (c_X2_copyFrom l G (twoM a 6 (23 + 3 * ((cNx c) - 1))) (cM (setNK c ((cNx c) - 1) (cKn c - 1))) (cRi (setNK c ((cNx c) - 1) (cKn c - 1)) ((cNx c) - 1)) H.size) (cwV 1 hts gX3_recall_X2_copyFrom rfl rfl rfl hdV_X2_copyFrom ⟨Nat.le_of_ble_eq_true rfl, Nat.le_of_ble_eq_true rfl⟩) ((PreM.of hP hK hN hD [6, 7, 8, 23 + 3 * ((cNx c) - 1), 24 + 3 * ((cNx c) - 1), 25 + 3 * ((cNx c) - 1)] (ring_nd2 (show ((cNx c) - 1) < 10 by omega)) (ring_get2 G a (setNK c ((cNx c) - 1) (cKn c - 1)) (show ((cNx c) - 1) < 10 by omega))).pre (ci := 2) (q0 := 0) rfl rfl) rfl rfl hl.1 rfl (lv_room (Nat.le_of_ble_eq_true rfl)) dX3_recall_50 ⟨hrc, hrs⟩) hP hD hS hA [6, 7, 8, 23 + 3 * ((cNx c) - 1), 24 + 3 * ((cNx c) - 1), 25 + 3 * ((cNx c) - 1)] (ring_get2 G a (setNK c ((cNx c) - 1) (cKn c - 1)) (show ((cNx c) - 1) < 10 by omega)) rfl (fun H locs hP hD hS => ?_)
      rw [ring_set2 G a (setNK c ((cNx c) - 1) (cKn c - 1)) (show ((cNx c) - 1) < 10 by omega)] at hP hD
      have hP : va_P G.1 vwCl (WX G a (setM (setNK c ((cNx c) - 1) (cKn c - 1)) (cRi (setNK c ((cNx c) - 1) (cKn c - 1)) ((cNx c) - 1)))) H := hP
      have hD : va_D A (WX G a (setM (setNK c ((cNx c) - 1) (cKn c - 1)) (cRi (setNK c ((cNx c) - 1) (cKn c - 1)) ((cNx c) - 1)))) := hD
      refine W.eq (g2 := F0 m 53 ls []) rfl ?_
      exact wk_mvret' hx hb hr hlocks dX3_recall_53 hP hS (congrArg (WX G a) (show sRec c = setM (setNK c ((cNx c) - 1) (cKn c - 1)) (cRi (setNK c ((cNx c) - 1) (cKn c - 1)) ((cNx c) - 1)) from by simp only [sRec, pNx]; rw [if_neg (by omega), if_neg (by omega)]; rfl))
    · have c13 := nI_z (by omega) c13
      refine lv_bipush (v := 9) hx hb dX3_recall_16 (by decide) ?_
      refine lv_goto (tgt := 27) hx hb dX3_recall_18 (by decide) ?_
      refine va_put (D := G.1) (v := .int 9) (ty := .int) hx hb hts hin3 tyX3 tyX3_ok nmX3 hown hK hP hD hS 14 rfl rfl 1 (by decide) hf17 (fun _ h => h) rfl (by decide +kernel) rfl rfl (Nat.le_of_ble_eq_true rfl) dX3_recall_27 (fun H locs hP hD hS => ?_)
      refine lv_aload_n hx hb dX3_recall_30 rfl (lv_at hl 0 rfl) ?_
      refine lv_dup hx hb dX3_recall_31 rfl ?_
      refine va_get (D := G.1) (v := .int (nI (cKn c))) hx hb hts hin3 hown hK hP 14 rfl rfl 2 (by decide) hf21 (fun _ h => h) rfl dX3_recall_32 ?_
      refine lv_iconst (v := 1) hx hb dX3_recall_35 (by decide) ?_
      refine wk_isub (x := (cKn c)) (y := 1) hx hb (by omega) dX3_recall_36 ?_
      refine va_put (D := G.1) (v := .int (nI ((cKn c) - 1))) (ty := .int) hx hb hts hin3 tyX3 tyX3_ok nmX3 hown hK hP hD hS 14 rfl rfl 2 (by decide) hf21 (fun _ h => h) rfl (by decide +kernel) rfl rfl (Nat.le_of_ble_eq_true rfl) dX3_recall_37 (fun H locs hP hD hS => ?_)
      have hP : va_P G.1 vwCl (WX G a (setNK c 9 (cKn c - 1))) H := hP
      have hD : va_D A (WX G a (setNK c 9 (cKn c - 1))) := hD
      refine lv_aload_n hx hb dX3_recall_40 rfl (lv_at hl 1 rfl) ?_
      refine lv_aload_n hx hb dX3_recall_41 rfl (lv_at hl 0 rfl) ?_
      refine va_get (D := G.1) (v := .ref (a 22)) hx hb hts hin3 hown hK hP 14 rfl rfl 0 (by decide) hf11 (fun _ h => h) rfl dX3_recall_42 ?_
      refine lv_aload_n hx hb dX3_recall_45 rfl (lv_at hl 0 rfl) ?_
      refine va_get (D := G.1) (v := .int (nI 9)) hx hb hts hin3 hown hK hP 14 rfl rfl 1 (by decide) hf17 (fun _ h => h) rfl dX3_recall_46 ?_
      refine wk_aald (i := 9) (b := a (23 + 3 * 9)) hx hb hK hP 22 3 rfl rfl (by omega) (Nat.le_of_ble_eq_true rfl) rfl dX3_recall_49 ?_
      refine wk_call (va_runV (As := [.ref (a (23 + 3 * 9))]) (rest := []) ⟨hx, hb, hml, hown, hts⟩ (c_X2_copyFrom l G (twoM a 6 (23 + 3 * 9)) (cM (setNK c 9 (cKn c - 1))) (cRi (setNK c 9 (cKn c - 1)) 9) H.size) (cwV 1 hts gX3_recall_X2_copyFrom rfl rfl rfl hdV_X2_copyFrom ⟨Nat.le_of_ble_eq_true rfl, Nat.le_of_ble_eq_true rfl⟩) ((PreM.of hP hK hN hD [6, 7, 8, 23 + 3 * 9, 24 + 3 * 9, 25 + 3 * 9] (ring_nd2 (show 9 < 10 by omega)) (ring_get2 G a (setNK c 9 (cKn c - 1)) (show 9 < 10 by omega))).pre (ci := 2) (q0 := 0) rfl rfl) rfl rfl hl.1 rfl (lv_room (Nat.le_of_ble_eq_true rfl)) dX3_recall_50 ⟨hrc, hrs⟩) hP hD hS hA [6, 7, 8, 23 + 3 * 9, 24 + 3 * 9, 25 + 3 * 9] (ring_get2 G a (setNK c 9 (cKn c - 1)) (show 9 < 10 by omega)) rfl (fun H locs hP hD hS => ?_)
      rw [ring_set2 G a (setNK c 9 (cKn c - 1)) (show 9 < 10 by omega)] at hP hD
      have hP : va_P G.1 vwCl (WX G a (setM (setNK c 9 (cKn c - 1)) (cRi (setNK c 9 (cKn c - 1)) 9))) H := hP
      have hD : va_D A (WX G a (setM (setNK c 9 (cKn c - 1)) (cRi (setNK c 9 (cKn c - 1)) 9))) := hD
      refine W.eq (g2 := F0 m 53 ls []) rfl ?_
      exact wk_mvret' hx hb hr hlocks dX3_recall_53 hP hS (congrArg (WX G a) (show sRec c = setM (setNK c 9 (cKn c - 1)) (cRi (setNK c 9 (cKn c - 1)) 9) from by simp only [sRec, pNx]; rw [if_neg (by omega), if_pos (by omega)]; rfl))
  · have c4 := nI_z (by omega) c4
    exact wk_mvret' hx hb hr hlocks dX3_recall_7 hP hS (congrArg (WX G a) (show sRec c = c from by simp only [sRec]; rw [if_pos c4]))
theorem hdS_X5_isDigit : yX5_isDigit.cls ≠ "java/lang/invoke/MethodHandle" ∧ yX5_isDigit.cls ≠ "java/lang/invoke/VarHandle" ∧ (parseMethodDescriptor yX5_isDigit.desc).map (fun d => d.parameters.length) = some 1 := by decide +kernel
set_option maxHeartbeats 4000000 in
set_option maxRecDepth 100000 in
theorem c_X5_isDigit (l : Launch) (x : Int32) : Met l yX5_isDigit wsX5_isDigit ({ frames := 0, cells := 0, slots := 0, locals := 0 }) (fun v _ => v = ([.int x] : List Value).toArray) (QcRead (b2i (isDig x))) 0 0 (fun _ => False) := by
  refine Met.ofW (cc := cX5_isDigit) (maxL := 1) (ret := (some .boolean)) (by decide) rfl ?_
  intro p e s m args below meth cd s₁ BB hml hv
  subst hv
  have hx := BB.exec
  have hb := BB.bytes
  have hr := BB.returns
  have hts := atoms_spec (ws := wsX5_isDigit) BB.pre
  have hown : s.vm.findClass RX5 = some m.cls := findClass_of_methodNamed BB.named
  have hlocks := BB.notSynchronized
  have hrc : 0 + 0 ≤ (headSpec wsX5_isDigit ({ frames := 0, cells := 0, slots := 0, locals := 0 })).room.cells := Nat.le_refl _
  have hrs : 0 + 0 ≤ (headSpec wsX5_isDigit ({ frames := 0, cells := 0, slots := 0, locals := 0 })).room.slots := Nat.le_refl _
  refine wk_enter (n := 1) (Nat.le_of_ble_eq_true rfl) (fun ls hl => ?_)
  have hl : lv_has ls 1 [(0, .int x)] := hl
  refine lv_iload_n hx hb dX5_isDigit_0 rfl (lv_at hl 0 rfl) ?_
  refine lv_bipush (v := 48) hx hb dX5_isDigit_1 (by decide) ?_
  refine lv_icmp_lt (tgt := 16) hx hb dX5_isDigit_3 (by decide) (fun c3 => ?_) (fun c3 => ?_)
  · refine lv_iconst (v := 0) hx hb dX5_isDigit_16 (by decide) ?_
    exact wk_zret hx hb hr hlocks dX5_isDigit_17 (by rfl) (by simp only [b2i, isDig]; simp [Int32.not_le.mpr c3])
  · refine lv_iload_n hx hb dX5_isDigit_6 rfl (lv_at hl 0 rfl) ?_
    refine lv_bipush (v := 57) hx hb dX5_isDigit_7 (by decide) ?_
    refine lv_icmp_gt (tgt := 16) hx hb dX5_isDigit_9 (by decide) (fun c9 => ?_) (fun c9 => ?_)
    · refine lv_iconst (v := 0) hx hb dX5_isDigit_16 (by decide) ?_
      exact wk_zret hx hb hr hlocks dX5_isDigit_17 (by rfl) (by simp only [b2i, isDig]; simp [Int32.not_le.mpr c9])
    · refine lv_iconst (v := 1) hx hb dX5_isDigit_12 (by decide) ?_
      refine lv_goto (tgt := 17) hx hb dX5_isDigit_13 (by decide) ?_
      exact wk_zret hx hb hr hlocks dX5_isDigit_17 (by rfl) (by simp only [b2i, isDig]; simp [Int32.not_lt.mp c3, Int32.not_lt.mp c9])
theorem hdV_X0_beginAnew : yX0_beginAnew.cls = RX0 ∧ yX0_beginAnew.cls ≠ "java/lang/invoke/MethodHandle" ∧ yX0_beginAnew.cls ≠ "java/lang/invoke/VarHandle" ∧ (parseMethodDescriptor yX0_beginAnew.desc).map (fun d => d.parameters.length) = some 0 := by decide +kernel
set_option maxHeartbeats 4000000 in
set_option maxRecDepth 100000 in
theorem c_X0_beginAnew (l : Launch) (G : GG) (a : Nat → Nat) (tx : Ar) (c : DS) (sz : Nat) : Met l yX0_beginAnew wsX0_beginAnew ({ frames := 0, cells := 0, slots := 0, locals := 0 }) (va_Pc [.ref (a 16)] (fun U => PreM G (WDs G a tx c) sz U U.heap)) (Qm G.1 vwCl (none) (WDs G a tx (newT c.1, c.2)) (va_A (WDs G a tx c) sz)) 0 0 (va_A (WDs G a tx c) sz) := by
  refine Met.ofW (cc := cX0_beginAnew) (maxL := 1) (ret := none) (by decide) rfl ?_
  intro p e s m args below meth cd s₁ BB hml hv
  obtain ⟨rfl, ⟨hP, hK, hN⟩, hD0, hsz⟩ := hv
  have hx := BB.exec
  have hb := BB.bytes
  have hr := BB.returns
  have hts := atoms_spec (ws := wsX0_beginAnew) BB.pre
  have hown : s.vm.findClass RX0 = some m.cls := findClass_of_methodNamed BB.named
  have hlocks := BB.notSynchronized
  have hrc : 0 + 0 ≤ (headSpec wsX0_beginAnew ({ frames := 0, cells := 0, slots := 0, locals := 0 })).room.cells := Nat.le_refl _
  have hrs : 0 + 0 ≤ (headSpec wsX0_beginAnew ({ frames := 0, cells := 0, slots := 0, locals := 0 })).room.slots := Nat.le_refl _
  subst hsz
  have hD := hD0.self (sz := s.heap.size)
  generalize hAe : va_A (WDs G a tx c) s.heap.size = A at hD ⊢
  have hA : ∀ q : Nat, s.heap.size ≤ q → A q := fun q h => by rw [← hAe]; exact Or.inr h
  have hS : va_S A s.heap s.heap [] := va_S.rf
  have hin0 : ∀ w ∈ u_ws RX0 TX0 7, w ∈ wsX0_beginAnew := by decide +kernel
  have hf9 := hts (.fieldLink RX0 9 "RegaliaVotes$Council" "things" "I") (by decide +kernel)
  have hf15 := hts (.fieldLink RX0 15 "RegaliaVotes$Council" "officers" "I") (by decide +kernel)
  have hf18 := hts (.fieldLink RX0 18 "RegaliaVotes$Council" "warmth" "I") (by decide +kernel)
  refine wk_enter (n := 1) (Nat.le_of_ble_eq_true rfl) (fun ls hl => ?_)
  have hl : lv_has ls 1 [(0, .ref (a 16))] := hl
  refine lv_aload_n hx hb dX0_beginAnew_0 rfl (lv_at hl 0 rfl) ?_
  refine lv_iconst (v := 0) hx hb dX0_beginAnew_1 (by decide) ?_
  refine va_put (D := G.1) (v := .int 0) (ty := .int) hx hb hts hin0 tyX0 tyX0_ok nmX0 hown hK hP hD hS 2 rfl rfl 0 (by decide) hf9 (fun _ h => h) rfl (by decide +kernel) rfl rfl (Nat.le_of_ble_eq_true rfl) dX0_beginAnew_2 (fun H locs hP hD hS => ?_)
  refine lv_aload_n hx hb dX0_beginAnew_5 rfl (lv_at hl 0 rfl) ?_
  refine lv_iconst (v := 3) hx hb dX0_beginAnew_6 (by decide) ?_
  refine va_put (D := G.1) (v := .int 3) (ty := .int) hx hb hts hin0 tyX0 tyX0_ok nmX0 hown hK hP hD hS 2 rfl rfl 1 (by decide) hf15 (fun _ h => h) rfl (by decide +kernel) rfl rfl (Nat.le_of_ble_eq_true rfl) dX0_beginAnew_7 (fun H locs hP hD hS => ?_)
  refine lv_aload_n hx hb dX0_beginAnew_10 rfl (lv_at hl 0 rfl) ?_
  refine lv_iconst (v := 2) hx hb dX0_beginAnew_11 (by decide) ?_
  refine va_put (D := G.1) (v := .int 2) (ty := .int) hx hb hts hin0 tyX0 tyX0_ok nmX0 hown hK hP hD hS 2 rfl rfl 2 (by decide) hf18 (fun _ h => h) rfl (by decide +kernel) rfl rfl (Nat.le_of_ble_eq_true rfl) dX0_beginAnew_12 (fun H locs hP hD hS => ?_)
  exact wk_mvret' hx hb hr hlocks dX0_beginAnew_15 hP hS (rfl)
theorem hdV_X0_addThing : yX0_addThing.cls = RX0 ∧ yX0_addThing.cls ≠ "java/lang/invoke/MethodHandle" ∧ yX0_addThing.cls ≠ "java/lang/invoke/VarHandle" ∧ (parseMethodDescriptor yX0_addThing.desc).map (fun d => d.parameters.length) = some 4 := by decide +kernel
set_option maxHeartbeats 4000000 in
set_option maxRecDepth 100000 in
theorem c_X0_addThing (l : Launch) (G : GG) (a : Nat → Nat) (tx : Ar) (c : DS) (hc : OkD c) (sn : Nat) (vn : Nat) (bn : Nat) (hn : Nat) (sz : Nat) : Met l yX0_addThing wsX0_addThing ({ frames := 0, cells := 0, slots := 0, locals := 0 }) (va_Pc [.ref (a 16), .int (nI sn), .int (nI vn), .int (nI bn), .int (nI hn)] (fun U => PreM G (WDs G a tx c) sz U U.heap)) (Qm G.1 vwCl (none) (WDs G a tx (addT c.1 sn vn bn hn, c.2)) (va_A (WDs G a tx c) sz)) 0 0 (va_A (WDs G a tx c) sz) := by
  refine Met.ofW (cc := cX0_addThing) (maxL := 5) (ret := none) (by decide) rfl ?_
  intro p e s m args below meth cd s₁ BB hml hv
  obtain ⟨rfl, ⟨hP, hK, hN⟩, hD0, hsz⟩ := hv
  have hx := BB.exec
  have hb := BB.bytes
  have hr := BB.returns
  have hts := atoms_spec (ws := wsX0_addThing) BB.pre
  have hown : s.vm.findClass RX0 = some m.cls := findClass_of_methodNamed BB.named
  have hlocks := BB.notSynchronized
  have hrc : 0 + 0 ≤ (headSpec wsX0_addThing ({ frames := 0, cells := 0, slots := 0, locals := 0 })).room.cells := Nat.le_refl _
  have hrs : 0 + 0 ≤ (headSpec wsX0_addThing ({ frames := 0, cells := 0, slots := 0, locals := 0 })).room.slots := Nat.le_refl _
  subst hsz
  have hD := hD0.self (sz := s.heap.size)
  generalize hAe : va_A (WDs G a tx c) s.heap.size = A at hD ⊢
  have hA : ∀ q : Nat, s.heap.size ≤ q → A q := fun q h => by rw [← hAe]; exact Or.inr h
  have hS : va_S A s.heap s.heap [] := va_S.rf
  obtain ⟨hk7, ho1, ho5, hl200, hpl, htp, hnu⟩ := id hc
  have hin0 : ∀ w ∈ u_ws RX0 TX0 7, w ∈ wsX0_addThing := by decide +kernel
  have hf9 := hts (.fieldLink RX0 9 "RegaliaVotes$Council" "things" "I") (by decide +kernel)
  have hf21 := hts (.fieldLink RX0 21 "RegaliaVotes$Council" "sort" "[I") (by decide +kernel)
  have hf25 := hts (.fieldLink RX0 25 "RegaliaVotes$Council" "votes" "[I") (by decide +kernel)
  have hf28 := hts (.fieldLink RX0 28 "RegaliaVotes$Council" "forBills" "[I") (by decide +kernel)
  have hf31 := hts (.fieldLink RX0 31 "RegaliaVotes$Council" "firstHolder" "[I") (by decide +kernel)
  refine wk_enter (n := 5) (Nat.le_of_ble_eq_true rfl) (fun ls hl => ?_)
  have hl : lv_has ls 5 [(0, .ref (a 16)), (1, .int (nI sn)), (2, .int (nI vn)), (3, .int (nI bn)), (4, .int (nI hn))] := hl
  refine lv_aload_n hx hb dX0_addThing_0 rfl (lv_at hl 0 rfl) ?_
  refine va_get (D := G.1) (v := .int (nI (kT c.1))) hx hb hts hin0 hown hK hP 2 rfl rfl 0 (by decide) hf9 (fun _ h => h) rfl dX0_addThing_1 ?_
  refine lv_bipush (v := 7) hx hb dX0_addThing_4 (by decide) ?_
  refine wk_lt (x := (kT c.1)) (y := 7) (tgt := 10) hx hb (by omega) (by omega) dX0_addThing_6 (by decide) (fun c6 => ?_) (fun c6 => ?_)
  · refine lv_aload_n hx hb dX0_addThing_10 rfl (lv_at hl 0 rfl) ?_
    refine va_get (D := G.1) (v := .ref (a 17)) hx hb hts hin0 hown hK hP 2 rfl rfl 3 (by decide) hf21 (fun _ h => h) rfl dX0_addThing_11 ?_
    refine lv_aload_n hx hb dX0_addThing_14 rfl (lv_at hl 0 rfl) ?_
    refine va_get (D := G.1) (v := .int (nI (kT c.1))) hx hb hts hin0 hown hK hP 2 rfl rfl 0 (by decide) hf9 (fun _ h => h) rfl dX0_addThing_15 ?_
    refine lv_iload_n hx hb dX0_addThing_18 rfl (lv_at hl 1 rfl) ?_
    refine wk_iast (i := (kT c.1)) hx hb hK hP hD hS 3 1 rfl rfl (by omega) (Nat.le_of_ble_eq_true rfl) dX0_addThing_19 (fun H locs hP hD hS => ?_)
    refine lv_aload_n hx hb dX0_addThing_20 rfl (lv_at hl 0 rfl) ?_
    refine va_get (D := G.1) (v := .ref (a 18)) hx hb hts hin0 hown hK hP 2 rfl rfl 4 (by decide) hf25 (fun _ h => h) rfl dX0_addThing_21 ?_
    refine lv_aload_n hx hb dX0_addThing_24 rfl (lv_at hl 0 rfl) ?_
    refine va_get (D := G.1) (v := .int (nI (kT c.1))) hx hb hts hin0 hown hK hP 2 rfl rfl 0 (by decide) hf9 (fun _ h => h) rfl dX0_addThing_25 ?_
    refine lv_iload_n hx hb dX0_addThing_28 rfl (lv_at hl 2 rfl) ?_
    refine wk_iast (i := (kT c.1)) hx hb hK hP hD hS 4 1 rfl rfl (by omega) (Nat.le_of_ble_eq_true rfl) dX0_addThing_29 (fun H locs hP hD hS => ?_)
    refine lv_aload_n hx hb dX0_addThing_30 rfl (lv_at hl 0 rfl) ?_
    refine va_get (D := G.1) (v := .ref (a 19)) hx hb hts hin0 hown hK hP 2 rfl rfl 5 (by decide) hf28 (fun _ h => h) rfl dX0_addThing_31 ?_
    refine lv_aload_n hx hb dX0_addThing_34 rfl (lv_at hl 0 rfl) ?_
    refine va_get (D := G.1) (v := .int (nI (kT c.1))) hx hb hts hin0 hown hK hP 2 rfl rfl 0 (by decide) hf9 (fun _ h => h) rfl dX0_addThing_35 ?_
    refine lv_iload_n hx hb dX0_addThing_38 rfl (lv_at hl 3 rfl) ?_
    refine wk_iast (i := (kT c.1)) hx hb hK hP hD hS 5 1 rfl rfl (by omega) (Nat.le_of_ble_eq_true rfl) dX0_addThing_39 (fun H locs hP hD hS => ?_)
    refine lv_aload_n hx hb dX0_addThing_40 rfl (lv_at hl 0 rfl) ?_
    refine va_get (D := G.1) (v := .ref (a 20)) hx hb hts hin0 hown hK hP 2 rfl rfl 6 (by decide) hf31 (fun _ h => h) rfl dX0_addThing_41 ?_
    refine lv_aload_n hx hb dX0_addThing_44 rfl (lv_at hl 0 rfl) ?_
    refine va_get (D := G.1) (v := .int (nI (kT c.1))) hx hb hts hin0 hown hK hP 2 rfl rfl 0 (by decide) hf9 (fun _ h => h) rfl dX0_addThing_45 ?_
    refine lv_iload hx hb dX0_addThing_48 (lv_at hl 4 rfl) ?_
    refine wk_iast (i := (kT c.1)) hx hb hK hP hD hS 6 1 rfl rfl (by omega) (Nat.le_of_ble_eq_true rfl) dX0_addThing_50 (fun H locs hP hD hS => ?_)
    refine lv_aload_n hx hb dX0_addThing_51 rfl (lv_at hl 0 rfl) ?_
    refine lv_dup hx hb dX0_addThing_52 rfl ?_
    refine va_get (D := G.1) (v := .int (nI (kT c.1))) hx hb hts hin0 hown hK hP 2 rfl rfl 0 (by decide) hf9 (fun _ h => h) rfl dX0_addThing_53 ?_
    refine lv_iconst (v := 1) hx hb dX0_addThing_56 (by decide) ?_
    refine wk_iadd (x := (kT c.1)) (y := 1) hx hb dX0_addThing_57 ?_
    refine va_put (D := G.1) (v := .int (nI ((kT c.1) + 1))) (ty := .int) hx hb hts hin0 tyX0 tyX0_ok nmX0 hown hK hP hD hS 2 rfl rfl 0 (by decide) hf9 (fun _ h => h) rfl (by decide +kernel) rfl rfl (Nat.le_of_ble_eq_true rfl) dX0_addThing_58 (fun H locs hP hD hS => ?_)
    exact wk_mvret' hx hb hr hlocks dX0_addThing_61 hP hS (congrArg (WDs G a tx) (show (addT c.1 sn vn bn hn, c.2) = ((kT c.1 + 1, kO c.1, kW c.1, upd (kS c.1) (kT c.1) (nI sn), upd (kV c.1) (kT c.1) (nI vn), upd (kB c.1) (kT c.1) (nI bn), upd (kF c.1) (kT c.1) (nI hn)), c.2) from by simp only [addT]; rw [if_pos c6]))
  · exact wk_mvret' hx hb hr hlocks dX0_addThing_9 hP hS (congrArg (WDs G a tx) (show (addT c.1 sn vn bn hn, c.2) = c from by simp only [addT]; rw [if_neg (by omega)]))
theorem hdV_X5_markFault : yX5_markFault.cls = RX5 ∧ yX5_markFault.cls ≠ "java/lang/invoke/MethodHandle" ∧ yX5_markFault.cls ≠ "java/lang/invoke/VarHandle" ∧ (parseMethodDescriptor yX5_markFault.desc).map (fun d => d.parameters.length) = some 0 := by decide +kernel
set_option maxHeartbeats 4000000 in
set_option maxRecDepth 100000 in
theorem c_X5_markFault (l : Launch) (G : GG) (a : Nat → Nat) (tx : Ar) (c : DS) (sz : Nat) : Met l yX5_markFault wsX5_markFault ({ frames := 0, cells := 0, slots := 0, locals := 0 }) (va_Pc [.ref (a 21)] (fun U => PreM G (WDs G a tx c) sz U U.heap)) (Qm G.1 vwCl (none) (WDs G a tx (c.1, mkF c.2)) (va_A (WDs G a tx c) sz)) 0 0 (va_A (WDs G a tx c) sz) := by
  refine Met.ofW (cc := cX5_markFault) (maxL := 1) (ret := none) (by decide) rfl ?_
  intro p e s m args below meth cd s₁ BB hml hv
  obtain ⟨rfl, ⟨hP, hK, hN⟩, hD0, hsz⟩ := hv
  have hx := BB.exec
  have hb := BB.bytes
  have hr := BB.returns
  have hts := atoms_spec (ws := wsX5_markFault) BB.pre
  have hown : s.vm.findClass RX5 = some m.cls := findClass_of_methodNamed BB.named
  have hlocks := BB.notSynchronized
  have hrc : 0 + 0 ≤ (headSpec wsX5_markFault ({ frames := 0, cells := 0, slots := 0, locals := 0 })).room.cells := Nat.le_refl _
  have hrs : 0 + 0 ≤ (headSpec wsX5_markFault ({ frames := 0, cells := 0, slots := 0, locals := 0 })).room.slots := Nat.le_refl _
  subst hsz
  have hD := hD0.self (sz := s.heap.size)
  generalize hAe : va_A (WDs G a tx c) s.heap.size = A at hD ⊢
  have hA : ∀ q : Nat, s.heap.size ≤ q → A q := fun q h => by rw [← hAe]; exact Or.inr h
  have hS : va_S A s.heap s.heap [] := va_S.rf
  have hin5 : ∀ w ∈ u_ws RX5 TX5 9, w ∈ wsX5_markFault := by decide +kernel
  have hf21 := hts (.fieldLink RX5 21 "RegaliaVotes$Reader" "tokenPlace" "I") (by decide +kernel)
  have hf27 := hts (.fieldLink RX5 27 "RegaliaVotes$Reader" "fault" "I") (by decide +kernel)
  refine wk_enter (n := 1) (Nat.le_of_ble_eq_true rfl) (fun ls hl => ?_)
  have hl : lv_has ls 1 [(0, .ref (a 21))] := hl
  refine lv_aload_n hx hb dX5_markFault_0 rfl (lv_at hl 0 rfl) ?_
  refine va_get (D := G.1) (v := .int (rFa c.2)) hx hb hts hin5 hown hK hP 0 rfl rfl 7 (by decide) hf27 (fun _ h => h) rfl dX5_markFault_1 ?_
  refine lv_iconst (v := -1) hx hb dX5_markFault_4 (by decide) ?_
  refine lv_icmp_ne (tgt := 16) hx hb dX5_markFault_5 (by decide) (fun c5 => ?_) (fun c5 => ?_)
  · exact wk_mvret' hx hb hr hlocks dX5_markFault_16 hP hS (congrArg (WDs G a tx) (show (c.1, mkF c.2) = c from by simp only [mkF]; rw [if_neg c5]))
  · refine lv_aload_n hx hb dX5_markFault_8 rfl (lv_at hl 0 rfl) ?_
    refine lv_aload_n hx hb dX5_markFault_9 rfl (lv_at hl 0 rfl) ?_
    refine va_get (D := G.1) (v := .int (nI (rTP c.2))) hx hb hts hin5 hown hK hP 0 rfl rfl 5 (by decide) hf21 (fun _ h => h) rfl dX5_markFault_10 ?_
    refine va_put (D := G.1) (v := .int (nI (rTP c.2))) (ty := .int) hx hb hts hin5 tyX5 tyX5_ok nmX5 hown hK hP hD hS 0 rfl rfl 7 (by decide) hf27 (fun _ h => h) rfl (by decide +kernel) rfl rfl (Nat.le_of_ble_eq_true rfl) dX5_markFault_13 (fun H locs hP hD hS => ?_)
    exact wk_mvret' hx hb hr hlocks dX5_markFault_16 hP hS (congrArg (WDs G a tx) (show (c.1, mkF c.2) = (c.1, (rLen c.2, rPl c.2, rTok c.2, rTP c.2, rNum c.2, nI (rTP c.2), rWa c.2)) from by simp only [mkF]; rw [if_pos c5]))
theorem hdV_X5_takeDigits : yX5_takeDigits.cls = RX5 ∧ yX5_takeDigits.cls ≠ "java/lang/invoke/MethodHandle" ∧ yX5_takeDigits.cls ≠ "java/lang/invoke/VarHandle" ∧ (parseMethodDescriptor yX5_takeDigits.desc).map (fun d => d.parameters.length) = some 0 := by decide +kernel
set_option maxHeartbeats 4000000 in
set_option maxRecDepth 100000 in
theorem c_X5_takeDigits (l : Launch) (G : GG) (a : Nat → Nat) (tx : Ar) (c : DS) (hl200 : rLen c.2 ≤ 200) (htp : rTP c.2 ≤ rPl c.2) (hlt : rPl c.2 < rLen c.2) (sz : Nat) : Met l yX5_takeDigits wsX5_takeDigits ({ frames := 1, cells := 0, slots := 0, locals := 21 }) (va_Pc [.ref (a 21)] (fun U => PreM G (WDs G a tx c) sz U U.heap)) (Qm G.1 vwCl (none) (WDs G a tx (c.1, tkD tx c.2)) (va_A (WDs G a tx c) sz)) 0 0 (va_A (WDs G a tx c) sz) := by
  refine Met.ofW (cc := cX5_takeDigits) (maxL := 3) (ret := none) (by decide) rfl ?_
  intro p e s m args below meth cd s₁ BB hml hv
  obtain ⟨rfl, ⟨hP, hK, hN⟩, hD0, hsz⟩ := hv
  have hx := BB.exec
  have hb := BB.bytes
  have hr := BB.returns
  have hts := atoms_spec (ws := wsX5_takeDigits) BB.pre
  have hown : s.vm.findClass RX5 = some m.cls := findClass_of_methodNamed BB.named
  have hlocks := BB.notSynchronized
  have hrc : 0 + 0 ≤ (headSpec wsX5_takeDigits ({ frames := 1, cells := 0, slots := 0, locals := 21 })).room.cells := Nat.le_refl _
  have hrs : 0 + 0 ≤ (headSpec wsX5_takeDigits ({ frames := 1, cells := 0, slots := 0, locals := 21 })).room.slots := Nat.le_refl _
  subst hsz
  have hD := hD0.self (sz := s.heap.size)
  generalize hAe : va_A (WDs G a tx c) s.heap.size = A at hD ⊢
  have hA : ∀ q : Nat, s.heap.size ≤ q → A q := fun q h => by rw [← hAe]; exact Or.inr h
  have hS : va_S A s.heap s.heap [] := va_S.rf
  have hin5 : ∀ w ∈ u_ws RX5 TX5 9, w ∈ wsX5_takeDigits := by decide +kernel
  have hf9 := hts (.fieldLink RX5 9 "RegaliaVotes$Reader" "length" "I") (by decide +kernel)
  have hf15 := hts (.fieldLink RX5 15 "RegaliaVotes$Reader" "place" "I") (by decide +kernel)
  have hf18 := hts (.fieldLink RX5 18 "RegaliaVotes$Reader" "token" "I") (by decide +kernel)
  have hf21 := hts (.fieldLink RX5 21 "RegaliaVotes$Reader" "tokenPlace" "I") (by decide +kernel)
  have hf24 := hts (.fieldLink RX5 24 "RegaliaVotes$Reader" "number" "I") (by decide +kernel)
  have hf34 := hts (.fieldLink RX5 34 "RegaliaVotes$Reader" "text" "[C") (by decide +kernel)
  refine wk_enter (n := 3) (Nat.le_of_ble_eq_true rfl) (fun ls hl => ?_)
  have hl : lv_has ls 3 [(0, .ref (a 21))] := hl
  refine lv_aload_n hx hb dX5_takeDigits_0 rfl (lv_at hl 0 rfl) ?_
  refine va_get (D := G.1) (v := .ref (a 15)) hx hb hts hin5 hown hK hP 0 rfl rfl 0 (by decide) hf34 (fun _ h => h) rfl dX5_takeDigits_1 ?_
  refine lv_aload_n hx hb dX5_takeDigits_4 rfl (lv_at hl 0 rfl) ?_
  refine va_get (D := G.1) (v := .int (nI (rPl c.2))) hx hb hts hin5 hown hK hP 0 rfl rfl 3 (by decide) hf15 (fun _ h => h) rfl dX5_takeDigits_5 ?_
  refine wk_cald (i := (rPl c.2)) hx hb hK hP 1 0 rfl rfl (by omega) (Nat.le_of_ble_eq_true rfl) dX5_takeDigits_8 ?_
  refine lv_bipush (v := 48) hx hb dX5_takeDigits_9 (by decide) ?_
  refine lv_icmp_ne (tgt := 18) hx hb dX5_takeDigits_11 (by decide) (fun c11 => ?_) (fun c11 => ?_)
  · refine lv_iconst (v := 0) hx hb dX5_takeDigits_18 (by decide) ?_
    refine lv_istore_n (lv' := [(1, .int 0), (0, .ref (a 21))]) hx hb dX5_takeDigits_19 rfl hl (by decide) rfl (fun ls hl => ?_)
    refine lv_aload_n hx hb dX5_takeDigits_20 rfl (lv_at hl 1 rfl) ?_
    refine lv_iconst (v := 0) hx hb dX5_takeDigits_21 (by decide) ?_
    refine va_put (D := G.1) (v := .int 0) (ty := .int) hx hb hts hin5 tyX5 tyX5_ok nmX5 hown hK hP hD hS 0 rfl rfl 6 (by decide) hf24 (fun _ h => h) rfl (by decide +kernel) rfl rfl (Nat.le_of_ble_eq_true rfl) dX5_takeDigits_22 (fun H locs hP hD hS => ?_)
    refine wk_loopM (σ := Nat × Nat) (nL := 3) (fun xσ n => match xσ with | (q, w) => dgF tx (rLen c.2) n q w = dgB tx (rLen c.2) (rPl c.2) ∧ q + n = rLen c.2 ∧ w ≤ 32 ∧ rPl c.2 ≤ q) (fun xσ => match xσ with | (q, w) => [(1, .int 0), (0, .ref (a 21))]) (fun xσ => match xσ with | (q, w) => WDs G a tx (c.1, pnR c.2 q w)) (rPl c.2, 0) (rLen c.2 - rPl c.2) (⟨rfl, by omega, by omega, by omega⟩) hl hP hD hS ?_
    rintro n25 ⟨q, w⟩ ls H locs hI25 hl hP hD hS ih25
    have hl : lv_has ls 3 [(1, .int 0), (0, .ref (a 21))] := hl
    have hP : va_P G.1 vwCl (WDs G a tx (c.1, pnR c.2 q w)) H := hP
    have hD : va_D A (WDs G a tx (c.1, pnR c.2 q w)) := hD
    obtain ⟨hd, hq, hm, hq2⟩ := hI25
    refine lv_aload_n hx hb dX5_takeDigits_25 rfl (lv_at hl 1 rfl) ?_
    refine va_get (D := G.1) (v := .int (nI q)) hx hb hts hin5 hown hK hP 0 rfl rfl 3 (by decide) hf15 (fun _ h => h) rfl dX5_takeDigits_26 ?_
    refine lv_aload_n hx hb dX5_takeDigits_29 rfl (lv_at hl 1 rfl) ?_
    refine va_get (D := G.1) (v := .int (nI (rLen c.2))) hx hb hts hin5 hown hK hP 0 rfl rfl 2 (by decide) hf9 (fun _ h => h) rfl dX5_takeDigits_30 ?_
    refine wk_ge (x := q) (y := (rLen c.2)) (tgt := 93) hx hb (by omega) (by omega) dX5_takeDigits_33 (by decide) (fun c33 => ?_) (fun c33 => ?_)
    · refine lv_iload_n hx hb dX5_takeDigits_93 rfl (lv_at hl 0 rfl) ?_
      refine lv_if_eq (tgt := 114) hx hb dX5_takeDigits_94 (by decide) (fun c94 => ?_) (fun c94 => ?_)
      · refine lv_iconst (v := 0) hx hb dX5_takeDigits_114 (by decide) ?_
        refine lv_istore_n (lv' := [(2, .int 0), (1, .int 0), (0, .ref (a 21))]) hx hb dX5_takeDigits_115 rfl hl (by decide) rfl (fun ls hl => ?_)
        refine lv_aload_n hx hb dX5_takeDigits_116 rfl (lv_at hl 2 rfl) ?_
        refine lv_iload_n hx hb dX5_takeDigits_117 rfl (lv_at hl 0 rfl) ?_
        refine lv_if_ne (tgt := 130) hx hb dX5_takeDigits_118 (by decide) (fun c118 => ?_) (fun c118 => ?_)
        · exact absurd c118 (by decide)
        · refine lv_aload_n hx hb dX5_takeDigits_121 rfl (lv_at hl 2 rfl) ?_
          refine va_get (D := G.1) (v := .int (nI w)) hx hb hts hin5 hown hK hP 0 rfl rfl 6 (by decide) hf24 (fun _ h => h) rfl dX5_takeDigits_122 ?_
          refine lv_bipush (v := 31) hx hb dX5_takeDigits_125 (by decide) ?_
          refine wk_le (x := w) (y := 31) (tgt := 135) hx hb (by omega) (by omega) dX5_takeDigits_127 (by decide) (fun c127 => ?_) (fun c127 => ?_)
          · refine lv_bipush (v := -2) hx hb dX5_takeDigits_135 (by decide) ?_
            refine va_put (D := G.1) (v := .int (-2)) (ty := .int) hx hb hts hin5 tyX5 tyX5_ok nmX5 hown hK hP hD hS 0 rfl rfl 4 (by decide) hf18 (fun _ h => h) rfl (by decide +kernel) rfl rfl (Nat.le_of_ble_eq_true rfl) dX5_takeDigits_137 (fun H locs hP hD hS => ?_)
            exact wk_mvret' hx hb hr hlocks dX5_takeDigits_140 hP hS (congrArg (WDs G a tx) (show (c.1, tkD tx c.2) = (c.1, (rLen c.2, q, -2, rTP c.2, w, rFa c.2, rWa c.2)) from by simp only [tkD, ← hd]; rw [show dgF tx (rLen c.2) n25 q w = (q, w) from by cases n25 with | zero => rfl | succ k => rw [dgF, if_neg (by intro z; exact absurd z.1 (by omega))]]; simp only []; rw [if_neg (fun h => h.elim (fun h => by first | exact c11 h.1 | (have := h.2; omega)) (fun h => by omega))]))
          · refine lv_bipush (v := -3) hx hb dX5_takeDigits_130 (by decide) ?_
            refine lv_goto (tgt := 137) hx hb dX5_takeDigits_132 (by decide) ?_
            refine va_put (D := G.1) (v := .int (-3)) (ty := .int) hx hb hts hin5 tyX5 tyX5_ok nmX5 hown hK hP hD hS 0 rfl rfl 4 (by decide) hf18 (fun _ h => h) rfl (by decide +kernel) rfl rfl (Nat.le_of_ble_eq_true rfl) dX5_takeDigits_137 (fun H locs hP hD hS => ?_)
            exact wk_mvret' hx hb hr hlocks dX5_takeDigits_140 hP hS (congrArg (WDs G a tx) (show (c.1, tkD tx c.2) = (c.1, (rLen c.2, q, -3, rTP c.2, w, rFa c.2, rWa c.2)) from by simp only [tkD, ← hd]; rw [show dgF tx (rLen c.2) n25 q w = (q, w) from by cases n25 with | zero => rfl | succ k => rw [dgF, if_neg (by intro z; exact absurd z.1 (by omega))]]; simp only []; rw [if_pos (by first | exact Or.inr (by omega) | exact Or.inl ⟨c11, by omega⟩)]))
      · exact absurd c94 (by decide)
    · refine lv_aload_n hx hb dX5_takeDigits_36 rfl (lv_at hl 1 rfl) ?_
      refine va_get (D := G.1) (v := .ref (a 15)) hx hb hts hin5 hown hK hP 0 rfl rfl 0 (by decide) hf34 (fun _ h => h) rfl dX5_takeDigits_37 ?_
      refine lv_aload_n hx hb dX5_takeDigits_40 rfl (lv_at hl 1 rfl) ?_
      refine va_get (D := G.1) (v := .int (nI q)) hx hb hts hin5 hown hK hP 0 rfl rfl 3 (by decide) hf15 (fun _ h => h) rfl dX5_takeDigits_41 ?_
      refine wk_cald (i := q) hx hb hK hP 1 0 rfl rfl (by omega) (Nat.le_of_ble_eq_true rfl) dX5_takeDigits_44 ?_
      refine wk_read (va_runS (As := [.int (tx q)]) (rest := []) ⟨hx, hb, hml, hown, hts⟩ (c_X5_isDigit l (tx q)) (va_cwS 1 hts gX5_takeDigits_X5_isDigit rfl rfl rfl hdS_X5_isDigit ⟨Nat.le_of_ble_eq_true rfl, Nat.le_of_ble_eq_true rfl⟩) preEq rfl rfl hl.1 rfl (lv_room (Nat.le_of_ble_eq_true rfl)) dX5_takeDigits_45 ⟨hrc, hrs⟩) ?_
      refine lv_if_eq (tgt := 93) hx hb dX5_takeDigits_48 (by decide) (fun c48 => ?_) (fun c48 => ?_)
      · have c48 := b2i_f c48
        refine lv_iload_n hx hb dX5_takeDigits_93 rfl (lv_at hl 0 rfl) ?_
        refine lv_if_eq (tgt := 114) hx hb dX5_takeDigits_94 (by decide) (fun c94 => ?_) (fun c94 => ?_)
        · refine lv_iconst (v := 0) hx hb dX5_takeDigits_114 (by decide) ?_
          refine lv_istore_n (lv' := [(2, .int 0), (1, .int 0), (0, .ref (a 21))]) hx hb dX5_takeDigits_115 rfl hl (by decide) rfl (fun ls hl => ?_)
          refine lv_aload_n hx hb dX5_takeDigits_116 rfl (lv_at hl 2 rfl) ?_
          refine lv_iload_n hx hb dX5_takeDigits_117 rfl (lv_at hl 0 rfl) ?_
          refine lv_if_ne (tgt := 130) hx hb dX5_takeDigits_118 (by decide) (fun c118 => ?_) (fun c118 => ?_)
          · exact absurd c118 (by decide)
          · refine lv_aload_n hx hb dX5_takeDigits_121 rfl (lv_at hl 2 rfl) ?_
            refine va_get (D := G.1) (v := .int (nI w)) hx hb hts hin5 hown hK hP 0 rfl rfl 6 (by decide) hf24 (fun _ h => h) rfl dX5_takeDigits_122 ?_
            refine lv_bipush (v := 31) hx hb dX5_takeDigits_125 (by decide) ?_
            refine wk_le (x := w) (y := 31) (tgt := 135) hx hb (by omega) (by omega) dX5_takeDigits_127 (by decide) (fun c127 => ?_) (fun c127 => ?_)
            · refine lv_bipush (v := -2) hx hb dX5_takeDigits_135 (by decide) ?_
              refine va_put (D := G.1) (v := .int (-2)) (ty := .int) hx hb hts hin5 tyX5 tyX5_ok nmX5 hown hK hP hD hS 0 rfl rfl 4 (by decide) hf18 (fun _ h => h) rfl (by decide +kernel) rfl rfl (Nat.le_of_ble_eq_true rfl) dX5_takeDigits_137 (fun H locs hP hD hS => ?_)
              exact wk_mvret' hx hb hr hlocks dX5_takeDigits_140 hP hS (congrArg (WDs G a tx) (show (c.1, tkD tx c.2) = (c.1, (rLen c.2, q, -2, rTP c.2, w, rFa c.2, rWa c.2)) from by simp only [tkD, ← hd]; rw [show dgF tx (rLen c.2) n25 q w = (q, w) from by cases n25 with | zero => rfl | succ k => rw [dgF, if_neg (by rw [c48]; simp)]]; simp only []; rw [if_neg (fun h => h.elim (fun h => by first | exact c11 h.1 | (have := h.2; omega)) (fun h => by omega))]))
            · refine lv_bipush (v := -3) hx hb dX5_takeDigits_130 (by decide) ?_
              refine lv_goto (tgt := 137) hx hb dX5_takeDigits_132 (by decide) ?_
              refine va_put (D := G.1) (v := .int (-3)) (ty := .int) hx hb hts hin5 tyX5 tyX5_ok nmX5 hown hK hP hD hS 0 rfl rfl 4 (by decide) hf18 (fun _ h => h) rfl (by decide +kernel) rfl rfl (Nat.le_of_ble_eq_true rfl) dX5_takeDigits_137 (fun H locs hP hD hS => ?_)
              exact wk_mvret' hx hb hr hlocks dX5_takeDigits_140 hP hS (congrArg (WDs G a tx) (show (c.1, tkD tx c.2) = (c.1, (rLen c.2, q, -3, rTP c.2, w, rFa c.2, rWa c.2)) from by simp only [tkD, ← hd]; rw [show dgF tx (rLen c.2) n25 q w = (q, w) from by cases n25 with | zero => rfl | succ k => rw [dgF, if_neg (by rw [c48]; simp)]]; simp only []; rw [if_pos (by first | exact Or.inr (by omega) | exact Or.inl ⟨c11, by omega⟩)]))
        · exact absurd c94 (by decide)
      · have c48 := b2i_t c48
        have hdl := dg_lt c48
        refine lv_aload_n hx hb dX5_takeDigits_51 rfl (lv_at hl 1 rfl) ?_
        refine lv_aload_n hx hb dX5_takeDigits_52 rfl (lv_at hl 1 rfl) ?_
        refine va_get (D := G.1) (v := .int (nI w)) hx hb hts hin5 hown hK hP 0 rfl rfl 6 (by decide) hf24 (fun _ h => h) rfl dX5_takeDigits_53 ?_
        refine lv_bipush (v := 10) hx hb dX5_takeDigits_56 (by decide) ?_
        refine wk_imul (x := w) (y := 10) hx hb dX5_takeDigits_58 ?_
        refine lv_aload_n hx hb dX5_takeDigits_59 rfl (lv_at hl 1 rfl) ?_
        refine va_get (D := G.1) (v := .ref (a 15)) hx hb hts hin5 hown hK hP 0 rfl rfl 0 (by decide) hf34 (fun _ h => h) rfl dX5_takeDigits_60 ?_
        refine lv_aload_n hx hb dX5_takeDigits_63 rfl (lv_at hl 1 rfl) ?_
        refine va_get (D := G.1) (v := .int (nI q)) hx hb hts hin5 hown hK hP 0 rfl rfl 3 (by decide) hf15 (fun _ h => h) rfl dX5_takeDigits_64 ?_
        refine wk_cald (i := q) hx hb hK hP 1 0 rfl rfl (by omega) (Nat.le_of_ble_eq_true rfl) dX5_takeDigits_67 ?_
        refine lv_bipush (v := 48) hx hb dX5_takeDigits_68 (by decide) ?_
        refine lv_isub hx hb dX5_takeDigits_70 ?_
        rw [dg_eq c48]
        refine wk_iadd (x := (w * 10)) (y := (dg (tx q))) hx hb dX5_takeDigits_71 ?_
        refine lv_bipush (v := 32) hx hb dX5_takeDigits_72 (by decide) ?_
        refine va_mmin hx hb (hml.trans hl.1.symm) hown (hts (.methodLink RX5 64 Lib.Math.min.name) (by decide +kernel)) (hts (.static Lib.Math.min.name) (by decide +kernel)) (hts (.initialized "java/lang/Math") (by decide +kernel)) (hts (.code Lib.Math.min.name Lib.Math.min.code 2 (some .int)) (by decide +kernel)) (Nat.le_of_ble_eq_true rfl) (Nat.le_of_ble_eq_true rfl) (Nat.zero_le _) (Nat.zero_le _) dX5_takeDigits_74 ?_
        refine W.eq (congrArg (fun z => F0 m 77 ls (.int z :: [.ref (a 21)])) (min_n (x := ((w * 10) + (dg (tx q)))) (y := 32) (by omega) (by omega))) ?_
        refine va_put (D := G.1) (v := .int (nI (min ((w * 10) + (dg (tx q))) 32))) (ty := .int) hx hb hts hin5 tyX5 tyX5_ok nmX5 hown hK hP hD hS 0 rfl rfl 6 (by decide) hf24 (fun _ h => h) rfl (by decide +kernel) rfl rfl (Nat.le_of_ble_eq_true rfl) dX5_takeDigits_77 (fun H locs hP hD hS => ?_)
        refine lv_aload_n hx hb dX5_takeDigits_80 rfl (lv_at hl 1 rfl) ?_
        refine lv_dup hx hb dX5_takeDigits_81 rfl ?_
        refine va_get (D := G.1) (v := .int (nI q)) hx hb hts hin5 hown hK hP 0 rfl rfl 3 (by decide) hf15 (fun _ h => h) rfl dX5_takeDigits_82 ?_
        refine lv_iconst (v := 1) hx hb dX5_takeDigits_85 (by decide) ?_
        refine wk_iadd (x := q) (y := 1) hx hb dX5_takeDigits_86 ?_
        refine va_put (D := G.1) (v := .int (nI (q + 1))) (ty := .int) hx hb hts hin5 tyX5 tyX5_ok nmX5 hown hK hP hD hS 0 rfl rfl 3 (by decide) hf15 (fun _ h => h) rfl (by decide +kernel) rfl rfl (Nat.le_of_ble_eq_true rfl) dX5_takeDigits_87 (fun H locs hP hD hS => ?_)
        refine lv_goto (tgt := 25) hx hb dX5_takeDigits_90 (by decide) ?_
        obtain ⟨m25, rfl⟩ : ∃ k, n25 = k + 1 := ⟨n25 - 1, by omega⟩
        exact ih25 (q + 1, min (w * 10 + dg (tx q)) 32) m25 ls H _ (by omega) (⟨by rw [← hd, dgF, if_pos ⟨c33, c48⟩], by omega, by omega, by omega⟩) (lv_sub hl [0, 1] rfl) hP hD hS
  · refine lv_iconst (v := 1) hx hb dX5_takeDigits_14 (by decide) ?_
    refine lv_goto (tgt := 19) hx hb dX5_takeDigits_15 (by decide) ?_
    refine lv_istore_n (lv' := [(1, .int 1), (0, .ref (a 21))]) hx hb dX5_takeDigits_19 rfl hl (by decide) rfl (fun ls hl => ?_)
    refine lv_aload_n hx hb dX5_takeDigits_20 rfl (lv_at hl 1 rfl) ?_
    refine lv_iconst (v := 0) hx hb dX5_takeDigits_21 (by decide) ?_
    refine va_put (D := G.1) (v := .int 0) (ty := .int) hx hb hts hin5 tyX5 tyX5_ok nmX5 hown hK hP hD hS 0 rfl rfl 6 (by decide) hf24 (fun _ h => h) rfl (by decide +kernel) rfl rfl (Nat.le_of_ble_eq_true rfl) dX5_takeDigits_22 (fun H locs hP hD hS => ?_)
    refine wk_loopM (σ := Nat × Nat) (nL := 3) (fun xσ n => match xσ with | (q, w) => dgF tx (rLen c.2) n q w = dgB tx (rLen c.2) (rPl c.2) ∧ q + n = rLen c.2 ∧ w ≤ 32 ∧ rPl c.2 ≤ q) (fun xσ => match xσ with | (q, w) => [(1, .int 1), (0, .ref (a 21))]) (fun xσ => match xσ with | (q, w) => WDs G a tx (c.1, pnR c.2 q w)) (rPl c.2, 0) (rLen c.2 - rPl c.2) (⟨rfl, by omega, by omega, by omega⟩) hl hP hD hS ?_
    rintro n25 ⟨q, w⟩ ls H locs hI25 hl hP hD hS ih25
    have hl : lv_has ls 3 [(1, .int 1), (0, .ref (a 21))] := hl
    have hP : va_P G.1 vwCl (WDs G a tx (c.1, pnR c.2 q w)) H := hP
    have hD : va_D A (WDs G a tx (c.1, pnR c.2 q w)) := hD
    obtain ⟨hd, hq, hm, hq2⟩ := hI25
    refine lv_aload_n hx hb dX5_takeDigits_25 rfl (lv_at hl 1 rfl) ?_
    refine va_get (D := G.1) (v := .int (nI q)) hx hb hts hin5 hown hK hP 0 rfl rfl 3 (by decide) hf15 (fun _ h => h) rfl dX5_takeDigits_26 ?_
    refine lv_aload_n hx hb dX5_takeDigits_29 rfl (lv_at hl 1 rfl) ?_
    refine va_get (D := G.1) (v := .int (nI (rLen c.2))) hx hb hts hin5 hown hK hP 0 rfl rfl 2 (by decide) hf9 (fun _ h => h) rfl dX5_takeDigits_30 ?_
    refine wk_ge (x := q) (y := (rLen c.2)) (tgt := 93) hx hb (by omega) (by omega) dX5_takeDigits_33 (by decide) (fun c33 => ?_) (fun c33 => ?_)
    · refine lv_iload_n hx hb dX5_takeDigits_93 rfl (lv_at hl 0 rfl) ?_
      refine lv_if_eq (tgt := 114) hx hb dX5_takeDigits_94 (by decide) (fun c94 => ?_) (fun c94 => ?_)
      · exact absurd c94 (by decide)
      · refine lv_aload_n hx hb dX5_takeDigits_97 rfl (lv_at hl 1 rfl) ?_
        refine va_get (D := G.1) (v := .int (nI q)) hx hb hts hin5 hown hK hP 0 rfl rfl 3 (by decide) hf15 (fun _ h => h) rfl dX5_takeDigits_98 ?_
        refine lv_aload_n hx hb dX5_takeDigits_101 rfl (lv_at hl 1 rfl) ?_
        refine va_get (D := G.1) (v := .int (nI (rTP c.2))) hx hb hts hin5 hown hK hP 0 rfl rfl 5 (by decide) hf21 (fun _ h => h) rfl dX5_takeDigits_102 ?_
        refine wk_isub (x := q) (y := (rTP c.2)) hx hb (by omega) dX5_takeDigits_105 ?_
        refine lv_iconst (v := 1) hx hb dX5_takeDigits_106 (by decide) ?_
        refine wk_le (x := (q - (rTP c.2))) (y := 1) (tgt := 114) hx hb (by omega) (by omega) dX5_takeDigits_107 (by decide) (fun c107 => ?_) (fun c107 => ?_)
        · refine lv_iconst (v := 0) hx hb dX5_takeDigits_114 (by decide) ?_
          refine lv_istore_n (lv' := [(2, .int 0), (1, .int 1), (0, .ref (a 21))]) hx hb dX5_takeDigits_115 rfl hl (by decide) rfl (fun ls hl => ?_)
          refine lv_aload_n hx hb dX5_takeDigits_116 rfl (lv_at hl 2 rfl) ?_
          refine lv_iload_n hx hb dX5_takeDigits_117 rfl (lv_at hl 0 rfl) ?_
          refine lv_if_ne (tgt := 130) hx hb dX5_takeDigits_118 (by decide) (fun c118 => ?_) (fun c118 => ?_)
          · exact absurd c118 (by decide)
          · refine lv_aload_n hx hb dX5_takeDigits_121 rfl (lv_at hl 2 rfl) ?_
            refine va_get (D := G.1) (v := .int (nI w)) hx hb hts hin5 hown hK hP 0 rfl rfl 6 (by decide) hf24 (fun _ h => h) rfl dX5_takeDigits_122 ?_
            refine lv_bipush (v := 31) hx hb dX5_takeDigits_125 (by decide) ?_
            refine wk_le (x := w) (y := 31) (tgt := 135) hx hb (by omega) (by omega) dX5_takeDigits_127 (by decide) (fun c127 => ?_) (fun c127 => ?_)
            · refine lv_bipush (v := -2) hx hb dX5_takeDigits_135 (by decide) ?_
              refine va_put (D := G.1) (v := .int (-2)) (ty := .int) hx hb hts hin5 tyX5 tyX5_ok nmX5 hown hK hP hD hS 0 rfl rfl 4 (by decide) hf18 (fun _ h => h) rfl (by decide +kernel) rfl rfl (Nat.le_of_ble_eq_true rfl) dX5_takeDigits_137 (fun H locs hP hD hS => ?_)
              exact wk_mvret' hx hb hr hlocks dX5_takeDigits_140 hP hS (congrArg (WDs G a tx) (show (c.1, tkD tx c.2) = (c.1, (rLen c.2, q, -2, rTP c.2, w, rFa c.2, rWa c.2)) from by simp only [tkD, ← hd]; rw [show dgF tx (rLen c.2) n25 q w = (q, w) from by cases n25 with | zero => rfl | succ k => rw [dgF, if_neg (by intro z; exact absurd z.1 (by omega))]]; simp only []; rw [if_neg (fun h => h.elim (fun h => by first | exact c11 h.1 | (have := h.2; omega)) (fun h => by omega))]))
            · refine lv_bipush (v := -3) hx hb dX5_takeDigits_130 (by decide) ?_
              refine lv_goto (tgt := 137) hx hb dX5_takeDigits_132 (by decide) ?_
              refine va_put (D := G.1) (v := .int (-3)) (ty := .int) hx hb hts hin5 tyX5 tyX5_ok nmX5 hown hK hP hD hS 0 rfl rfl 4 (by decide) hf18 (fun _ h => h) rfl (by decide +kernel) rfl rfl (Nat.le_of_ble_eq_true rfl) dX5_takeDigits_137 (fun H locs hP hD hS => ?_)
              exact wk_mvret' hx hb hr hlocks dX5_takeDigits_140 hP hS (congrArg (WDs G a tx) (show (c.1, tkD tx c.2) = (c.1, (rLen c.2, q, -3, rTP c.2, w, rFa c.2, rWa c.2)) from by simp only [tkD, ← hd]; rw [show dgF tx (rLen c.2) n25 q w = (q, w) from by cases n25 with | zero => rfl | succ k => rw [dgF, if_neg (by intro z; exact absurd z.1 (by omega))]]; simp only []; rw [if_pos (by first | exact Or.inr (by omega) | exact Or.inl ⟨c11, by omega⟩)]))
        · refine lv_iconst (v := 1) hx hb dX5_takeDigits_110 (by decide) ?_
          refine lv_goto (tgt := 115) hx hb dX5_takeDigits_111 (by decide) ?_
          refine lv_istore_n (lv' := [(2, .int 1), (1, .int 1), (0, .ref (a 21))]) hx hb dX5_takeDigits_115 rfl hl (by decide) rfl (fun ls hl => ?_)
          refine lv_aload_n hx hb dX5_takeDigits_116 rfl (lv_at hl 2 rfl) ?_
          refine lv_iload_n hx hb dX5_takeDigits_117 rfl (lv_at hl 0 rfl) ?_
          refine lv_if_ne (tgt := 130) hx hb dX5_takeDigits_118 (by decide) (fun c118 => ?_) (fun c118 => ?_)
          · refine lv_bipush (v := -3) hx hb dX5_takeDigits_130 (by decide) ?_
            refine lv_goto (tgt := 137) hx hb dX5_takeDigits_132 (by decide) ?_
            refine va_put (D := G.1) (v := .int (-3)) (ty := .int) hx hb hts hin5 tyX5 tyX5_ok nmX5 hown hK hP hD hS 0 rfl rfl 4 (by decide) hf18 (fun _ h => h) rfl (by decide +kernel) rfl rfl (Nat.le_of_ble_eq_true rfl) dX5_takeDigits_137 (fun H locs hP hD hS => ?_)
            exact wk_mvret' hx hb hr hlocks dX5_takeDigits_140 hP hS (congrArg (WDs G a tx) (show (c.1, tkD tx c.2) = (c.1, (rLen c.2, q, -3, rTP c.2, w, rFa c.2, rWa c.2)) from by simp only [tkD, ← hd]; rw [show dgF tx (rLen c.2) n25 q w = (q, w) from by cases n25 with | zero => rfl | succ k => rw [dgF, if_neg (by intro z; exact absurd z.1 (by omega))]]; simp only []; rw [if_pos (by first | exact Or.inr (by omega) | exact Or.inl ⟨c11, by omega⟩)]))
          · exact absurd c118 (by decide)
    · refine lv_aload_n hx hb dX5_takeDigits_36 rfl (lv_at hl 1 rfl) ?_
      refine va_get (D := G.1) (v := .ref (a 15)) hx hb hts hin5 hown hK hP 0 rfl rfl 0 (by decide) hf34 (fun _ h => h) rfl dX5_takeDigits_37 ?_
      refine lv_aload_n hx hb dX5_takeDigits_40 rfl (lv_at hl 1 rfl) ?_
      refine va_get (D := G.1) (v := .int (nI q)) hx hb hts hin5 hown hK hP 0 rfl rfl 3 (by decide) hf15 (fun _ h => h) rfl dX5_takeDigits_41 ?_
      refine wk_cald (i := q) hx hb hK hP 1 0 rfl rfl (by omega) (Nat.le_of_ble_eq_true rfl) dX5_takeDigits_44 ?_
      refine wk_read (va_runS (As := [.int (tx q)]) (rest := []) ⟨hx, hb, hml, hown, hts⟩ (c_X5_isDigit l (tx q)) (va_cwS 1 hts gX5_takeDigits_X5_isDigit rfl rfl rfl hdS_X5_isDigit ⟨Nat.le_of_ble_eq_true rfl, Nat.le_of_ble_eq_true rfl⟩) preEq rfl rfl hl.1 rfl (lv_room (Nat.le_of_ble_eq_true rfl)) dX5_takeDigits_45 ⟨hrc, hrs⟩) ?_
      refine lv_if_eq (tgt := 93) hx hb dX5_takeDigits_48 (by decide) (fun c48 => ?_) (fun c48 => ?_)
      · have c48 := b2i_f c48
        refine lv_iload_n hx hb dX5_takeDigits_93 rfl (lv_at hl 0 rfl) ?_
        refine lv_if_eq (tgt := 114) hx hb dX5_takeDigits_94 (by decide) (fun c94 => ?_) (fun c94 => ?_)
        · exact absurd c94 (by decide)
        · refine lv_aload_n hx hb dX5_takeDigits_97 rfl (lv_at hl 1 rfl) ?_
          refine va_get (D := G.1) (v := .int (nI q)) hx hb hts hin5 hown hK hP 0 rfl rfl 3 (by decide) hf15 (fun _ h => h) rfl dX5_takeDigits_98 ?_
          refine lv_aload_n hx hb dX5_takeDigits_101 rfl (lv_at hl 1 rfl) ?_
          refine va_get (D := G.1) (v := .int (nI (rTP c.2))) hx hb hts hin5 hown hK hP 0 rfl rfl 5 (by decide) hf21 (fun _ h => h) rfl dX5_takeDigits_102 ?_
          refine wk_isub (x := q) (y := (rTP c.2)) hx hb (by omega) dX5_takeDigits_105 ?_
          refine lv_iconst (v := 1) hx hb dX5_takeDigits_106 (by decide) ?_
          refine wk_le (x := (q - (rTP c.2))) (y := 1) (tgt := 114) hx hb (by omega) (by omega) dX5_takeDigits_107 (by decide) (fun c107 => ?_) (fun c107 => ?_)
          · refine lv_iconst (v := 0) hx hb dX5_takeDigits_114 (by decide) ?_
            refine lv_istore_n (lv' := [(2, .int 0), (1, .int 1), (0, .ref (a 21))]) hx hb dX5_takeDigits_115 rfl hl (by decide) rfl (fun ls hl => ?_)
            refine lv_aload_n hx hb dX5_takeDigits_116 rfl (lv_at hl 2 rfl) ?_
            refine lv_iload_n hx hb dX5_takeDigits_117 rfl (lv_at hl 0 rfl) ?_
            refine lv_if_ne (tgt := 130) hx hb dX5_takeDigits_118 (by decide) (fun c118 => ?_) (fun c118 => ?_)
            · exact absurd c118 (by decide)
            · refine lv_aload_n hx hb dX5_takeDigits_121 rfl (lv_at hl 2 rfl) ?_
              refine va_get (D := G.1) (v := .int (nI w)) hx hb hts hin5 hown hK hP 0 rfl rfl 6 (by decide) hf24 (fun _ h => h) rfl dX5_takeDigits_122 ?_
              refine lv_bipush (v := 31) hx hb dX5_takeDigits_125 (by decide) ?_
              refine wk_le (x := w) (y := 31) (tgt := 135) hx hb (by omega) (by omega) dX5_takeDigits_127 (by decide) (fun c127 => ?_) (fun c127 => ?_)
              · refine lv_bipush (v := -2) hx hb dX5_takeDigits_135 (by decide) ?_
                refine va_put (D := G.1) (v := .int (-2)) (ty := .int) hx hb hts hin5 tyX5 tyX5_ok nmX5 hown hK hP hD hS 0 rfl rfl 4 (by decide) hf18 (fun _ h => h) rfl (by decide +kernel) rfl rfl (Nat.le_of_ble_eq_true rfl) dX5_takeDigits_137 (fun H locs hP hD hS => ?_)
                exact wk_mvret' hx hb hr hlocks dX5_takeDigits_140 hP hS (congrArg (WDs G a tx) (show (c.1, tkD tx c.2) = (c.1, (rLen c.2, q, -2, rTP c.2, w, rFa c.2, rWa c.2)) from by simp only [tkD, ← hd]; rw [show dgF tx (rLen c.2) n25 q w = (q, w) from by cases n25 with | zero => rfl | succ k => rw [dgF, if_neg (by rw [c48]; simp)]]; simp only []; rw [if_neg (fun h => h.elim (fun h => by first | exact c11 h.1 | (have := h.2; omega)) (fun h => by omega))]))
              · refine lv_bipush (v := -3) hx hb dX5_takeDigits_130 (by decide) ?_
                refine lv_goto (tgt := 137) hx hb dX5_takeDigits_132 (by decide) ?_
                refine va_put (D := G.1) (v := .int (-3)) (ty := .int) hx hb hts hin5 tyX5 tyX5_ok nmX5 hown hK hP hD hS 0 rfl rfl 4 (by decide) hf18 (fun _ h => h) rfl (by decide +kernel) rfl rfl (Nat.le_of_ble_eq_true rfl) dX5_takeDigits_137 (fun H locs hP hD hS => ?_)
                exact wk_mvret' hx hb hr hlocks dX5_takeDigits_140 hP hS (congrArg (WDs G a tx) (show (c.1, tkD tx c.2) = (c.1, (rLen c.2, q, -3, rTP c.2, w, rFa c.2, rWa c.2)) from by simp only [tkD, ← hd]; rw [show dgF tx (rLen c.2) n25 q w = (q, w) from by cases n25 with | zero => rfl | succ k => rw [dgF, if_neg (by rw [c48]; simp)]]; simp only []; rw [if_pos (by first | exact Or.inr (by omega) | exact Or.inl ⟨c11, by omega⟩)]))
          · refine lv_iconst (v := 1) hx hb dX5_takeDigits_110 (by decide) ?_
            refine lv_goto (tgt := 115) hx hb dX5_takeDigits_111 (by decide) ?_
            refine lv_istore_n (lv' := [(2, .int 1), (1, .int 1), (0, .ref (a 21))]) hx hb dX5_takeDigits_115 rfl hl (by decide) rfl (fun ls hl => ?_)
            refine lv_aload_n hx hb dX5_takeDigits_116 rfl (lv_at hl 2 rfl) ?_
            refine lv_iload_n hx hb dX5_takeDigits_117 rfl (lv_at hl 0 rfl) ?_
            refine lv_if_ne (tgt := 130) hx hb dX5_takeDigits_118 (by decide) (fun c118 => ?_) (fun c118 => ?_)
            · refine lv_bipush (v := -3) hx hb dX5_takeDigits_130 (by decide) ?_
              refine lv_goto (tgt := 137) hx hb dX5_takeDigits_132 (by decide) ?_
              refine va_put (D := G.1) (v := .int (-3)) (ty := .int) hx hb hts hin5 tyX5 tyX5_ok nmX5 hown hK hP hD hS 0 rfl rfl 4 (by decide) hf18 (fun _ h => h) rfl (by decide +kernel) rfl rfl (Nat.le_of_ble_eq_true rfl) dX5_takeDigits_137 (fun H locs hP hD hS => ?_)
              exact wk_mvret' hx hb hr hlocks dX5_takeDigits_140 hP hS (congrArg (WDs G a tx) (show (c.1, tkD tx c.2) = (c.1, (rLen c.2, q, -3, rTP c.2, w, rFa c.2, rWa c.2)) from by simp only [tkD, ← hd]; rw [show dgF tx (rLen c.2) n25 q w = (q, w) from by cases n25 with | zero => rfl | succ k => rw [dgF, if_neg (by rw [c48]; simp)]]; simp only []; rw [if_pos (by first | exact Or.inr (by omega) | exact Or.inl ⟨c11, by omega⟩)]))
            · exact absurd c118 (by decide)
      · have c48 := b2i_t c48
        have hdl := dg_lt c48
        refine lv_aload_n hx hb dX5_takeDigits_51 rfl (lv_at hl 1 rfl) ?_
        refine lv_aload_n hx hb dX5_takeDigits_52 rfl (lv_at hl 1 rfl) ?_
        refine va_get (D := G.1) (v := .int (nI w)) hx hb hts hin5 hown hK hP 0 rfl rfl 6 (by decide) hf24 (fun _ h => h) rfl dX5_takeDigits_53 ?_
        refine lv_bipush (v := 10) hx hb dX5_takeDigits_56 (by decide) ?_
        refine wk_imul (x := w) (y := 10) hx hb dX5_takeDigits_58 ?_
        refine lv_aload_n hx hb dX5_takeDigits_59 rfl (lv_at hl 1 rfl) ?_
        refine va_get (D := G.1) (v := .ref (a 15)) hx hb hts hin5 hown hK hP 0 rfl rfl 0 (by decide) hf34 (fun _ h => h) rfl dX5_takeDigits_60 ?_
        refine lv_aload_n hx hb dX5_takeDigits_63 rfl (lv_at hl 1 rfl) ?_
        refine va_get (D := G.1) (v := .int (nI q)) hx hb hts hin5 hown hK hP 0 rfl rfl 3 (by decide) hf15 (fun _ h => h) rfl dX5_takeDigits_64 ?_
        refine wk_cald (i := q) hx hb hK hP 1 0 rfl rfl (by omega) (Nat.le_of_ble_eq_true rfl) dX5_takeDigits_67 ?_
        refine lv_bipush (v := 48) hx hb dX5_takeDigits_68 (by decide) ?_
        refine lv_isub hx hb dX5_takeDigits_70 ?_
        rw [dg_eq c48]
        refine wk_iadd (x := (w * 10)) (y := (dg (tx q))) hx hb dX5_takeDigits_71 ?_
        refine lv_bipush (v := 32) hx hb dX5_takeDigits_72 (by decide) ?_
        refine va_mmin hx hb (hml.trans hl.1.symm) hown (hts (.methodLink RX5 64 Lib.Math.min.name) (by decide +kernel)) (hts (.static Lib.Math.min.name) (by decide +kernel)) (hts (.initialized "java/lang/Math") (by decide +kernel)) (hts (.code Lib.Math.min.name Lib.Math.min.code 2 (some .int)) (by decide +kernel)) (Nat.le_of_ble_eq_true rfl) (Nat.le_of_ble_eq_true rfl) (Nat.zero_le _) (Nat.zero_le _) dX5_takeDigits_74 ?_
        refine W.eq (congrArg (fun z => F0 m 77 ls (.int z :: [.ref (a 21)])) (min_n (x := ((w * 10) + (dg (tx q)))) (y := 32) (by omega) (by omega))) ?_
        refine va_put (D := G.1) (v := .int (nI (min ((w * 10) + (dg (tx q))) 32))) (ty := .int) hx hb hts hin5 tyX5 tyX5_ok nmX5 hown hK hP hD hS 0 rfl rfl 6 (by decide) hf24 (fun _ h => h) rfl (by decide +kernel) rfl rfl (Nat.le_of_ble_eq_true rfl) dX5_takeDigits_77 (fun H locs hP hD hS => ?_)
        refine lv_aload_n hx hb dX5_takeDigits_80 rfl (lv_at hl 1 rfl) ?_
        refine lv_dup hx hb dX5_takeDigits_81 rfl ?_
        refine va_get (D := G.1) (v := .int (nI q)) hx hb hts hin5 hown hK hP 0 rfl rfl 3 (by decide) hf15 (fun _ h => h) rfl dX5_takeDigits_82 ?_
        refine lv_iconst (v := 1) hx hb dX5_takeDigits_85 (by decide) ?_
        refine wk_iadd (x := q) (y := 1) hx hb dX5_takeDigits_86 ?_
        refine va_put (D := G.1) (v := .int (nI (q + 1))) (ty := .int) hx hb hts hin5 tyX5 tyX5_ok nmX5 hown hK hP hD hS 0 rfl rfl 3 (by decide) hf15 (fun _ h => h) rfl (by decide +kernel) rfl rfl (Nat.le_of_ble_eq_true rfl) dX5_takeDigits_87 (fun H locs hP hD hS => ?_)
        refine lv_goto (tgt := 25) hx hb dX5_takeDigits_90 (by decide) ?_
        obtain ⟨m25, rfl⟩ : ∃ k, n25 = k + 1 := ⟨n25 - 1, by omega⟩
        exact ih25 (q + 1, min (w * 10 + dg (tx q)) 32) m25 ls H _ (by omega) (⟨by rw [← hd, dgF, if_pos ⟨c33, c48⟩], by omega, by omega, by omega⟩) (lv_sub hl [0, 1] rfl) hP hD hS

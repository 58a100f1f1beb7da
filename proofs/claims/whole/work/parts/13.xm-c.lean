theorem hdV_X7_type : yX7_type.cls = RX7 ∧ yX7_type.cls ≠ "java/lang/invoke/MethodHandle" ∧ yX7_type.cls ≠ "java/lang/invoke/VarHandle" ∧ (parseMethodDescriptor yX7_type.desc).map (fun d => d.parameters.length) = some 1 := by decide +kernel
set_option maxHeartbeats 600000 in
set_option maxRecDepth 100000 in
theorem c_X7_type (l : Launch) (G : GG) (a : Nat → Nat) (c : CX) (hc : OkR c) (x : Int32) (sz : Nat) : Met l yX7_type wsX7_type ({ frames := 0, cells := 0, slots := 0, locals := 0 }) (va_Pc [.ref (a 0), .int x] (fun U => PreM G (WX G a c) sz U U.heap)) (Qm G.1 vwCl (some (.int (xType c x).1)) (WX G a ((xType c x).2)) (va_A (WX G a c) sz)) 0 0 (va_A (WX G a c) sz) := by
  refine Met.ofW (cc := cX7_type) (maxL := 2) (ret := (some .int)) (by decide) rfl ?_
  intro p e s m args below meth cd s₁ BB hml hv
  obtain ⟨rfl, ⟨hP, hK, hN⟩, hD0, hsz⟩ := hv
  have hx := BB.exec
  have hb := BB.bytes
  have hr := BB.returns
  have hts := atoms_spec (ws := wsX7_type) BB.pre
  have hown : s.vm.findClass RX7 = some m.cls := findClass_of_methodNamed BB.named
  have hlocks := BB.notSynchronized
  have hrc : 0 + 0 ≤ (headSpec wsX7_type ({ frames := 0, cells := 0, slots := 0, locals := 0 })).room.cells := Nat.le_refl _
  have hrs : 0 + 0 ≤ (headSpec wsX7_type ({ frames := 0, cells := 0, slots := 0, locals := 0 })).room.slots := Nat.le_refl _
  subst hsz
  have hD := hD0.self (sz := s.heap.size)
  generalize hAe : va_A (WX G a c) s.heap.size = A at hD ⊢
  have hA : ∀ q : Nat, s.heap.size ≤ q → A q := fun q h => by rw [← hAe]; exact Or.inr h
  have hS : va_S A s.heap s.heap [] := va_S.rf
  obtain ⟨hk7, ho1, ho5, hi6, hl200, hnx, hkn⟩ := id hc
  have hin7 : ∀ w ∈ u_ws RX7 TX7 13, w ∈ wsX7_type := by decide +kernel
  have hf9 := hts (.fieldLink RX7 9 "RegaliaVotes" "text" "[C") (by decide +kernel)
  have hf13 := hts (.fieldLink RX7 13 "RegaliaVotes" "letters" "I") (by decide +kernel)
  refine wk_enter (n := 2) (Nat.le_of_ble_eq_true rfl) (fun ls hl => ?_)
  have hl : lv_has ls 2 [(0, .ref (a 0)), (1, .int x)] := hl
  refine lv_iload_n hx hb dX7_type_0 rfl (lv_at hl 1 rfl) ?_
  refine lv_if_lt (tgt := 11) hx hb dX7_type_1 (by decide) (fun c1 => ?_) (fun c1 => ?_)
  · refine lv_iconst (v := -1) hx hb dX7_type_11 (by decide) ?_
    have hq : xType c x = ((-1), c) := by simp [xType, c1]
    exact wk_mret' hx hb hr hlocks dX7_type_12 hP hS (congrArg (fun z => some (Value.int z.1)) hq) (congrArg (fun z => WX G a z.2) hq)
  · refine lv_iload_n hx hb dX7_type_4 rfl (lv_at hl 1 rfl) ?_
    refine lv_sipush (v := 255) hx hb dX7_type_5 (by decide) ?_
    refine lv_icmp_le (tgt := 13) hx hb dX7_type_8 (by decide) (fun c8 => ?_) (fun c8 => ?_)
    · obtain ⟨j, hj, rfl⟩ : ∃ j : Nat, j ≤ 255 ∧ x = nI j := nI_of2 rfl c1 c8
      refine lv_aload_n hx hb dX7_type_13 rfl (lv_at hl 0 rfl) ?_
      refine va_get (D := G.1) (v := .int (nI (cLe c))) hx hb hts hin7 hown hK hP 0 (WX_0 G a c) rfl 1 (by decide) hf13 (fun _ h => h) rfl dX7_type_14 ?_
      refine lv_sipush (v := 200) hx hb dX7_type_17 (by decide) ?_
      refine wk_lt (x := (cLe c)) (y := 200) (tgt := 26) hx hb (by omega) (by omega) dX7_type_20 (by decide) (fun c20 => ?_) (fun c20 => ?_)
      · refine lv_aload_n hx hb dX7_type_26 rfl (lv_at hl 0 rfl) ?_
        refine va_get (D := G.1) (v := .ref (a 15)) hx hb hts hin7 hown hK hP 0 (WX_0 G a c) rfl 0 (by decide) hf9 (fun _ h => h) rfl dX7_type_27 ?_
        refine lv_aload_n hx hb dX7_type_30 rfl (lv_at hl 0 rfl) ?_
        refine va_get (D := G.1) (v := .int (nI (cLe c))) hx hb hts hin7 hown hK hP 0 (WX_0 G a c) rfl 1 (by decide) hf13 (fun _ h => h) rfl dX7_type_31 ?_
        refine lv_iload_n hx hb dX7_type_34 rfl (lv_at hl 1 rfl) ?_
        refine lv_i2c hx hb dX7_type_35 rfl ?_
        refine wk_cast (i := (cLe c)) hx hb hK hP hD hS 15 0 (WX_15 G a c) rfl (by omega) (Nat.le_of_ble_eq_true rfl) dX7_type_36 (fun H locs hP hD hS => ?_)
        rw [chr_small (by omega)] at hP hD
        rw [WX_p15] at hP hD
        refine lv_aload_n hx hb dX7_type_37 rfl (lv_at hl 0 rfl) ?_
        refine lv_dup hx hb dX7_type_38 rfl ?_
        refine va_get (D := G.1) (v := .int (nI (cLe c))) hx hb hts hin7 hown hK hP 0 (WX_0 G a (setTx c (upd (cTx c) (cLe c) (nI j)))) rfl 1 (by decide) hf13 (fun _ h => h) rfl dX7_type_39 ?_
        refine lv_iconst (v := 1) hx hb dX7_type_42 (by decide) ?_
        refine wk_iadd (x := (cLe c)) (y := 1) hx hb dX7_type_43 ?_
        refine va_put (D := G.1) (v := .int (nI ((cLe c) + 1))) (ty := .int) hx hb hts hin7 tyX7 tyX7_ok nmX7 hown hK hP hD hS 0 (WX_0 G a (setTx c (upd (cTx c) (cLe c) (nI j)))) rfl 1 (by decide) hf13 (fun _ h => h) rfl (by decide +kernel) rfl rfl (Nat.le_of_ble_eq_true rfl) dX7_type_44 (fun H locs hP hD hS => ?_)
        rw [WX_p0_1] at hP hD
        refine lv_aload_n hx hb dX7_type_47 rfl (lv_at hl 0 rfl) ?_
        refine va_get (D := G.1) (v := .int (nI ((cLe c) + 1))) hx hb hts hin7 hown hK hP 0 (WX_0 G a (setLe (setTx c (upd (cTx c) (cLe c) (nI j))) ((cLe c) + 1))) rfl 1 (by decide) hf13 (fun _ h => h) rfl dX7_type_48 ?_
        have hq : xType c (nI j) = ((nI ((cLe c) + 1)), setLe (setTx c (upd (cTx c) (cLe c) (nI j))) ((cLe c) + 1)) := by simp only [xType]; rw [if_neg c1, if_pos c8, if_pos c20]
        exact wk_mret' hx hb hr hlocks dX7_type_51 hP hS (congrArg (fun z => some (Value.int z.1)) hq) (congrArg (fun z => WX G a z.2) hq)
      · refine lv_bipush (v := -3) hx hb dX7_type_23 (by decide) ?_
        have hq : xType c (nI j) = ((-3), c) := by simp only [xType]; rw [if_neg c1, if_pos c8, if_neg (by omega)]
        exact wk_mret' hx hb hr hlocks dX7_type_25 hP hS (congrArg (fun z => some (Value.int z.1)) hq) (congrArg (fun z => WX G a z.2) hq)
    · refine lv_iconst (v := -1) hx hb dX7_type_11 (by decide) ?_
      have hq : xType c x = ((-1), c) := by simp only [xType]; rw [if_neg c1, if_neg c8]
      exact wk_mret' hx hb hr hlocks dX7_type_12 hP hS (congrArg (fun z => some (Value.int z.1)) hq) (congrArg (fun z => WX G a z.2) hq)
theorem hdV_X7_clear : yX7_clear.cls = RX7 ∧ yX7_clear.cls ≠ "java/lang/invoke/MethodHandle" ∧ yX7_clear.cls ≠ "java/lang/invoke/VarHandle" ∧ (parseMethodDescriptor yX7_clear.desc).map (fun d => d.parameters.length) = some 0 := by decide +kernel
set_option maxHeartbeats 600000 in
set_option maxRecDepth 100000 in
theorem c_X7_clear (l : Launch) (G : GG) (a : Nat → Nat) (c : CX) (hc : OkR c) (sz : Nat) : Met l yX7_clear wsX7_clear ({ frames := 0, cells := 0, slots := 0, locals := 0 }) (va_Pc [.ref (a 0)] (fun U => PreM G (WX G a c) sz U U.heap)) (Qm G.1 vwCl (some (.int (xClear c).1)) (WX G a ((xClear c).2)) (va_A (WX G a c) sz)) 0 0 (va_A (WX G a c) sz) := by
  refine Met.ofW (cc := cX7_clear) (maxL := 2) (ret := (some .int)) (by decide) rfl ?_
  intro p e s m args below meth cd s₁ BB hml hv
  obtain ⟨rfl, ⟨hP, hK, hN⟩, hD0, hsz⟩ := hv
  have hx := BB.exec
  have hb := BB.bytes
  have hr := BB.returns
  have hts := atoms_spec (ws := wsX7_clear) BB.pre
  have hown : s.vm.findClass RX7 = some m.cls := findClass_of_methodNamed BB.named
  have hlocks := BB.notSynchronized
  have hrc : 0 + 0 ≤ (headSpec wsX7_clear ({ frames := 0, cells := 0, slots := 0, locals := 0 })).room.cells := Nat.le_refl _
  have hrs : 0 + 0 ≤ (headSpec wsX7_clear ({ frames := 0, cells := 0, slots := 0, locals := 0 })).room.slots := Nat.le_refl _
  subst hsz
  have hD := hD0.self (sz := s.heap.size)
  generalize hAe : va_A (WX G a c) s.heap.size = A at hD ⊢
  have hA : ∀ q : Nat, s.heap.size ≤ q → A q := fun q h => by rw [← hAe]; exact Or.inr h
  have hS : va_S A s.heap s.heap [] := va_S.rf
  obtain ⟨hk7, ho1, ho5, hi6, hl200, hnx, hkn⟩ := id hc
  have hin7 : ∀ w ∈ u_ws RX7 TX7 13, w ∈ wsX7_clear := by decide +kernel
  have hf13 := hts (.fieldLink RX7 13 "RegaliaVotes" "letters" "I") (by decide +kernel)
  refine wk_enter (n := 2) (Nat.le_of_ble_eq_true rfl) (fun ls hl => ?_)
  have hl : lv_has ls 2 [(0, .ref (a 0))] := hl
  refine lv_aload_n hx hb dX7_clear_0 rfl (lv_at hl 0 rfl) ?_
  refine va_get (D := G.1) (v := .int (nI (cLe c))) hx hb hts hin7 hown hK hP 0 (WX_0 G a c) rfl 1 (by decide) hf13 (fun _ h => h) rfl dX7_clear_1 ?_
  refine lv_istore_n (lv' := [(1, .int (nI (cLe c))), (0, .ref (a 0))]) hx hb dX7_clear_4 rfl hl (by decide) rfl (fun ls hl => ?_)
  refine lv_aload_n hx hb dX7_clear_5 rfl (lv_at hl 1 rfl) ?_
  refine lv_iconst (v := 0) hx hb dX7_clear_6 (by decide) ?_
  refine va_put (D := G.1) (v := .int (nI 0)) (ty := .int) hx hb hts hin7 tyX7 tyX7_ok nmX7 hown hK hP hD hS 0 (WX_0 G a c) rfl 1 (by decide) hf13 (fun _ h => h) rfl (by decide +kernel) rfl rfl (Nat.le_of_ble_eq_true rfl) dX7_clear_7 (fun H locs hP hD hS => ?_)
  rw [WX_p0_1] at hP hD
  refine lv_iload_n hx hb dX7_clear_10 rfl (lv_at hl 0 rfl) ?_
  have hq : xClear c = ((nI (cLe c)), setLe c 0) := rfl
  exact wk_mret' hx hb hr hlocks dX7_clear_11 hP hS (congrArg (fun z => some (Value.int z.1)) hq) (congrArg (fun z => WX G a z.2) hq)
theorem hdV_X7_council : yX7_council.cls = RX7 ∧ yX7_council.cls ≠ "java/lang/invoke/MethodHandle" ∧ yX7_council.cls ≠ "java/lang/invoke/VarHandle" ∧ (parseMethodDescriptor yX7_council.desc).map (fun d => d.parameters.length) = some 0 := by decide +kernel
set_option maxHeartbeats 600000 in
set_option maxRecDepth 100000 in
theorem c_X7_council (l : Launch) (G : GG) (a : Nat → Nat) (c : CX) (hc : OkR c) (hd : OkD (cDr c, cRd c)) (sz : Nat) : Met l yX7_council wsX7_council ({ frames := 6, cells := 0, slots := 0, locals := 131 }) (va_Pc [.ref (a 0)] (fun U => PreM G (WX G a c) sz U U.heap)) (Qm G.1 vwCl (some (.int (xCouncil c).1)) (WX G a ((xCouncil c).2)) (va_A (WX G a c) sz)) 0 0 (va_A (WX G a c) sz) := by
  refine Met.ofW (cc := cX7_council) (maxL := 2) (ret := (some .int)) (by decide) rfl ?_
  intro p e s m args below meth cd s₁ BB hml hv
  obtain ⟨rfl, ⟨hP, hK, hN⟩, hD0, hsz⟩ := hv
  have hx := BB.exec
  have hb := BB.bytes
  have hr := BB.returns
  have hts := atoms_spec (ws := wsX7_council) BB.pre
  have hown : s.vm.findClass RX7 = some m.cls := findClass_of_methodNamed BB.named
  have hlocks := BB.notSynchronized
  have hrc : 0 + 0 ≤ (headSpec wsX7_council ({ frames := 6, cells := 0, slots := 0, locals := 131 })).room.cells := Nat.le_refl _
  have hrs : 0 + 0 ≤ (headSpec wsX7_council ({ frames := 6, cells := 0, slots := 0, locals := 131 })).room.slots := Nat.le_refl _
  subst hsz
  have hD := hD0.self (sz := s.heap.size)
  generalize hAe : va_A (WX G a c) s.heap.size = A at hD ⊢
  have hA : ∀ q : Nat, s.heap.size ≤ q → A q := fun q h => by rw [← hAe]; exact Or.inr h
  have hS : va_S A s.heap s.heap [] := va_S.rf
  obtain ⟨hk7, ho1, ho5, hi6, hl200, hnx, hkn⟩ := id hc
  have hin7 : ∀ w ∈ u_ws RX7 TX7 13, w ∈ wsX7_council := by decide +kernel
  have hf13 := hts (.fieldLink RX7 13 "RegaliaVotes" "letters" "I") (by decide +kernel)
  have hf20 := hts (.fieldLink RX7 20 "RegaliaVotes" "told" "LRegaliaVotes$Council;") (by decide +kernel)
  have hf24 := hts (.fieldLink RX7 24 "RegaliaVotes" "draft" "LRegaliaVotes$Council;") (by decide +kernel)
  have hf32 := hts (.fieldLink RX7 32 "RegaliaVotes" "reader" "LRegaliaVotes$Reader;") (by decide +kernel)
  have hf39 := hts (.fieldLink RX7 39 "RegaliaVotes" "moment" "LRegaliaVotes$Moment;") (by decide +kernel)
  have hf64 := hts (.fieldLink RX7 64 "RegaliaVotes" "minutes" "LRegaliaVotes$Minutes;") (by decide +kernel)
  have hf71 := hts (.fieldLink RX7 71 "RegaliaVotes" "past" "LRegaliaVotes$Past;") (by decide +kernel)
  have hf79 := hts (.fieldLink RX7 79 "RegaliaVotes" "kept" "I") (by decide +kernel)
  refine wk_enter (n := 2) (Nat.le_of_ble_eq_true rfl) (fun ls hl => ?_)
  have hl : lv_has ls 2 [(0, .ref (a 0))] := hl
  refine lv_aload_n hx hb dX7_council_0 rfl (lv_at hl 0 rfl) ?_
  refine va_get (D := G.1) (v := .ref (a 21)) hx hb hts hin7 hown hK hP 0 (WX_0 G a c) rfl 4 (by decide) hf32 (fun _ h => h) rfl dX7_council_1 ?_
  refine lv_aload_n hx hb dX7_council_4 rfl (lv_at hl 0 rfl) ?_
  refine va_get (D := G.1) (v := .int (nI (cLe c))) hx hb hts hin7 hown hK hP 0 (WX_0 G a c) rfl 1 (by decide) hf13 (fun _ h => h) rfl dX7_council_5 ?_
  refine wk_call (va_runV (As := [.int (nI (cLe c))]) (rest := []) ⟨hx, hb, hml, hown, hts⟩ (c_X5_readText l G a (cTx c) (cDr c, cRd c) hd (cLe c) hl200 s.heap.size) (cwV 1 hts gX7_council_X5_readText rfl rfl rfl hdV_X5_readText ⟨Nat.le_of_ble_eq_true rfl, Nat.le_of_ble_eq_true rfl⟩) ((PreM.of hP hK hN hD [21, 15, 16, 17, 18, 19, 20] rfl rfl).pre (ci := 5) (q0 := 0) rfl rfl) rfl rfl hl.1 rfl (lv_room (Nat.le_of_ble_eq_true rfl)) dX7_council_8 ⟨hrc, hrs⟩) hP hD hS hA [21, 15, 16, 17, 18, 19, 20] rfl rfl (fun H locs hP hD hS => ?_)
  generalize hz8 : rdTx (cTx c) (cLe c) (cDr c, cRd c) = z8 at hP hD ⊢
  have hP : va_P G.1 vwCl (WX G a (setDrRd c z8.2.1 z8.2.2)) H := hP
  have hD : va_D A (WX G a (setDrRd c z8.2.1 z8.2.2)) := hD
  refine W.eq (g2 := F0 m 11 ls [.int z8.1]) rfl ?_
  refine lv_istore_n (lv' := [(1, .int z8.1), (0, .ref (a 0))]) hx hb dX7_council_11 rfl hl (by decide) rfl (fun ls hl => ?_)
  refine lv_iload_n hx hb dX7_council_12 rfl (lv_at hl 0 rfl) ?_
  refine lv_if_ge (tgt := 18) hx hb dX7_council_13 (by decide) (fun c13 => ?_) (fun c13 => ?_)
  · have hd8 : OkD z8.2 := by rw [← hz8]; exact ok_rdTx hd
    have hk0 : OkR (setDrRd c z8.2.1 z8.2.2) := hc
    have hk1 : OkR (sCopyK (setDrRd c z8.2.1 z8.2.2)) := okR_copyK hk0 hd8
    refine lv_aload_n hx hb dX7_council_18 rfl (lv_at hl 1 rfl) ?_
    refine va_get (D := G.1) (v := .ref (a 1)) hx hb hts hin7 hown hK hP 0 (WX_0 G a (setDrRd c z8.2.1 z8.2.2)) rfl 2 (by decide) hf20 (fun _ h => h) rfl dX7_council_19 ?_
    refine lv_aload_n hx hb dX7_council_22 rfl (lv_at hl 1 rfl) ?_
    refine va_get (D := G.1) (v := .ref (a 16)) hx hb hts hin7 hown hK hP 0 (WX_0 G a (setDrRd c z8.2.1 z8.2.2)) rfl 3 (by decide) hf24 (fun _ h => h) rfl dX7_council_23 ?_
    refine wk_callA (va_runV (As := [.ref (a 16)]) (rest := []) ⟨hx, hb, hml, hown, hts⟩ (c_X0_copyFrom l G a (setDrRd c z8.2.1 z8.2.2) hc H.size) (cwV 1 hts gX7_council_X0_copyFrom rfl rfl rfl hdV_X0_copyFrom ⟨Nat.le_of_ble_eq_true rfl, Nat.le_of_ble_eq_true rfl⟩) ((PreM.mk hP hK hN hD).pre (ci := 0) (q0 := 1) rfl (WX_1 G a (setDrRd c z8.2.1 z8.2.2))) rfl rfl hl.1 rfl (lv_room (Nat.le_of_ble_eq_true rfl)) dX7_council_26 ⟨hrc, hrs⟩) hD hS hA WX_fst (fun H locs hP hD hS => ?_)
    refine W.eq (g2 := F0 m 29 ls []) rfl ?_
    refine lv_aload_n hx hb dX7_council_29 rfl (lv_at hl 1 rfl) ?_
    refine va_get (D := G.1) (v := .ref (a 6)) hx hb hts hin7 hown hK hP 0 (WX_0 G a (sCopyK (setDrRd c z8.2.1 z8.2.2))) rfl 5 (by decide) hf39 (fun _ h => h) rfl dX7_council_30 ?_
    refine lv_aload_n hx hb dX7_council_33 rfl (lv_at hl 1 rfl) ?_
    refine va_get (D := G.1) (v := .ref (a 1)) hx hb hts hin7 hown hK hP 0 (WX_0 G a (sCopyK (setDrRd c z8.2.1 z8.2.2))) rfl 2 (by decide) hf20 (fun _ h => h) rfl dX7_council_34 ?_
    refine wk_callA (va_runV (As := [.ref (a 1)]) (rest := []) ⟨hx, hb, hml, hown, hts⟩ (c_X2_beginWith l G a (sCopyK (setDrRd c z8.2.1 z8.2.2)) hk1 H.size) (cwV 1 hts gX7_council_X2_beginWith rfl rfl rfl hdV_X2_beginWith ⟨Nat.le_of_ble_eq_true rfl, Nat.le_of_ble_eq_true rfl⟩) ((PreM.mk hP hK hN hD).pre (ci := 2) (q0 := 6) rfl (WX_6 G a (sCopyK (setDrRd c z8.2.1 z8.2.2)))) rfl rfl hl.1 rfl (lv_room (Nat.le_of_ble_eq_true rfl)) dX7_council_37 ⟨hrc, hrs⟩) hD hS hA WX_fst (fun H locs hP hD hS => ?_)
    refine W.eq (g2 := F0 m 40 ls []) rfl ?_
    refine lv_aload_n hx hb dX7_council_40 rfl (lv_at hl 1 rfl) ?_
    refine va_get (D := G.1) (v := .ref (a 11)) hx hb hts hin7 hown hK hP 0 (WX_0 G a (sBegin (sCopyK (setDrRd c z8.2.1 z8.2.2)))) rfl 8 (by decide) hf64 (fun _ h => h) rfl dX7_council_41 ?_
    refine wk_callA (va_runV (As := []) (rest := []) ⟨hx, hb, hml, hown, hts⟩ (c_X1_tearUp l G a (sBegin (sCopyK (setDrRd c z8.2.1 z8.2.2))) (okR_begin hk1) H.size) (cwV 0 hts gX7_council_X1_tearUp rfl rfl rfl hdV_X1_tearUp ⟨Nat.le_of_ble_eq_true rfl, Nat.le_of_ble_eq_true rfl⟩) ((PreM.mk hP hK hN hD).pre (ci := 1) (q0 := 11) rfl (WX_11 G a (sBegin (sCopyK (setDrRd c z8.2.1 z8.2.2))))) rfl rfl hl.1 rfl (lv_room (Nat.le_of_ble_eq_true rfl)) dX7_council_44 ⟨hrc, hrs⟩) hD hS hA WX_fst (fun H locs hP hD hS => ?_)
    refine W.eq (g2 := F0 m 47 ls []) rfl ?_
    refine lv_aload_n hx hb dX7_council_47 rfl (lv_at hl 1 rfl) ?_
    refine va_get (D := G.1) (v := .ref (a 14)) hx hb hts hin7 hown hK hP 0 (WX_0 G a (sTear (sBegin (sCopyK (setDrRd c z8.2.1 z8.2.2))))) rfl 9 (by decide) hf71 (fun _ h => h) rfl dX7_council_48 ?_
    refine wk_callA (va_runV (As := []) (rest := []) ⟨hx, hb, hml, hown, hts⟩ (c_X3_lose l G a (sTear (sBegin (sCopyK (setDrRd c z8.2.1 z8.2.2)))) (okR_tear (okR_begin hk1)) H.size) (cwV 0 hts gX7_council_X3_lose rfl rfl rfl hdV_X3_lose ⟨Nat.le_of_ble_eq_true rfl, Nat.le_of_ble_eq_true rfl⟩) ((PreM.mk hP hK hN hD).pre (ci := 3) (q0 := 14) rfl (WX_14 G a (sTear (sBegin (sCopyK (setDrRd c z8.2.1 z8.2.2)))))) rfl rfl hl.1 rfl (lv_room (Nat.le_of_ble_eq_true rfl)) dX7_council_51 ⟨hrc, hrs⟩) hD hS hA WX_fst (fun H locs hP hD hS => ?_)
    refine W.eq (g2 := F0 m 54 ls []) rfl ?_
    refine lv_aload_n hx hb dX7_council_54 rfl (lv_at hl 1 rfl) ?_
    refine lv_iconst (v := 0) hx hb dX7_council_55 (by decide) ?_
    refine va_put (D := G.1) (v := .int 0) (ty := .int) hx hb hts hin7 tyX7 tyX7_ok nmX7 hown hK hP hD hS 0 (WX_0 G a (sLose (sTear (sBegin (sCopyK (setDrRd c z8.2.1 z8.2.2)))))) rfl 11 (by decide) hf79 (fun _ h => h) rfl (by decide +kernel) rfl rfl (Nat.le_of_ble_eq_true rfl) dX7_council_56 (fun H locs hP hD hS => ?_)
    rw [WX_p0_11] at hP hD
    refine lv_aload_n hx hb dX7_council_59 rfl (lv_at hl 1 rfl) ?_
    refine lv_iconst (v := 0) hx hb dX7_council_60 (by decide) ?_
    refine va_put (D := G.1) (v := .int (nI 0)) (ty := .int) hx hb hts hin7 tyX7 tyX7_ok nmX7 hown hK hP hD hS 0 (WX_0 G a (setKe (sLose (sTear (sBegin (sCopyK (setDrRd c z8.2.1 z8.2.2))))) 0)) rfl 1 (by decide) hf13 (fun _ h => h) rfl (by decide +kernel) rfl rfl (Nat.le_of_ble_eq_true rfl) dX7_council_61 (fun H locs hP hD hS => ?_)
    rw [WX_p0_1] at hP hD
    refine lv_iload_n hx hb dX7_council_64 rfl (lv_at hl 0 rfl) ?_
    have hq : xCouncil c = (z8.1, setLe (setKe (sLose (sTear (sBegin (sCopyK (setDrRd c z8.2.1 z8.2.2))))) 0) 0) := by subst hz8; simp only [xCouncil]; rw [if_pos c13]
    generalize xCouncil c = xx at hq ⊢
    subst hq
    exact wk_mret' hx hb hr hlocks dX7_council_65 hP hS rfl rfl
  · refine lv_iload_n hx hb dX7_council_16 rfl (lv_at hl 0 rfl) ?_
    have hq : xCouncil c = (z8.1, (setDrRd c z8.2.1 z8.2.2)) := by subst hz8; simp only [xCouncil]; rw [if_neg c13]
    generalize xCouncil c = xx at hq ⊢
    subst hq
    exact wk_mret' hx hb hr hlocks dX7_council_17 hP hS rfl rfl
theorem hdV_X7_puts : yX7_puts.cls = RX7 ∧ yX7_puts.cls ≠ "java/lang/invoke/MethodHandle" ∧ yX7_puts.cls ≠ "java/lang/invoke/VarHandle" ∧ (parseMethodDescriptor yX7_puts.desc).map (fun d => d.parameters.length) = some 1 := by decide +kernel
set_option maxHeartbeats 600000 in
set_option maxRecDepth 100000 in
theorem c_X7_puts (l : Launch) (G : GG) (a : Nat → Nat) (c : CX) (hc : OkR c) (b : Int32) (sz : Nat) : Met l yX7_puts wsX7_puts ({ frames := 5, cells := 0, slots := 0, locals := 106 }) (va_Pc [.ref (a 0), .int b] (fun U => PreM G (WX G a c) sz U U.heap)) (Qm G.1 vwCl (some (.int (xPuts c b).1)) (WX G a ((xPuts c b).2)) (va_A (WX G a c) sz)) 0 0 (va_A (WX G a c) sz) := by
  refine Met.ofW (cc := cX7_puts) (maxL := 3) (ret := (some .int)) (by decide) rfl ?_
  intro p e s m args below meth cd s₁ BB hml hv
  obtain ⟨rfl, ⟨hP, hK, hN⟩, hD0, hsz⟩ := hv
  have hx := BB.exec
  have hb := BB.bytes
  have hr := BB.returns
  have hts := atoms_spec (ws := wsX7_puts) BB.pre
  have hown : s.vm.findClass RX7 = some m.cls := findClass_of_methodNamed BB.named
  have hlocks := BB.notSynchronized
  have hrc : 0 + 0 ≤ (headSpec wsX7_puts ({ frames := 5, cells := 0, slots := 0, locals := 106 })).room.cells := Nat.le_refl _
  have hrs : 0 + 0 ≤ (headSpec wsX7_puts ({ frames := 5, cells := 0, slots := 0, locals := 106 })).room.slots := Nat.le_refl _
  subst hsz
  have hD := hD0.self (sz := s.heap.size)
  generalize hAe : va_A (WX G a c) s.heap.size = A at hD ⊢
  have hA : ∀ q : Nat, s.heap.size ≤ q → A q := fun q h => by rw [← hAe]; exact Or.inr h
  have hS : va_S A s.heap s.heap [] := va_S.rf
  obtain ⟨hk7, ho1, ho5, hi6, hl200, hnx, hkn⟩ := id hc
  have hin2 : ∀ w ∈ u_ws RX2 TX2 7, w ∈ wsX7_puts := by decide +kernel
  have hin7 : ∀ w ∈ u_ws RX7 TX7 13, w ∈ wsX7_puts := by decide +kernel
  have hf39 := hts (.fieldLink RX7 39 "RegaliaVotes" "moment" "LRegaliaVotes$Moment;") (by decide +kernel)
  have hf48 := hts (.fieldLink RX7 48 "RegaliaVotes" "vote" "LRegaliaVotes$Vote;") (by decide +kernel)
  have hf71 := hts (.fieldLink RX7 71 "RegaliaVotes" "past" "LRegaliaVotes$Past;") (by decide +kernel)
  have hf162 := hts (.fieldLink RX7 162 "RegaliaVotes$Moment" "put" "I") (by decide +kernel)
  have hf165 := hts (.fieldLink RX7 165 "RegaliaVotes$Moment" "passed" "I") (by decide +kernel)
  refine wk_enter (n := 3) (Nat.le_of_ble_eq_true rfl) (fun ls hl => ?_)
  have hl : lv_has ls 3 [(0, .ref (a 0)), (1, .int b)] := hl
  refine lv_iload_n hx hb dX7_puts_0 rfl (lv_at hl 1 rfl) ?_
  refine wk_read (va_runS (As := [.int b]) (rest := []) ⟨hx, hb, hml, hown, hts⟩ (c_X7_noBill l b) (va_cwS 1 hts gX7_puts_X7_noBill rfl rfl rfl hdS_X7_noBill ⟨Nat.le_of_ble_eq_true rfl, Nat.le_of_ble_eq_true rfl⟩) preEq rfl rfl hl.1 rfl (lv_room (Nat.le_of_ble_eq_true rfl)) dX7_puts_1 ⟨hrc, hrs⟩) ?_
  refine lv_if_eq (tgt := 9) hx hb dX7_puts_4 (by decide) (fun c4 => ?_) (fun c4 => ?_)
  · have c4 := b2i_f c4
    refine lv_aload_n hx hb dX7_puts_9 rfl (lv_at hl 0 rfl) ?_
    refine va_get (D := G.1) (v := .ref (a 6)) hx hb hts hin7 hown hK hP 0 (WX_0 G a c) rfl 5 (by decide) hf39 (fun _ h => h) rfl dX7_puts_10 ?_
    refine va_get (D := G.1) (v := .int (mPu (cM c))) hx hb hts hin2 hown hK hP 6 (WX_6 G a c) rfl 5 (by decide) hf162 (fun _ h => h) rfl dX7_puts_13 ?_
    refine lv_sipush (v := 999) hx hb dX7_puts_16 (by decide) ?_
    refine lv_icmp_lt (tgt := 25) hx hb dX7_puts_19 (by decide) (fun c19 => ?_) (fun c19 => ?_)
    · refine lv_aload_n hx hb dX7_puts_25 rfl (lv_at hl 0 rfl) ?_
      refine va_get (D := G.1) (v := .ref (a 14)) hx hb hts hin7 hown hK hP 0 (WX_0 G a c) rfl 9 (by decide) hf71 (fun _ h => h) rfl dX7_puts_26 ?_
      refine lv_aload_n hx hb dX7_puts_29 rfl (lv_at hl 0 rfl) ?_
      refine va_get (D := G.1) (v := .ref (a 6)) hx hb hts hin7 hown hK hP 0 (WX_0 G a c) rfl 5 (by decide) hf39 (fun _ h => h) rfl dX7_puts_30 ?_
      refine wk_callA (va_runV (As := [.ref (a 6)]) (rest := []) ⟨hx, hb, hml, hown, hts⟩ (c_X3_remember l G a c hc s.heap.size) (cwV 1 hts gX7_puts_X3_remember rfl rfl rfl hdV_X3_remember ⟨Nat.le_of_ble_eq_true rfl, Nat.le_of_ble_eq_true rfl⟩) ((PreM.mk hP hK hN hD).pre (ci := 3) (q0 := 14) rfl (WX_14 G a c)) rfl rfl hl.1 rfl (lv_room (Nat.le_of_ble_eq_true rfl)) dX7_puts_33 ⟨hrc, hrs⟩) hD hS hA WX_fst (fun H locs hP hD hS => ?_)
      refine W.eq (g2 := F0 m 36 ls []) rfl ?_
      refine lv_aload_n hx hb dX7_puts_36 rfl (lv_at hl 0 rfl) ?_
      refine va_get (D := G.1) (v := .ref (a 9)) hx hb hts hin7 hown hK hP 0 (WX_0 G a (sRem c)) rfl 6 (by decide) hf48 (fun _ h => h) rfl dX7_puts_37 ?_
      refine lv_iload_n hx hb dX7_puts_40 rfl (lv_at hl 1 rfl) ?_
      refine wk_read (va_runV (As := [.int b]) (rest := []) ⟨hx, hb, hml, hown, hts⟩ (c_X6_passes l G a (sRem c) (okR_rem hc) b) (cwV 1 hts gX7_puts_X6_passes rfl rfl rfl hdV_X6_passes ⟨Nat.le_of_ble_eq_true rfl, Nat.le_of_ble_eq_true rfl⟩) (PreW.pre (G := G) (W0 := WR G a (sRem c)) ⟨va_P_left hP, hK, hN⟩ (ci := 6) (q0 := 9) rfl rfl) rfl rfl hl.1 rfl (lv_room (Nat.le_of_ble_eq_true rfl)) dX7_puts_41 ⟨hrc, hrs⟩) ?_
      refine lv_if_eq (tgt := 51) hx hb dX7_puts_44 (by decide) (fun c44 => ?_) (fun c44 => ?_)
      · have c44 := b2i_f c44
        refine lv_iconst (v := 0) hx hb dX7_puts_51 (by decide) ?_
        refine lv_istore_n (lv' := [(2, .int 0), (0, .ref (a 0)), (1, .int b)]) hx hb dX7_puts_52 rfl hl (by decide) rfl (fun ls hl => ?_)
        refine lv_aload_n hx hb dX7_puts_53 rfl (lv_at hl 1 rfl) ?_
        refine va_get (D := G.1) (v := .ref (a 6)) hx hb hts hin7 hown hK hP 0 (WX_0 G a (sRem c)) rfl 5 (by decide) hf39 (fun _ h => h) rfl dX7_puts_54 ?_
        refine lv_dup hx hb dX7_puts_57 rfl ?_
        refine va_get (D := G.1) (v := .int (mPu (cM c))) hx hb hts hin2 hown hK hP 6 (WX_6 G a (sRem c)) rfl 5 (by decide) hf162 (fun _ h => h) rfl dX7_puts_58 ?_
        refine lv_iconst (v := 1) hx hb dX7_puts_61 (by decide) ?_
        refine lv_iadd hx hb dX7_puts_62 ?_
        refine va_put (D := G.1) (v := .int ((mPu (cM c)) + 1)) (ty := .int) hx hb hts hin2 tyX2 tyX2_ok nmX2 hown hK hP hD hS 6 (WX_6 G a (sRem c)) rfl 5 (by decide) hf162 (fun _ h => h) rfl (by decide +kernel) rfl rfl (Nat.le_of_ble_eq_true rfl) dX7_puts_63 (fun H locs hP hD hS => ?_)
        rw [WX_p6_5] at hP hD
        refine lv_aload_n hx hb dX7_puts_66 rfl (lv_at hl 1 rfl) ?_
        refine va_get (D := G.1) (v := .ref (a 6)) hx hb hts hin7 hown hK hP 0 (WX_0 G a (sPu (sRem c) ((mPu (cM c)) + 1))) rfl 5 (by decide) hf39 (fun _ h => h) rfl dX7_puts_67 ?_
        refine lv_dup hx hb dX7_puts_70 rfl ?_
        refine va_get (D := G.1) (v := .int (mPa (cM c))) hx hb hts hin2 hown hK hP 6 (WX_6 G a (sPu (sRem c) ((mPu (cM c)) + 1))) rfl 6 (by decide) hf165 (fun _ h => h) rfl dX7_puts_71 ?_
        refine lv_iload_n hx hb dX7_puts_74 rfl (lv_at hl 0 rfl) ?_
        refine lv_iadd hx hb dX7_puts_75 ?_
        refine va_put (D := G.1) (v := .int ((mPa (cM c)) + 0)) (ty := .int) hx hb hts hin2 tyX2 tyX2_ok nmX2 hown hK hP hD hS 6 (WX_6 G a (sPu (sRem c) ((mPu (cM c)) + 1))) rfl 6 (by decide) hf165 (fun _ h => h) rfl (by decide +kernel) rfl rfl (Nat.le_of_ble_eq_true rfl) dX7_puts_76 (fun H locs hP hD hS => ?_)
        rw [WX_p6_6] at hP hD
        refine lv_aload_n hx hb dX7_puts_79 rfl (lv_at hl 1 rfl) ?_
        refine va_get (D := G.1) (v := .ref (a 6)) hx hb hts hin7 hown hK hP 0 (WX_0 G a (sPa (sPu (sRem c) ((mPu (cM c)) + 1)) ((mPa (cM c)) + 0))) rfl 5 (by decide) hf39 (fun _ h => h) rfl dX7_puts_80 ?_
        refine wk_callA (va_runV (As := []) (rest := []) ⟨hx, hb, hml, hown, hts⟩ (c_X2_cool l G a (sPa (sPu (sRem c) ((mPu (cM c)) + 1)) ((mPa (cM c)) + 0)) (okR_sPa (okR_sPu (okR_rem hc))) H.size) (cwV 0 hts gX7_puts_X2_cool rfl rfl rfl hdV_X2_cool ⟨Nat.le_of_ble_eq_true rfl, Nat.le_of_ble_eq_true rfl⟩) ((PreM.mk hP hK hN hD).pre (ci := 2) (q0 := 6) rfl (WX_6 G a (sPa (sPu (sRem c) ((mPu (cM c)) + 1)) ((mPa (cM c)) + 0)))) rfl rfl hl.1 rfl (lv_room (Nat.le_of_ble_eq_true rfl)) dX7_puts_83 ⟨hrc, hrs⟩) hD hS hA WX_fst (fun H locs hP hD hS => ?_)
        refine W.eq (g2 := F0 m 86 ls []) rfl ?_
        refine lv_iload_n hx hb dX7_puts_86 rfl (lv_at hl 0 rfl) ?_
        have hq : xPuts c b = (0, sCool (sPa (sPu (sRem c) ((mPu (cM c)) + 1)) ((mPa (cM c)) + 0))) := by simp only [xPuts, c4]; rw [if_neg (by simp), if_pos c19, show pPasses (cK c) (cM c) b = false from c44]; rfl
        exact wk_mret' hx hb hr hlocks dX7_puts_87 hP hS (congrArg (fun z => some (Value.int z.1)) hq) (congrArg (fun z => WX G a z.2) hq)
      · have c44 := b2i_t c44
        refine lv_iconst (v := 1) hx hb dX7_puts_47 (by decide) ?_
        refine lv_goto (tgt := 52) hx hb dX7_puts_48 (by decide) ?_
        refine lv_istore_n (lv' := [(2, .int 1), (0, .ref (a 0)), (1, .int b)]) hx hb dX7_puts_52 rfl hl (by decide) rfl (fun ls hl => ?_)
        refine lv_aload_n hx hb dX7_puts_53 rfl (lv_at hl 1 rfl) ?_
        refine va_get (D := G.1) (v := .ref (a 6)) hx hb hts hin7 hown hK hP 0 (WX_0 G a (sRem c)) rfl 5 (by decide) hf39 (fun _ h => h) rfl dX7_puts_54 ?_
        refine lv_dup hx hb dX7_puts_57 rfl ?_
        refine va_get (D := G.1) (v := .int (mPu (cM c))) hx hb hts hin2 hown hK hP 6 (WX_6 G a (sRem c)) rfl 5 (by decide) hf162 (fun _ h => h) rfl dX7_puts_58 ?_
        refine lv_iconst (v := 1) hx hb dX7_puts_61 (by decide) ?_
        refine lv_iadd hx hb dX7_puts_62 ?_
        refine va_put (D := G.1) (v := .int ((mPu (cM c)) + 1)) (ty := .int) hx hb hts hin2 tyX2 tyX2_ok nmX2 hown hK hP hD hS 6 (WX_6 G a (sRem c)) rfl 5 (by decide) hf162 (fun _ h => h) rfl (by decide +kernel) rfl rfl (Nat.le_of_ble_eq_true rfl) dX7_puts_63 (fun H locs hP hD hS => ?_)
        rw [WX_p6_5] at hP hD
        refine lv_aload_n hx hb dX7_puts_66 rfl (lv_at hl 1 rfl) ?_
        refine va_get (D := G.1) (v := .ref (a 6)) hx hb hts hin7 hown hK hP 0 (WX_0 G a (sPu (sRem c) ((mPu (cM c)) + 1))) rfl 5 (by decide) hf39 (fun _ h => h) rfl dX7_puts_67 ?_
        refine lv_dup hx hb dX7_puts_70 rfl ?_
        refine va_get (D := G.1) (v := .int (mPa (cM c))) hx hb hts hin2 hown hK hP 6 (WX_6 G a (sPu (sRem c) ((mPu (cM c)) + 1))) rfl 6 (by decide) hf165 (fun _ h => h) rfl dX7_puts_71 ?_
        refine lv_iload_n hx hb dX7_puts_74 rfl (lv_at hl 0 rfl) ?_
        refine lv_iadd hx hb dX7_puts_75 ?_
        refine va_put (D := G.1) (v := .int ((mPa (cM c)) + 1)) (ty := .int) hx hb hts hin2 tyX2 tyX2_ok nmX2 hown hK hP hD hS 6 (WX_6 G a (sPu (sRem c) ((mPu (cM c)) + 1))) rfl 6 (by decide) hf165 (fun _ h => h) rfl (by decide +kernel) rfl rfl (Nat.le_of_ble_eq_true rfl) dX7_puts_76 (fun H locs hP hD hS => ?_)
        rw [WX_p6_6] at hP hD
        refine lv_aload_n hx hb dX7_puts_79 rfl (lv_at hl 1 rfl) ?_
        refine va_get (D := G.1) (v := .ref (a 6)) hx hb hts hin7 hown hK hP 0 (WX_0 G a (sPa (sPu (sRem c) ((mPu (cM c)) + 1)) ((mPa (cM c)) + 1))) rfl 5 (by decide) hf39 (fun _ h => h) rfl dX7_puts_80 ?_
        refine wk_callA (va_runV (As := []) (rest := []) ⟨hx, hb, hml, hown, hts⟩ (c_X2_cool l G a (sPa (sPu (sRem c) ((mPu (cM c)) + 1)) ((mPa (cM c)) + 1)) (okR_sPa (okR_sPu (okR_rem hc))) H.size) (cwV 0 hts gX7_puts_X2_cool rfl rfl rfl hdV_X2_cool ⟨Nat.le_of_ble_eq_true rfl, Nat.le_of_ble_eq_true rfl⟩) ((PreM.mk hP hK hN hD).pre (ci := 2) (q0 := 6) rfl (WX_6 G a (sPa (sPu (sRem c) ((mPu (cM c)) + 1)) ((mPa (cM c)) + 1)))) rfl rfl hl.1 rfl (lv_room (Nat.le_of_ble_eq_true rfl)) dX7_puts_83 ⟨hrc, hrs⟩) hD hS hA WX_fst (fun H locs hP hD hS => ?_)
        refine W.eq (g2 := F0 m 86 ls []) rfl ?_
        refine lv_iload_n hx hb dX7_puts_86 rfl (lv_at hl 0 rfl) ?_
        have hq : xPuts c b = (1, sCool (sPa (sPu (sRem c) ((mPu (cM c)) + 1)) ((mPa (cM c)) + 1))) := by simp only [xPuts, c4]; rw [if_neg (by simp), if_pos c19, show pPasses (cK c) (cM c) b = true from c44]; rfl
        exact wk_mret' hx hb hr hlocks dX7_puts_87 hP hS (congrArg (fun z => some (Value.int z.1)) hq) (congrArg (fun z => WX G a z.2) hq)
    · refine lv_bipush (v := -2) hx hb dX7_puts_22 (by decide) ?_
      have hq : xPuts c b = ((-2), c) := by simp only [xPuts, c4]; rw [if_neg (by simp), if_neg c19]
      exact wk_mret' hx hb hr hlocks dX7_puts_24 hP hS (congrArg (fun z => some (Value.int z.1)) hq) (congrArg (fun z => WX G a z.2) hq)
  · have c4 := b2i_t c4
    refine lv_iconst (v := -1) hx hb dX7_puts_7 (by decide) ?_
    have hq : xPuts c b = ((-1), c) := by simp [xPuts, c4]
    exact wk_mret' hx hb hr hlocks dX7_puts_8 hP hS (congrArg (fun z => some (Value.int z.1)) hq) (congrArg (fun z => WX G a z.2) hq)
theorem hdV_X7_hands : yX7_hands.cls = RX7 ∧ yX7_hands.cls ≠ "java/lang/invoke/MethodHandle" ∧ yX7_hands.cls ≠ "java/lang/invoke/VarHandle" ∧ (parseMethodDescriptor yX7_hands.desc).map (fun d => d.parameters.length) = some 2 := by decide +kernel
set_option maxHeartbeats 600000 in
set_option maxRecDepth 100000 in
theorem c_X7_hands (l : Launch) (G : GG) (a : Nat → Nat) (c : CX) (hc : OkR c) (t : Int32) (f : Int32) (sz : Nat) : Met l yX7_hands wsX7_hands ({ frames := 3, cells := 0, slots := 0, locals := 72 }) (va_Pc [.ref (a 0), .int t, .int f] (fun U => PreM G (WX G a c) sz U U.heap)) (Qm G.1 vwCl (some (.int (xHands c t f).1)) (WX G a ((xHands c t f).2)) (va_A (WX G a c) sz)) 0 0 (va_A (WX G a c) sz) := by
  refine Met.ofW (cc := cX7_hands) (maxL := 4) (ret := (some .int)) (by decide) rfl ?_
  intro p e s m args below meth cd s₁ BB hml hv
  obtain ⟨rfl, ⟨hP, hK, hN⟩, hD0, hsz⟩ := hv
  have hx := BB.exec
  have hb := BB.bytes
  have hr := BB.returns
  have hts := atoms_spec (ws := wsX7_hands) BB.pre
  have hown : s.vm.findClass RX7 = some m.cls := findClass_of_methodNamed BB.named
  have hlocks := BB.notSynchronized
  have hrc : 0 + 0 ≤ (headSpec wsX7_hands ({ frames := 3, cells := 0, slots := 0, locals := 72 })).room.cells := Nat.le_refl _
  have hrs : 0 + 0 ≤ (headSpec wsX7_hands ({ frames := 3, cells := 0, slots := 0, locals := 72 })).room.slots := Nat.le_refl _
  subst hsz
  have hD := hD0.self (sz := s.heap.size)
  generalize hAe : va_A (WX G a c) s.heap.size = A at hD ⊢
  have hA : ∀ q : Nat, s.heap.size ≤ q → A q := fun q h => by rw [← hAe]; exact Or.inr h
  have hS : va_S A s.heap s.heap [] := va_S.rf
  obtain ⟨hk7, ho1, ho5, hi6, hl200, hnx, hkn⟩ := id hc
  have hin2 : ∀ w ∈ u_ws RX2 TX2 7, w ∈ wsX7_hands := by decide +kernel
  have hin7 : ∀ w ∈ u_ws RX7 TX7 13, w ∈ wsX7_hands := by decide +kernel
  have hf39 := hts (.fieldLink RX7 39 "RegaliaVotes" "moment" "LRegaliaVotes$Moment;") (by decide +kernel)
  have hf71 := hts (.fieldLink RX7 71 "RegaliaVotes" "past" "LRegaliaVotes$Past;") (by decide +kernel)
  have hf117 := hts (.fieldLink RX7 117 "RegaliaVotes$Moment" "holder" "[I") (by decide +kernel)
  refine wk_enter (n := 4) (Nat.le_of_ble_eq_true rfl) (fun ls hl => ?_)
  have hl : lv_has ls 4 [(0, .ref (a 0)), (1, .int t), (2, .int f)] := hl
  refine lv_aload_n hx hb dX7_hands_0 rfl (lv_at hl 0 rfl) ?_
  refine lv_iload_n hx hb dX7_hands_1 rfl (lv_at hl 1 rfl) ?_
  refine wk_read (va_runV (As := [.int t]) (rest := []) ⟨hx, hb, hml, hown, hts⟩ (c_X7_noThing l G a c hc t) (cwV 1 hts gX7_hands_X7_noThing rfl rfl rfl hdV_X7_noThing ⟨Nat.le_of_ble_eq_true rfl, Nat.le_of_ble_eq_true rfl⟩) (PreW.pre (G := G) (W0 := WR G a c) ⟨va_P_left hP, hK, hN⟩ (ci := 7) (q0 := 0) rfl rfl) rfl rfl hl.1 rfl (lv_room (Nat.le_of_ble_eq_true rfl)) dX7_hands_2 ⟨hrc, hrs⟩) ?_
  refine lv_if_ne (tgt := 16) hx hb dX7_hands_5 (by decide) (fun c5 => ?_) (fun c5 => ?_)
  · have c5 := b2i_t c5
    refine lv_iconst (v := -1) hx hb dX7_hands_16 (by decide) ?_
    have hq : xHands c t f = ((-1), c) := by simp [xHands, c5]
    exact wk_mret' hx hb hr hlocks dX7_hands_17 hP hS (congrArg (fun z => some (Value.int z.1)) hq) (congrArg (fun z => WX G a z.2) hq)
  · have c5 := b2i_f c5
    obtain ⟨j, hj, rfl⟩ := pNoT_n c5 hk7
    have hcl := nI_clamp (show j < 2 ^ 31 by omega)
    refine lv_aload_n hx hb dX7_hands_8 rfl (lv_at hl 0 rfl) ?_
    refine lv_iload_n hx hb dX7_hands_9 rfl (lv_at hl 2 rfl) ?_
    refine wk_read (va_runV (As := [.int f]) (rest := []) ⟨hx, hb, hml, hown, hts⟩ (c_X7_noOfficer l G a c hc f) (cwV 1 hts gX7_hands_X7_noOfficer rfl rfl rfl hdV_X7_noOfficer ⟨Nat.le_of_ble_eq_true rfl, Nat.le_of_ble_eq_true rfl⟩) (PreW.pre (G := G) (W0 := WR G a c) ⟨va_P_left hP, hK, hN⟩ (ci := 7) (q0 := 0) rfl rfl) rfl rfl hl.1 rfl (lv_room (Nat.le_of_ble_eq_true rfl)) dX7_hands_10 ⟨hrc, hrs⟩) ?_
    refine lv_if_eq (tgt := 18) hx hb dX7_hands_13 (by decide) (fun c13 => ?_) (fun c13 => ?_)
    · have c13 := b2i_f c13
      refine lv_aload_n hx hb dX7_hands_18 rfl (lv_at hl 0 rfl) ?_
      refine va_get (D := G.1) (v := .ref (a 14)) hx hb hts hin7 hown hK hP 0 (WX_0 G a c) rfl 9 (by decide) hf71 (fun _ h => h) rfl dX7_hands_19 ?_
      refine lv_aload_n hx hb dX7_hands_22 rfl (lv_at hl 0 rfl) ?_
      refine va_get (D := G.1) (v := .ref (a 6)) hx hb hts hin7 hown hK hP 0 (WX_0 G a c) rfl 5 (by decide) hf39 (fun _ h => h) rfl dX7_hands_23 ?_
      refine wk_callA (va_runV (As := [.ref (a 6)]) (rest := []) ⟨hx, hb, hml, hown, hts⟩ (c_X3_remember l G a c hc s.heap.size) (cwV 1 hts gX7_hands_X3_remember rfl rfl rfl hdV_X3_remember ⟨Nat.le_of_ble_eq_true rfl, Nat.le_of_ble_eq_true rfl⟩) ((PreM.mk hP hK hN hD).pre (ci := 3) (q0 := 14) rfl (WX_14 G a c)) rfl rfl hl.1 rfl (lv_room (Nat.le_of_ble_eq_true rfl)) dX7_hands_26 ⟨hrc, hrs⟩) hD hS hA WX_fst (fun H locs hP hD hS => ?_)
      refine W.eq (g2 := F0 m 29 ls []) rfl ?_
      refine lv_aload_n hx hb dX7_hands_29 rfl (lv_at hl 0 rfl) ?_
      refine va_get (D := G.1) (v := .ref (a 6)) hx hb hts hin7 hown hK hP 0 (WX_0 G a (sRem c)) rfl 5 (by decide) hf39 (fun _ h => h) rfl dX7_hands_30 ?_
      refine va_get (D := G.1) (v := .ref (a 7)) hx hb hts hin2 hown hK hP 6 (WX_6 G a (sRem c)) rfl 0 (by decide) hf117 (fun _ h => h) rfl dX7_hands_33 ?_
      refine lv_iload_n hx hb dX7_hands_36 rfl (lv_at hl 1 rfl) ?_
      refine wk_iald (i := j) hx hb hK hP 7 1 (WX_7 G a (sRem c)) rfl (by omega) (Nat.le_of_ble_eq_true rfl) dX7_hands_37 ?_
      refine lv_istore_n (lv' := [(3, .int (mH (cM c) j)), (0, .ref (a 0)), (1, .int (nI j)), (2, .int f)]) hx hb dX7_hands_38 rfl hl (by decide) rfl (fun ls hl => ?_)
      refine lv_aload_n hx hb dX7_hands_39 rfl (lv_at hl 1 rfl) ?_
      refine va_get (D := G.1) (v := .ref (a 6)) hx hb hts hin7 hown hK hP 0 (WX_0 G a (sRem c)) rfl 5 (by decide) hf39 (fun _ h => h) rfl dX7_hands_40 ?_
      refine va_get (D := G.1) (v := .ref (a 7)) hx hb hts hin2 hown hK hP 6 (WX_6 G a (sRem c)) rfl 0 (by decide) hf117 (fun _ h => h) rfl dX7_hands_43 ?_
      refine lv_iload_n hx hb dX7_hands_46 rfl (lv_at hl 2 rfl) ?_
      refine lv_iload_n hx hb dX7_hands_47 rfl (lv_at hl 3 rfl) ?_
      refine wk_iast (i := j) hx hb hK hP hD hS 7 1 (WX_7 G a (sRem c)) rfl (by omega) (Nat.le_of_ble_eq_true rfl) dX7_hands_48 (fun H locs hP hD hS => ?_)
      rw [WX_p7] at hP hD
      refine lv_iload_n hx hb dX7_hands_49 rfl (lv_at hl 0 rfl) ?_
      have hq : xHands c (nI j) f = ((mH (cM c) j), sMH (sRem c) (upd (mH (cM c)) j f)) := by simp only [xHands, c5, c13, hcl]; rfl
      exact wk_mret' hx hb hr hlocks dX7_hands_50 hP hS (congrArg (fun z => some (Value.int z.1)) hq) (congrArg (fun z => WX G a z.2) hq)
    · have c13 := b2i_t c13
      refine lv_iconst (v := -1) hx hb dX7_hands_16 (by decide) ?_
      have hq : xHands c (nI j) f = ((-1), c) := by simp [xHands, c5, c13]
      exact wk_mret' hx hb hr hlocks dX7_hands_17 hP hS (congrArg (fun z => some (Value.int z.1)) hq) (congrArg (fun z => WX G a z.2) hq)
theorem hdV_X7_washes : yX7_washes.cls = RX7 ∧ yX7_washes.cls ≠ "java/lang/invoke/MethodHandle" ∧ yX7_washes.cls ≠ "java/lang/invoke/VarHandle" ∧ (parseMethodDescriptor yX7_washes.desc).map (fun d => d.parameters.length) = some 1 := by decide +kernel
set_option maxHeartbeats 600000 in
set_option maxRecDepth 100000 in
theorem c_X7_washes (l : Launch) (G : GG) (a : Nat → Nat) (c : CX) (hc : OkR c) (t : Int32) (sz : Nat) : Met l yX7_washes wsX7_washes ({ frames := 3, cells := 0, slots := 0, locals := 72 }) (va_Pc [.ref (a 0), .int t] (fun U => PreM G (WX G a c) sz U U.heap)) (Qm G.1 vwCl (some (.int (xWashes c t).1)) (WX G a ((xWashes c t).2)) (va_A (WX G a c) sz)) 0 0 (va_A (WX G a c) sz) := by
  refine Met.ofW (cc := cX7_washes) (maxL := 2) (ret := (some .int)) (by decide) rfl ?_
  intro p e s m args below meth cd s₁ BB hml hv
  obtain ⟨rfl, ⟨hP, hK, hN⟩, hD0, hsz⟩ := hv
  have hx := BB.exec
  have hb := BB.bytes
  have hr := BB.returns
  have hts := atoms_spec (ws := wsX7_washes) BB.pre
  have hown : s.vm.findClass RX7 = some m.cls := findClass_of_methodNamed BB.named
  have hlocks := BB.notSynchronized
  have hrc : 0 + 0 ≤ (headSpec wsX7_washes ({ frames := 3, cells := 0, slots := 0, locals := 72 })).room.cells := Nat.le_refl _
  have hrs : 0 + 0 ≤ (headSpec wsX7_washes ({ frames := 3, cells := 0, slots := 0, locals := 72 })).room.slots := Nat.le_refl _
  subst hsz
  have hD := hD0.self (sz := s.heap.size)
  generalize hAe : va_A (WX G a c) s.heap.size = A at hD ⊢
  have hA : ∀ q : Nat, s.heap.size ≤ q → A q := fun q h => by rw [← hAe]; exact Or.inr h
  have hS : va_S A s.heap s.heap [] := va_S.rf
  obtain ⟨hk7, ho1, ho5, hi6, hl200, hnx, hkn⟩ := id hc
  have hin2 : ∀ w ∈ u_ws RX2 TX2 7, w ∈ wsX7_washes := by decide +kernel
  have hin7 : ∀ w ∈ u_ws RX7 TX7 13, w ∈ wsX7_washes := by decide +kernel
  have hf39 := hts (.fieldLink RX7 39 "RegaliaVotes" "moment" "LRegaliaVotes$Moment;") (by decide +kernel)
  have hf71 := hts (.fieldLink RX7 71 "RegaliaVotes" "past" "LRegaliaVotes$Past;") (by decide +kernel)
  have hf120 := hts (.fieldLink RX7 120 "RegaliaVotes$Moment" "wash" "I") (by decide +kernel)
  refine wk_enter (n := 2) (Nat.le_of_ble_eq_true rfl) (fun ls hl => ?_)
  have hl : lv_has ls 2 [(0, .ref (a 0)), (1, .int t)] := hl
  refine lv_aload_n hx hb dX7_washes_0 rfl (lv_at hl 0 rfl) ?_
  refine lv_iload_n hx hb dX7_washes_1 rfl (lv_at hl 1 rfl) ?_
  refine wk_read (va_runV (As := [.int t]) (rest := []) ⟨hx, hb, hml, hown, hts⟩ (c_X7_noThing l G a c hc t) (cwV 1 hts gX7_washes_X7_noThing rfl rfl rfl hdV_X7_noThing ⟨Nat.le_of_ble_eq_true rfl, Nat.le_of_ble_eq_true rfl⟩) (PreW.pre (G := G) (W0 := WR G a c) ⟨va_P_left hP, hK, hN⟩ (ci := 7) (q0 := 0) rfl rfl) rfl rfl hl.1 rfl (lv_room (Nat.le_of_ble_eq_true rfl)) dX7_washes_2 ⟨hrc, hrs⟩) ?_
  refine lv_if_eq (tgt := 10) hx hb dX7_washes_5 (by decide) (fun c5 => ?_) (fun c5 => ?_)
  · have c5 := b2i_f c5
    obtain ⟨j, hj, rfl⟩ := pNoT_n c5 hk7
    have hcl := nI_clamp (show j < 2 ^ 31 by omega)
    refine lv_aload_n hx hb dX7_washes_10 rfl (lv_at hl 0 rfl) ?_
    refine va_get (D := G.1) (v := .ref (a 6)) hx hb hts hin7 hown hK hP 0 (WX_0 G a c) rfl 5 (by decide) hf39 (fun _ h => h) rfl dX7_washes_11 ?_
    refine va_get (D := G.1) (v := .int (mWa (cM c))) hx hb hts hin2 hown hK hP 6 (WX_6 G a c) rfl 2 (by decide) hf120 (fun _ h => h) rfl dX7_washes_14 ?_
    refine lv_iload_n hx hb dX7_washes_17 rfl (lv_at hl 1 rfl) ?_
    refine wk_read (va_runS (As := [.int (mWa (cM c)), .int (nI j)]) (rest := []) ⟨hx, hb, hml, hown, hts⟩ (c_X7_bit l (mWa (cM c)) (nI j)) (va_cwS 2 hts gX7_washes_X7_bit rfl rfl rfl hdS_X7_bit ⟨Nat.le_of_ble_eq_true rfl, Nat.le_of_ble_eq_true rfl⟩) preEq rfl rfl hl.1 rfl (lv_room (Nat.le_of_ble_eq_true rfl)) dX7_washes_18 ⟨hrc, hrs⟩) ?_
    refine lv_iconst (v := 1) hx hb dX7_washes_21 (by decide) ?_
    refine lv_icmp_ne (tgt := 28) hx hb dX7_washes_22 (by decide) (fun c22 => ?_) (fun c22 => ?_)
    · refine lv_aload_n hx hb dX7_washes_28 rfl (lv_at hl 0 rfl) ?_
      refine va_get (D := G.1) (v := .ref (a 14)) hx hb hts hin7 hown hK hP 0 (WX_0 G a c) rfl 9 (by decide) hf71 (fun _ h => h) rfl dX7_washes_29 ?_
      refine lv_aload_n hx hb dX7_washes_32 rfl (lv_at hl 0 rfl) ?_
      refine va_get (D := G.1) (v := .ref (a 6)) hx hb hts hin7 hown hK hP 0 (WX_0 G a c) rfl 5 (by decide) hf39 (fun _ h => h) rfl dX7_washes_33 ?_
      refine wk_callA (va_runV (As := [.ref (a 6)]) (rest := []) ⟨hx, hb, hml, hown, hts⟩ (c_X3_remember l G a c hc s.heap.size) (cwV 1 hts gX7_washes_X3_remember rfl rfl rfl hdV_X3_remember ⟨Nat.le_of_ble_eq_true rfl, Nat.le_of_ble_eq_true rfl⟩) ((PreM.mk hP hK hN hD).pre (ci := 3) (q0 := 14) rfl (WX_14 G a c)) rfl rfl hl.1 rfl (lv_room (Nat.le_of_ble_eq_true rfl)) dX7_washes_36 ⟨hrc, hrs⟩) hD hS hA WX_fst (fun H locs hP hD hS => ?_)
      refine W.eq (g2 := F0 m 39 ls []) rfl ?_
      refine lv_aload_n hx hb dX7_washes_39 rfl (lv_at hl 0 rfl) ?_
      refine va_get (D := G.1) (v := .ref (a 6)) hx hb hts hin7 hown hK hP 0 (WX_0 G a (sRem c)) rfl 5 (by decide) hf39 (fun _ h => h) rfl dX7_washes_40 ?_
      refine lv_dup hx hb dX7_washes_43 rfl ?_
      refine va_get (D := G.1) (v := .int (mWa (cM c))) hx hb hts hin2 hown hK hP 6 (WX_6 G a (sRem c)) rfl 2 (by decide) hf120 (fun _ h => h) rfl dX7_washes_44 ?_
      refine lv_iconst (v := 1) hx hb dX7_washes_47 (by decide) ?_
      refine lv_iload_n hx hb dX7_washes_48 rfl (lv_at hl 1 rfl) ?_
      refine lv_ishl hx hb dX7_washes_49 ?_
      show W _ _ _ _ _ _ _ _ _ _ _ _ _ _ _ (F0 _ _ _ (.int (sh1 (nI j)) :: _))
      refine lv_ior hx hb dX7_washes_50 ?_
      refine va_put (D := G.1) (v := .int ((mWa (cM c)) ||| (sh1 (nI j)))) (ty := .int) hx hb hts hin2 tyX2 tyX2_ok nmX2 hown hK hP hD hS 6 (WX_6 G a (sRem c)) rfl 2 (by decide) hf120 (fun _ h => h) rfl (by decide +kernel) rfl rfl (Nat.le_of_ble_eq_true rfl) dX7_washes_51 (fun H locs hP hD hS => ?_)
      rw [WX_p6_2] at hP hD
      refine lv_aload_n hx hb dX7_washes_54 rfl (lv_at hl 0 rfl) ?_
      refine va_get (D := G.1) (v := .ref (a 6)) hx hb hts hin7 hown hK hP 0 (WX_0 G a (sWa (sRem c) ((mWa (cM c)) ||| (sh1 (nI j))))) rfl 5 (by decide) hf39 (fun _ h => h) rfl dX7_washes_55 ?_
      refine va_get (D := G.1) (v := .int ((mWa (cM c)) ||| (sh1 (nI j)))) hx hb hts hin2 hown hK hP 6 (WX_6 G a (sWa (sRem c) ((mWa (cM c)) ||| (sh1 (nI j))))) rfl 2 (by decide) hf120 (fun _ h => h) rfl dX7_washes_58 ?_
      refine wk_read (va_runS (As := [.int ((mWa (cM c)) ||| (sh1 (nI j)))]) (rest := []) ⟨hx, hb, hml, hown, hts⟩ (c_J6_bitCount_0f7a4 l ((mWa (cM c)) ||| (sh1 (nI j)))) (va_cwS 1 hts gX7_washes_J6_bitCount_0f7a4 rfl rfl rfl hdS_J6_bitCount_0f7a4 ⟨Nat.le_of_ble_eq_true rfl, Nat.le_of_ble_eq_true rfl⟩) preEq rfl rfl hl.1 rfl (lv_room (Nat.le_of_ble_eq_true rfl)) dX7_washes_61 ⟨hrc, hrs⟩) ?_
      have hq : xWashes c (nI j) = ((pPop ((mWa (cM c)) ||| (sh1 (nI j)))), sWa (sRem c) ((mWa (cM c)) ||| (sh1 (nI j)))) := by simp only [xWashes, c5]; rw [if_neg (by simp), if_neg c22]
      exact wk_mret' hx hb hr hlocks dX7_washes_64 hP hS (congrArg (fun z => some (Value.int z.1)) hq) (congrArg (fun z => WX G a z.2) hq)
    · refine lv_bipush (v := -2) hx hb dX7_washes_25 (by decide) ?_
      have hq : xWashes c (nI j) = ((-2), c) := by simp only [xWashes, c5]; rw [if_neg (by simp), if_pos c22]
      exact wk_mret' hx hb hr hlocks dX7_washes_27 hP hS (congrArg (fun z => some (Value.int z.1)) hq) (congrArg (fun z => WX G a z.2) hq)
  · have c5 := b2i_t c5
    refine lv_iconst (v := -1) hx hb dX7_washes_8 (by decide) ?_
    have hq : xWashes c t = ((-1), c) := by simp [xWashes, c5]
    exact wk_mret' hx hb hr hlocks dX7_washes_9 hP hS (congrArg (fun z => some (Value.int z.1)) hq) (congrArg (fun z => WX G a z.2) hq)
theorem hdV_X7_hangs : yX7_hangs.cls = RX7 ∧ yX7_hangs.cls ≠ "java/lang/invoke/MethodHandle" ∧ yX7_hangs.cls ≠ "java/lang/invoke/VarHandle" ∧ (parseMethodDescriptor yX7_hangs.desc).map (fun d => d.parameters.length) = some 1 := by decide +kernel
set_option maxHeartbeats 600000 in
set_option maxRecDepth 100000 in
theorem c_X7_hangs (l : Launch) (G : GG) (a : Nat → Nat) (c : CX) (hc : OkR c) (t : Int32) (sz : Nat) : Met l yX7_hangs wsX7_hangs ({ frames := 3, cells := 0, slots := 0, locals := 72 }) (va_Pc [.ref (a 0), .int t] (fun U => PreM G (WX G a c) sz U U.heap)) (Qm G.1 vwCl (some (.int (xHangs c t).1)) (WX G a ((xHangs c t).2)) (va_A (WX G a c) sz)) 0 0 (va_A (WX G a c) sz) := by
  refine Met.ofW (cc := cX7_hangs) (maxL := 2) (ret := (some .int)) (by decide) rfl ?_
  intro p e s m args below meth cd s₁ BB hml hv
  obtain ⟨rfl, ⟨hP, hK, hN⟩, hD0, hsz⟩ := hv
  have hx := BB.exec
  have hb := BB.bytes
  have hr := BB.returns
  have hts := atoms_spec (ws := wsX7_hangs) BB.pre
  have hown : s.vm.findClass RX7 = some m.cls := findClass_of_methodNamed BB.named
  have hlocks := BB.notSynchronized
  have hrc : 0 + 0 ≤ (headSpec wsX7_hangs ({ frames := 3, cells := 0, slots := 0, locals := 72 })).room.cells := Nat.le_refl _
  have hrs : 0 + 0 ≤ (headSpec wsX7_hangs ({ frames := 3, cells := 0, slots := 0, locals := 72 })).room.slots := Nat.le_refl _
  subst hsz
  have hD := hD0.self (sz := s.heap.size)
  generalize hAe : va_A (WX G a c) s.heap.size = A at hD ⊢
  have hA : ∀ q : Nat, s.heap.size ≤ q → A q := fun q h => by rw [← hAe]; exact Or.inr h
  have hS : va_S A s.heap s.heap [] := va_S.rf
  obtain ⟨hk7, ho1, ho5, hi6, hl200, hnx, hkn⟩ := id hc
  have hin0 : ∀ w ∈ u_ws RX0 TX0 7, w ∈ wsX7_hangs := by decide +kernel
  have hin2 : ∀ w ∈ u_ws RX2 TX2 7, w ∈ wsX7_hangs := by decide +kernel
  have hin7 : ∀ w ∈ u_ws RX7 TX7 13, w ∈ wsX7_hangs := by decide +kernel
  have hf20 := hts (.fieldLink RX7 20 "RegaliaVotes" "told" "LRegaliaVotes$Council;") (by decide +kernel)
  have hf39 := hts (.fieldLink RX7 39 "RegaliaVotes" "moment" "LRegaliaVotes$Moment;") (by decide +kernel)
  have hf71 := hts (.fieldLink RX7 71 "RegaliaVotes" "past" "LRegaliaVotes$Past;") (by decide +kernel)
  have hf107 := hts (.fieldLink RX7 107 "RegaliaVotes$Council" "sort" "[I") (by decide +kernel)
  have hf120 := hts (.fieldLink RX7 120 "RegaliaVotes$Moment" "wash" "I") (by decide +kernel)
  have hf127 := hts (.fieldLink RX7 127 "RegaliaVotes$Moment" "turned" "I") (by decide +kernel)
  refine wk_enter (n := 2) (Nat.le_of_ble_eq_true rfl) (fun ls hl => ?_)
  have hl : lv_has ls 2 [(0, .ref (a 0)), (1, .int t)] := hl
  refine lv_aload_n hx hb dX7_hangs_0 rfl (lv_at hl 0 rfl) ?_
  refine lv_iload_n hx hb dX7_hangs_1 rfl (lv_at hl 1 rfl) ?_
  refine wk_read (va_runV (As := [.int t]) (rest := []) ⟨hx, hb, hml, hown, hts⟩ (c_X7_noThing l G a c hc t) (cwV 1 hts gX7_hangs_X7_noThing rfl rfl rfl hdV_X7_noThing ⟨Nat.le_of_ble_eq_true rfl, Nat.le_of_ble_eq_true rfl⟩) (PreW.pre (G := G) (W0 := WR G a c) ⟨va_P_left hP, hK, hN⟩ (ci := 7) (q0 := 0) rfl rfl) rfl rfl hl.1 rfl (lv_room (Nat.le_of_ble_eq_true rfl)) dX7_hangs_2 ⟨hrc, hrs⟩) ?_
  refine lv_if_eq (tgt := 10) hx hb dX7_hangs_5 (by decide) (fun c5 => ?_) (fun c5 => ?_)
  · have c5 := b2i_f c5
    obtain ⟨j, hj, rfl⟩ := pNoT_n c5 hk7
    have hcl := nI_clamp (show j < 2 ^ 31 by omega)
    refine lv_aload_n hx hb dX7_hangs_10 rfl (lv_at hl 0 rfl) ?_
    refine va_get (D := G.1) (v := .ref (a 6)) hx hb hts hin7 hown hK hP 0 (WX_0 G a c) rfl 5 (by decide) hf39 (fun _ h => h) rfl dX7_hangs_11 ?_
    refine va_get (D := G.1) (v := .int (mWa (cM c))) hx hb hts hin2 hown hK hP 6 (WX_6 G a c) rfl 2 (by decide) hf120 (fun _ h => h) rfl dX7_hangs_14 ?_
    refine lv_iload_n hx hb dX7_hangs_17 rfl (lv_at hl 1 rfl) ?_
    refine wk_read (va_runS (As := [.int (mWa (cM c)), .int (nI j)]) (rest := []) ⟨hx, hb, hml, hown, hts⟩ (c_X7_bit l (mWa (cM c)) (nI j)) (va_cwS 2 hts gX7_hangs_X7_bit rfl rfl rfl hdS_X7_bit ⟨Nat.le_of_ble_eq_true rfl, Nat.le_of_ble_eq_true rfl⟩) preEq rfl rfl hl.1 rfl (lv_room (Nat.le_of_ble_eq_true rfl)) dX7_hangs_18 ⟨hrc, hrs⟩) ?_
    refine lv_if_ne (tgt := 27) hx hb dX7_hangs_21 (by decide) (fun c21 => ?_) (fun c21 => ?_)
    · refine lv_aload_n hx hb dX7_hangs_27 rfl (lv_at hl 0 rfl) ?_
      refine va_get (D := G.1) (v := .ref (a 14)) hx hb hts hin7 hown hK hP 0 (WX_0 G a c) rfl 9 (by decide) hf71 (fun _ h => h) rfl dX7_hangs_28 ?_
      refine lv_aload_n hx hb dX7_hangs_31 rfl (lv_at hl 0 rfl) ?_
      refine va_get (D := G.1) (v := .ref (a 6)) hx hb hts hin7 hown hK hP 0 (WX_0 G a c) rfl 5 (by decide) hf39 (fun _ h => h) rfl dX7_hangs_32 ?_
      refine wk_callA (va_runV (As := [.ref (a 6)]) (rest := []) ⟨hx, hb, hml, hown, hts⟩ (c_X3_remember l G a c hc s.heap.size) (cwV 1 hts gX7_hangs_X3_remember rfl rfl rfl hdV_X3_remember ⟨Nat.le_of_ble_eq_true rfl, Nat.le_of_ble_eq_true rfl⟩) ((PreM.mk hP hK hN hD).pre (ci := 3) (q0 := 14) rfl (WX_14 G a c)) rfl rfl hl.1 rfl (lv_room (Nat.le_of_ble_eq_true rfl)) dX7_hangs_35 ⟨hrc, hrs⟩) hD hS hA WX_fst (fun H locs hP hD hS => ?_)
      refine W.eq (g2 := F0 m 38 ls []) rfl ?_
      refine lv_aload_n hx hb dX7_hangs_38 rfl (lv_at hl 0 rfl) ?_
      refine va_get (D := G.1) (v := .ref (a 6)) hx hb hts hin7 hown hK hP 0 (WX_0 G a (sRem c)) rfl 5 (by decide) hf39 (fun _ h => h) rfl dX7_hangs_39 ?_
      refine lv_dup hx hb dX7_hangs_42 rfl ?_
      refine va_get (D := G.1) (v := .int (mWa (cM c))) hx hb hts hin2 hown hK hP 6 (WX_6 G a (sRem c)) rfl 2 (by decide) hf120 (fun _ h => h) rfl dX7_hangs_43 ?_
      refine lv_iconst (v := 1) hx hb dX7_hangs_46 (by decide) ?_
      refine lv_iload_n hx hb dX7_hangs_47 rfl (lv_at hl 1 rfl) ?_
      refine lv_ishl hx hb dX7_hangs_48 ?_
      show W _ _ _ _ _ _ _ _ _ _ _ _ _ _ _ (F0 _ _ _ (.int (sh1 (nI j)) :: _))
      refine lv_iconst (v := -1) hx hb dX7_hangs_49 (by decide) ?_
      refine lv_ixor hx hb dX7_hangs_50 ?_
      show W _ _ _ _ _ _ _ _ _ _ _ _ _ _ _ (F0 _ _ _ (.int (iv (sh1 (nI j))) :: _))
      refine lv_iand hx hb dX7_hangs_51 ?_
      refine va_put (D := G.1) (v := .int ((mWa (cM c)) &&& (iv (sh1 (nI j))))) (ty := .int) hx hb hts hin2 tyX2 tyX2_ok nmX2 hown hK hP hD hS 6 (WX_6 G a (sRem c)) rfl 2 (by decide) hf120 (fun _ h => h) rfl (by decide +kernel) rfl rfl (Nat.le_of_ble_eq_true rfl) dX7_hangs_52 (fun H locs hP hD hS => ?_)
      rw [WX_p6_2] at hP hD
      refine lv_aload_n hx hb dX7_hangs_55 rfl (lv_at hl 0 rfl) ?_
      refine va_get (D := G.1) (v := .ref (a 1)) hx hb hts hin7 hown hK hP 0 (WX_0 G a (sWa (sRem c) ((mWa (cM c)) &&& (iv (sh1 (nI j)))))) rfl 2 (by decide) hf20 (fun _ h => h) rfl dX7_hangs_56 ?_
      refine va_get (D := G.1) (v := .ref (a 2)) hx hb hts hin0 hown hK hP 1 (WX_1 G a (sWa (sRem c) ((mWa (cM c)) &&& (iv (sh1 (nI j)))))) rfl 3 (by decide) hf107 (fun _ h => h) rfl dX7_hangs_59 ?_
      refine lv_iload_n hx hb dX7_hangs_62 rfl (lv_at hl 1 rfl) ?_
      refine wk_iald (i := j) hx hb hK hP 2 1 (WX_2 G a (sWa (sRem c) ((mWa (cM c)) &&& (iv (sh1 (nI j)))))) rfl (by omega) (Nat.le_of_ble_eq_true rfl) dX7_hangs_63 ?_
      refine lv_iconst (v := 2) hx hb dX7_hangs_64 (by decide) ?_
      refine lv_icmp_ne (tgt := 83) hx hb dX7_hangs_65 (by decide) (fun c65 => ?_) (fun c65 => ?_)
      · refine lv_aload_n hx hb dX7_hangs_83 rfl (lv_at hl 0 rfl) ?_
        refine va_get (D := G.1) (v := .ref (a 6)) hx hb hts hin7 hown hK hP 0 (WX_0 G a (sWa (sRem c) ((mWa (cM c)) &&& (iv (sh1 (nI j)))))) rfl 5 (by decide) hf39 (fun _ h => h) rfl dX7_hangs_84 ?_
        refine va_get (D := G.1) (v := .int (mTu (cM c))) hx hb hts hin2 hown hK hP 6 (WX_6 G a (sWa (sRem c) ((mWa (cM c)) &&& (iv (sh1 (nI j)))))) rfl 3 (by decide) hf127 (fun _ h => h) rfl dX7_hangs_87 ?_
        refine lv_iload_n hx hb dX7_hangs_90 rfl (lv_at hl 1 rfl) ?_
        refine wk_read (va_runS (As := [.int (mTu (cM c)), .int (nI j)]) (rest := []) ⟨hx, hb, hml, hown, hts⟩ (c_X7_bit l (mTu (cM c)) (nI j)) (va_cwS 2 hts gX7_hangs_X7_bit rfl rfl rfl hdS_X7_bit ⟨Nat.le_of_ble_eq_true rfl, Nat.le_of_ble_eq_true rfl⟩) preEq rfl rfl hl.1 rfl (lv_room (Nat.le_of_ble_eq_true rfl)) dX7_hangs_91 ⟨hrc, hrs⟩) ?_
        have hq : xHangs c (nI j) = ((bitI (mTu (cM c)) (nI j)), sWa (sRem c) ((mWa (cM c)) &&& (iv (sh1 (nI j))))) := by simp only [xHangs, c5, hcl]; rw [if_neg (by simp), if_neg c21, if_neg (show ¬ kS (cK c) j = 2 from c65)]
        exact wk_mret' hx hb hr hlocks dX7_hangs_94 hP hS (congrArg (fun z => some (Value.int z.1)) hq) (congrArg (fun z => WX G a z.2) hq)
      · refine lv_aload_n hx hb dX7_hangs_68 rfl (lv_at hl 0 rfl) ?_
        refine va_get (D := G.1) (v := .ref (a 6)) hx hb hts hin7 hown hK hP 0 (WX_0 G a (sWa (sRem c) ((mWa (cM c)) &&& (iv (sh1 (nI j)))))) rfl 5 (by decide) hf39 (fun _ h => h) rfl dX7_hangs_69 ?_
        refine lv_dup hx hb dX7_hangs_72 rfl ?_
        refine va_get (D := G.1) (v := .int (mTu (cM c))) hx hb hts hin2 hown hK hP 6 (WX_6 G a (sWa (sRem c) ((mWa (cM c)) &&& (iv (sh1 (nI j)))))) rfl 3 (by decide) hf127 (fun _ h => h) rfl dX7_hangs_73 ?_
        refine lv_iconst (v := 1) hx hb dX7_hangs_76 (by decide) ?_
        refine lv_iload_n hx hb dX7_hangs_77 rfl (lv_at hl 1 rfl) ?_
        refine lv_ishl hx hb dX7_hangs_78 ?_
        show W _ _ _ _ _ _ _ _ _ _ _ _ _ _ _ (F0 _ _ _ (.int (sh1 (nI j)) :: _))
        refine lv_ixor hx hb dX7_hangs_79 ?_
        refine va_put (D := G.1) (v := .int ((mTu (cM c)) ^^^ (sh1 (nI j)))) (ty := .int) hx hb hts hin2 tyX2 tyX2_ok nmX2 hown hK hP hD hS 6 (WX_6 G a (sWa (sRem c) ((mWa (cM c)) &&& (iv (sh1 (nI j)))))) rfl 3 (by decide) hf127 (fun _ h => h) rfl (by decide +kernel) rfl rfl (Nat.le_of_ble_eq_true rfl) dX7_hangs_80 (fun H locs hP hD hS => ?_)
        rw [WX_p6_3] at hP hD
        refine lv_aload_n hx hb dX7_hangs_83 rfl (lv_at hl 0 rfl) ?_
        refine va_get (D := G.1) (v := .ref (a 6)) hx hb hts hin7 hown hK hP 0 (WX_0 G a (sTu (sWa (sRem c) ((mWa (cM c)) &&& (iv (sh1 (nI j))))) ((mTu (cM c)) ^^^ (sh1 (nI j))))) rfl 5 (by decide) hf39 (fun _ h => h) rfl dX7_hangs_84 ?_
        refine va_get (D := G.1) (v := .int ((mTu (cM c)) ^^^ (sh1 (nI j)))) hx hb hts hin2 hown hK hP 6 (WX_6 G a (sTu (sWa (sRem c) ((mWa (cM c)) &&& (iv (sh1 (nI j))))) ((mTu (cM c)) ^^^ (sh1 (nI j))))) rfl 3 (by decide) hf127 (fun _ h => h) rfl dX7_hangs_87 ?_
        refine lv_iload_n hx hb dX7_hangs_90 rfl (lv_at hl 1 rfl) ?_
        refine wk_read (va_runS (As := [.int ((mTu (cM c)) ^^^ (sh1 (nI j))), .int (nI j)]) (rest := []) ⟨hx, hb, hml, hown, hts⟩ (c_X7_bit l ((mTu (cM c)) ^^^ (sh1 (nI j))) (nI j)) (va_cwS 2 hts gX7_hangs_X7_bit rfl rfl rfl hdS_X7_bit ⟨Nat.le_of_ble_eq_true rfl, Nat.le_of_ble_eq_true rfl⟩) preEq rfl rfl hl.1 rfl (lv_room (Nat.le_of_ble_eq_true rfl)) dX7_hangs_91 ⟨hrc, hrs⟩) ?_
        have hq : xHangs c (nI j) = ((bitI ((mTu (cM c)) ^^^ (sh1 (nI j))) (nI j)), sTu (sWa (sRem c) ((mWa (cM c)) &&& (iv (sh1 (nI j))))) ((mTu (cM c)) ^^^ (sh1 (nI j)))) := by simp only [xHangs, c5, hcl]; rw [if_neg (by simp), if_neg c21, if_pos (show kS (cK c) j = 2 from c65)]
        exact wk_mret' hx hb hr hlocks dX7_hangs_94 hP hS (congrArg (fun z => some (Value.int z.1)) hq) (congrArg (fun z => WX G a z.2) hq)
    · refine lv_bipush (v := -2) hx hb dX7_hangs_24 (by decide) ?_
      have hq : xHangs c (nI j) = ((-2), c) := by simp only [xHangs, c5]; rw [if_neg (by simp), if_pos c21]
      exact wk_mret' hx hb hr hlocks dX7_hangs_26 hP hS (congrArg (fun z => some (Value.int z.1)) hq) (congrArg (fun z => WX G a z.2) hq)
  · have c5 := b2i_t c5
    refine lv_iconst (v := -1) hx hb dX7_hangs_8 (by decide) ?_
    have hq : xHangs c t = ((-1), c) := by simp [xHangs, c5]
    exact wk_mret' hx hb hr hlocks dX7_hangs_9 hP hS (congrArg (fun z => some (Value.int z.1)) hq) (congrArg (fun z => WX G a z.2) hq)
theorem hdV_X7_warms : yX7_warms.cls = RX7 ∧ yX7_warms.cls ≠ "java/lang/invoke/MethodHandle" ∧ yX7_warms.cls ≠ "java/lang/invoke/VarHandle" ∧ (parseMethodDescriptor yX7_warms.desc).map (fun d => d.parameters.length) = some 1 := by decide +kernel
set_option maxHeartbeats 600000 in
set_option maxRecDepth 100000 in
theorem c_X7_warms (l : Launch) (G : GG) (a : Nat → Nat) (c : CX) (hc : OkR c) (t : Int32) (sz : Nat) : Met l yX7_warms wsX7_warms ({ frames := 3, cells := 0, slots := 0, locals := 72 }) (va_Pc [.ref (a 0), .int t] (fun U => PreM G (WX G a c) sz U U.heap)) (Qm G.1 vwCl (some (.int (xWarms c t).1)) (WX G a ((xWarms c t).2)) (va_A (WX G a c) sz)) 0 0 (va_A (WX G a c) sz) := by
  refine Met.ofW (cc := cX7_warms) (maxL := 3) (ret := (some .int)) (by decide) rfl ?_
  intro p e s m args below meth cd s₁ BB hml hv
  obtain ⟨rfl, ⟨hP, hK, hN⟩, hD0, hsz⟩ := hv
  have hx := BB.exec
  have hb := BB.bytes
  have hr := BB.returns
  have hts := atoms_spec (ws := wsX7_warms) BB.pre
  have hown : s.vm.findClass RX7 = some m.cls := findClass_of_methodNamed BB.named
  have hlocks := BB.notSynchronized
  have hrc : 0 + 0 ≤ (headSpec wsX7_warms ({ frames := 3, cells := 0, slots := 0, locals := 72 })).room.cells := Nat.le_refl _
  have hrs : 0 + 0 ≤ (headSpec wsX7_warms ({ frames := 3, cells := 0, slots := 0, locals := 72 })).room.slots := Nat.le_refl _
  subst hsz
  have hD := hD0.self (sz := s.heap.size)
  generalize hAe : va_A (WX G a c) s.heap.size = A at hD ⊢
  have hA : ∀ q : Nat, s.heap.size ≤ q → A q := fun q h => by rw [← hAe]; exact Or.inr h
  have hS : va_S A s.heap s.heap [] := va_S.rf
  obtain ⟨hk7, ho1, ho5, hi6, hl200, hnx, hkn⟩ := id hc
  have hin0 : ∀ w ∈ u_ws RX0 TX0 7, w ∈ wsX7_warms := by decide +kernel
  have hin2 : ∀ w ∈ u_ws RX2 TX2 7, w ∈ wsX7_warms := by decide +kernel
  have hin7 : ∀ w ∈ u_ws RX7 TX7 13, w ∈ wsX7_warms := by decide +kernel
  have hf20 := hts (.fieldLink RX7 20 "RegaliaVotes" "told" "LRegaliaVotes$Council;") (by decide +kernel)
  have hf39 := hts (.fieldLink RX7 39 "RegaliaVotes" "moment" "LRegaliaVotes$Moment;") (by decide +kernel)
  have hf71 := hts (.fieldLink RX7 71 "RegaliaVotes" "past" "LRegaliaVotes$Past;") (by decide +kernel)
  have hf107 := hts (.fieldLink RX7 107 "RegaliaVotes$Council" "sort" "[I") (by decide +kernel)
  have hf130 := hts (.fieldLink RX7 130 "RegaliaVotes$Moment" "warmth" "[I") (by decide +kernel)
  have hf189 := hts (.fieldLink RX7 189 "RegaliaVotes$Council" "warmth" "I") (by decide +kernel)
  refine wk_enter (n := 3) (Nat.le_of_ble_eq_true rfl) (fun ls hl => ?_)
  have hl : lv_has ls 3 [(0, .ref (a 0)), (1, .int t)] := hl
  refine lv_aload_n hx hb dX7_warms_0 rfl (lv_at hl 0 rfl) ?_
  refine lv_iload_n hx hb dX7_warms_1 rfl (lv_at hl 1 rfl) ?_
  refine wk_read (va_runV (As := [.int t]) (rest := []) ⟨hx, hb, hml, hown, hts⟩ (c_X7_noThing l G a c hc t) (cwV 1 hts gX7_warms_X7_noThing rfl rfl rfl hdV_X7_noThing ⟨Nat.le_of_ble_eq_true rfl, Nat.le_of_ble_eq_true rfl⟩) (PreW.pre (G := G) (W0 := WR G a c) ⟨va_P_left hP, hK, hN⟩ (ci := 7) (q0 := 0) rfl rfl) rfl rfl hl.1 rfl (lv_room (Nat.le_of_ble_eq_true rfl)) dX7_warms_2 ⟨hrc, hrs⟩) ?_
  refine lv_if_eq (tgt := 10) hx hb dX7_warms_5 (by decide) (fun c5 => ?_) (fun c5 => ?_)
  · have c5 := b2i_f c5
    obtain ⟨j, hj, rfl⟩ := pNoT_n c5 hk7
    have hcl := nI_clamp (show j < 2 ^ 31 by omega)
    refine lv_aload_n hx hb dX7_warms_10 rfl (lv_at hl 0 rfl) ?_
    refine va_get (D := G.1) (v := .ref (a 1)) hx hb hts hin7 hown hK hP 0 (WX_0 G a c) rfl 2 (by decide) hf20 (fun _ h => h) rfl dX7_warms_11 ?_
    refine va_get (D := G.1) (v := .ref (a 2)) hx hb hts hin0 hown hK hP 1 (WX_1 G a c) rfl 3 (by decide) hf107 (fun _ h => h) rfl dX7_warms_14 ?_
    refine lv_iload_n hx hb dX7_warms_17 rfl (lv_at hl 1 rfl) ?_
    refine wk_iald (i := j) hx hb hK hP 2 1 (WX_2 G a c) rfl (by omega) (Nat.le_of_ble_eq_true rfl) dX7_warms_18 ?_
    refine lv_iconst (v := 1) hx hb dX7_warms_19 (by decide) ?_
    refine lv_icmp_eq (tgt := 26) hx hb dX7_warms_20 (by decide) (fun c20 => ?_) (fun c20 => ?_)
    · refine lv_aload_n hx hb dX7_warms_26 rfl (lv_at hl 0 rfl) ?_
      refine va_get (D := G.1) (v := .ref (a 14)) hx hb hts hin7 hown hK hP 0 (WX_0 G a c) rfl 9 (by decide) hf71 (fun _ h => h) rfl dX7_warms_27 ?_
      refine lv_aload_n hx hb dX7_warms_30 rfl (lv_at hl 0 rfl) ?_
      refine va_get (D := G.1) (v := .ref (a 6)) hx hb hts hin7 hown hK hP 0 (WX_0 G a c) rfl 5 (by decide) hf39 (fun _ h => h) rfl dX7_warms_31 ?_
      refine wk_callA (va_runV (As := [.ref (a 6)]) (rest := []) ⟨hx, hb, hml, hown, hts⟩ (c_X3_remember l G a c hc s.heap.size) (cwV 1 hts gX7_warms_X3_remember rfl rfl rfl hdV_X3_remember ⟨Nat.le_of_ble_eq_true rfl, Nat.le_of_ble_eq_true rfl⟩) ((PreM.mk hP hK hN hD).pre (ci := 3) (q0 := 14) rfl (WX_14 G a c)) rfl rfl hl.1 rfl (lv_room (Nat.le_of_ble_eq_true rfl)) dX7_warms_34 ⟨hrc, hrs⟩) hD hS hA WX_fst (fun H locs hP hD hS => ?_)
      refine W.eq (g2 := F0 m 37 ls []) rfl ?_
      refine lv_aload_n hx hb dX7_warms_37 rfl (lv_at hl 0 rfl) ?_
      refine va_get (D := G.1) (v := .ref (a 6)) hx hb hts hin7 hown hK hP 0 (WX_0 G a (sRem c)) rfl 5 (by decide) hf39 (fun _ h => h) rfl dX7_warms_38 ?_
      refine va_get (D := G.1) (v := .ref (a 8)) hx hb hts hin2 hown hK hP 6 (WX_6 G a (sRem c)) rfl 1 (by decide) hf130 (fun _ h => h) rfl dX7_warms_41 ?_
      refine lv_iload_n hx hb dX7_warms_44 rfl (lv_at hl 1 rfl) ?_
      refine wk_iald (i := j) hx hb hK hP 8 1 (WX_8 G a (sRem c)) rfl (by omega) (Nat.le_of_ble_eq_true rfl) dX7_warms_45 ?_
      refine lv_istore_n (lv' := [(2, .int (mW (cM c) j)), (0, .ref (a 0)), (1, .int (nI j))]) hx hb dX7_warms_46 rfl hl (by decide) rfl (fun ls hl => ?_)
      refine lv_aload_n hx hb dX7_warms_47 rfl (lv_at hl 1 rfl) ?_
      refine va_get (D := G.1) (v := .ref (a 6)) hx hb hts hin7 hown hK hP 0 (WX_0 G a (sRem c)) rfl 5 (by decide) hf39 (fun _ h => h) rfl dX7_warms_48 ?_
      refine va_get (D := G.1) (v := .ref (a 8)) hx hb hts hin2 hown hK hP 6 (WX_6 G a (sRem c)) rfl 1 (by decide) hf130 (fun _ h => h) rfl dX7_warms_51 ?_
      refine lv_iload_n hx hb dX7_warms_54 rfl (lv_at hl 2 rfl) ?_
      refine lv_aload_n hx hb dX7_warms_55 rfl (lv_at hl 1 rfl) ?_
      refine va_get (D := G.1) (v := .ref (a 1)) hx hb hts hin7 hown hK hP 0 (WX_0 G a (sRem c)) rfl 2 (by decide) hf20 (fun _ h => h) rfl dX7_warms_56 ?_
      refine va_get (D := G.1) (v := .int (kW (cK c))) hx hb hts hin0 hown hK hP 1 (WX_1 G a (sRem c)) rfl 2 (by decide) hf189 (fun _ h => h) rfl dX7_warms_59 ?_
      refine wk_iast (i := j) hx hb hK hP hD hS 8 1 (WX_8 G a (sRem c)) rfl (by omega) (Nat.le_of_ble_eq_true rfl) dX7_warms_62 (fun H locs hP hD hS => ?_)
      rw [WX_p8] at hP hD
      refine lv_iload_n hx hb dX7_warms_63 rfl (lv_at hl 0 rfl) ?_
      have hq : xWarms c (nI j) = ((mW (cM c) j), sMW (sRem c) (upd (mW (cM c)) j (kW (cK c)))) := by simp only [xWarms, c5, hcl]; rw [if_neg (by simp), if_pos c20]
      exact wk_mret' hx hb hr hlocks dX7_warms_64 hP hS (congrArg (fun z => some (Value.int z.1)) hq) (congrArg (fun z => WX G a z.2) hq)
    · refine lv_bipush (v := -2) hx hb dX7_warms_23 (by decide) ?_
      have hq : xWarms c (nI j) = ((-2), c) := by simp only [xWarms, c5, hcl]; rw [if_neg (by simp), if_neg c20]
      exact wk_mret' hx hb hr hlocks dX7_warms_25 hP hS (congrArg (fun z => some (Value.int z.1)) hq) (congrArg (fun z => WX G a z.2) hq)
  · have c5 := b2i_t c5
    refine lv_iconst (v := -1) hx hb dX7_warms_8 (by decide) ?_
    have hq : xWarms c t = ((-1), c) := by simp [xWarms, c5]
    exact wk_mret' hx hb hr hlocks dX7_warms_9 hP hS (congrArg (fun z => some (Value.int z.1)) hq) (congrArg (fun z => WX G a z.2) hq)
theorem hdV_X7_sickens : yX7_sickens.cls = RX7 ∧ yX7_sickens.cls ≠ "java/lang/invoke/MethodHandle" ∧ yX7_sickens.cls ≠ "java/lang/invoke/VarHandle" ∧ (parseMethodDescriptor yX7_sickens.desc).map (fun d => d.parameters.length) = some 2 := by decide +kernel
set_option maxHeartbeats 600000 in
set_option maxRecDepth 100000 in
theorem c_X7_sickens (l : Launch) (G : GG) (a : Nat → Nat) (c : CX) (hc : OkR c) (f : Int32) (q : Int32) (sz : Nat) : Met l yX7_sickens wsX7_sickens ({ frames := 3, cells := 0, slots := 0, locals := 72 }) (va_Pc [.ref (a 0), .int f, .int q] (fun U => PreM G (WX G a c) sz U U.heap)) (Qm G.1 vwCl (some (.int (xSickens c f q).1)) (WX G a ((xSickens c f q).2)) (va_A (WX G a c) sz)) 0 0 (va_A (WX G a c) sz) := by
  refine Met.ofW (cc := cX7_sickens) (maxL := 4) (ret := (some .int)) (by decide) rfl ?_
  intro p e s m args below meth cd s₁ BB hml hv
  obtain ⟨rfl, ⟨hP, hK, hN⟩, hD0, hsz⟩ := hv
  have hx := BB.exec
  have hb := BB.bytes
  have hr := BB.returns
  have hts := atoms_spec (ws := wsX7_sickens) BB.pre
  have hown : s.vm.findClass RX7 = some m.cls := findClass_of_methodNamed BB.named
  have hlocks := BB.notSynchronized
  have hrc : 0 + 0 ≤ (headSpec wsX7_sickens ({ frames := 3, cells := 0, slots := 0, locals := 72 })).room.cells := Nat.le_refl _
  have hrs : 0 + 0 ≤ (headSpec wsX7_sickens ({ frames := 3, cells := 0, slots := 0, locals := 72 })).room.slots := Nat.le_refl _
  subst hsz
  have hD := hD0.self (sz := s.heap.size)
  generalize hAe : va_A (WX G a c) s.heap.size = A at hD ⊢
  have hA : ∀ q : Nat, s.heap.size ≤ q → A q := fun q h => by rw [← hAe]; exact Or.inr h
  have hS : va_S A s.heap s.heap [] := va_S.rf
  obtain ⟨hk7, ho1, ho5, hi6, hl200, hnx, hkn⟩ := id hc
  have hin2 : ∀ w ∈ u_ws RX2 TX2 7, w ∈ wsX7_sickens := by decide +kernel
  have hin7 : ∀ w ∈ u_ws RX7 TX7 13, w ∈ wsX7_sickens := by decide +kernel
  have hf39 := hts (.fieldLink RX7 39 "RegaliaVotes" "moment" "LRegaliaVotes$Moment;") (by decide +kernel)
  have hf71 := hts (.fieldLink RX7 71 "RegaliaVotes" "past" "LRegaliaVotes$Past;") (by decide +kernel)
  have hf140 := hts (.fieldLink RX7 140 "RegaliaVotes$Moment" "sick" "I") (by decide +kernel)
  refine wk_enter (n := 4) (Nat.le_of_ble_eq_true rfl) (fun ls hl => ?_)
  have hl : lv_has ls 4 [(0, .ref (a 0)), (1, .int f), (2, .int q)] := hl
  refine lv_aload_n hx hb dX7_sickens_0 rfl (lv_at hl 0 rfl) ?_
  refine lv_iload_n hx hb dX7_sickens_1 rfl (lv_at hl 1 rfl) ?_
  refine wk_read (va_runV (As := [.int f]) (rest := []) ⟨hx, hb, hml, hown, hts⟩ (c_X7_noOfficer l G a c hc f) (cwV 1 hts gX7_sickens_X7_noOfficer rfl rfl rfl hdV_X7_noOfficer ⟨Nat.le_of_ble_eq_true rfl, Nat.le_of_ble_eq_true rfl⟩) (PreW.pre (G := G) (W0 := WR G a c) ⟨va_P_left hP, hK, hN⟩ (ci := 7) (q0 := 0) rfl rfl) rfl rfl hl.1 rfl (lv_room (Nat.le_of_ble_eq_true rfl)) dX7_sickens_2 ⟨hrc, hrs⟩) ?_
  refine lv_if_ne (tgt := 17) hx hb dX7_sickens_5 (by decide) (fun c5 => ?_) (fun c5 => ?_)
  · have c5 := b2i_t c5
    refine lv_iconst (v := -1) hx hb dX7_sickens_17 (by decide) ?_
    have hq : xSickens c f q = ((-1), c) := by simp [xSickens, c5]
    exact wk_mret' hx hb hr hlocks dX7_sickens_18 hP hS (congrArg (fun z => some (Value.int z.1)) hq) (congrArg (fun z => WX G a z.2) hq)
  · have c5 := b2i_f c5
    refine lv_iload_n hx hb dX7_sickens_8 rfl (lv_at hl 2 rfl) ?_
    refine lv_if_lt (tgt := 17) hx hb dX7_sickens_9 (by decide) (fun c9 => ?_) (fun c9 => ?_)
    · refine lv_iconst (v := -1) hx hb dX7_sickens_17 (by decide) ?_
      have hq : xSickens c f q = ((-1), c) := by simp [xSickens, c5, c9]
      exact wk_mret' hx hb hr hlocks dX7_sickens_18 hP hS (congrArg (fun z => some (Value.int z.1)) hq) (congrArg (fun z => WX G a z.2) hq)
    · refine lv_iload_n hx hb dX7_sickens_12 rfl (lv_at hl 2 rfl) ?_
      refine lv_iconst (v := 1) hx hb dX7_sickens_13 (by decide) ?_
      refine lv_icmp_le (tgt := 19) hx hb dX7_sickens_14 (by decide) (fun c14 => ?_) (fun c14 => ?_)
      · refine lv_aload_n hx hb dX7_sickens_19 rfl (lv_at hl 0 rfl) ?_
        refine va_get (D := G.1) (v := .ref (a 14)) hx hb hts hin7 hown hK hP 0 (WX_0 G a c) rfl 9 (by decide) hf71 (fun _ h => h) rfl dX7_sickens_20 ?_
        refine lv_aload_n hx hb dX7_sickens_23 rfl (lv_at hl 0 rfl) ?_
        refine va_get (D := G.1) (v := .ref (a 6)) hx hb hts hin7 hown hK hP 0 (WX_0 G a c) rfl 5 (by decide) hf39 (fun _ h => h) rfl dX7_sickens_24 ?_
        refine wk_callA (va_runV (As := [.ref (a 6)]) (rest := []) ⟨hx, hb, hml, hown, hts⟩ (c_X3_remember l G a c hc s.heap.size) (cwV 1 hts gX7_sickens_X3_remember rfl rfl rfl hdV_X3_remember ⟨Nat.le_of_ble_eq_true rfl, Nat.le_of_ble_eq_true rfl⟩) ((PreM.mk hP hK hN hD).pre (ci := 3) (q0 := 14) rfl (WX_14 G a c)) rfl rfl hl.1 rfl (lv_room (Nat.le_of_ble_eq_true rfl)) dX7_sickens_27 ⟨hrc, hrs⟩) hD hS hA WX_fst (fun H locs hP hD hS => ?_)
        refine W.eq (g2 := F0 m 30 ls []) rfl ?_
        refine lv_aload_n hx hb dX7_sickens_30 rfl (lv_at hl 0 rfl) ?_
        refine va_get (D := G.1) (v := .ref (a 6)) hx hb hts hin7 hown hK hP 0 (WX_0 G a (sRem c)) rfl 5 (by decide) hf39 (fun _ h => h) rfl dX7_sickens_31 ?_
        refine va_get (D := G.1) (v := .int (mSi (cM c))) hx hb hts hin2 hown hK hP 6 (WX_6 G a (sRem c)) rfl 4 (by decide) hf140 (fun _ h => h) rfl dX7_sickens_34 ?_
        refine lv_iload_n hx hb dX7_sickens_37 rfl (lv_at hl 1 rfl) ?_
        refine wk_read (va_runS (As := [.int (mSi (cM c)), .int f]) (rest := []) ⟨hx, hb, hml, hown, hts⟩ (c_X7_bit l (mSi (cM c)) f) (va_cwS 2 hts gX7_sickens_X7_bit rfl rfl rfl hdS_X7_bit ⟨Nat.le_of_ble_eq_true rfl, Nat.le_of_ble_eq_true rfl⟩) preEq rfl rfl hl.1 rfl (lv_room (Nat.le_of_ble_eq_true rfl)) dX7_sickens_38 ⟨hrc, hrs⟩) ?_
        refine lv_istore_n (lv' := [(3, .int (bitI (mSi (cM c)) f)), (0, .ref (a 0)), (1, .int f), (2, .int q)]) hx hb dX7_sickens_41 rfl hl (by decide) rfl (fun ls hl => ?_)
        refine lv_aload_n hx hb dX7_sickens_42 rfl (lv_at hl 1 rfl) ?_
        refine va_get (D := G.1) (v := .ref (a 6)) hx hb hts hin7 hown hK hP 0 (WX_0 G a (sRem c)) rfl 5 (by decide) hf39 (fun _ h => h) rfl dX7_sickens_43 ?_
        refine lv_aload_n hx hb dX7_sickens_46 rfl (lv_at hl 1 rfl) ?_
        refine va_get (D := G.1) (v := .ref (a 6)) hx hb hts hin7 hown hK hP 0 (WX_0 G a (sRem c)) rfl 5 (by decide) hf39 (fun _ h => h) rfl dX7_sickens_47 ?_
        refine va_get (D := G.1) (v := .int (mSi (cM c))) hx hb hts hin2 hown hK hP 6 (WX_6 G a (sRem c)) rfl 4 (by decide) hf140 (fun _ h => h) rfl dX7_sickens_50 ?_
        refine lv_iconst (v := 1) hx hb dX7_sickens_53 (by decide) ?_
        refine lv_iload_n hx hb dX7_sickens_54 rfl (lv_at hl 2 rfl) ?_
        refine lv_ishl hx hb dX7_sickens_55 ?_
        show W _ _ _ _ _ _ _ _ _ _ _ _ _ _ _ (F0 _ _ _ (.int (sh1 f) :: _))
        refine lv_iconst (v := -1) hx hb dX7_sickens_56 (by decide) ?_
        refine lv_ixor hx hb dX7_sickens_57 ?_
        show W _ _ _ _ _ _ _ _ _ _ _ _ _ _ _ (F0 _ _ _ (.int (iv (sh1 f)) :: _))
        refine lv_iand hx hb dX7_sickens_58 ?_
        refine lv_iload_n hx hb dX7_sickens_59 rfl (lv_at hl 3 rfl) ?_
        refine lv_iload_n hx hb dX7_sickens_60 rfl (lv_at hl 2 rfl) ?_
        refine lv_ishl hx hb dX7_sickens_61 ?_
        refine lv_ior hx hb dX7_sickens_62 ?_
        refine va_put (D := G.1) (v := .int (((mSi (cM c)) &&& (iv (sh1 f))) ||| (q <<< (f &&& 31)))) (ty := .int) hx hb hts hin2 tyX2 tyX2_ok nmX2 hown hK hP hD hS 6 (WX_6 G a (sRem c)) rfl 4 (by decide) hf140 (fun _ h => h) rfl (by decide +kernel) rfl rfl (Nat.le_of_ble_eq_true rfl) dX7_sickens_63 (fun H locs hP hD hS => ?_)
        rw [WX_p6_4] at hP hD
        refine lv_iload_n hx hb dX7_sickens_66 rfl (lv_at hl 0 rfl) ?_
        have hq : xSickens c f q = ((bitI (mSi (cM c)) f), sSi (sRem c) (((mSi (cM c)) &&& (iv (sh1 f))) ||| (q <<< (f &&& 31)))) := by simp only [xSickens, c5, c9, Int32.not_lt.mpr c14]; rfl
        exact wk_mret' hx hb hr hlocks dX7_sickens_67 hP hS (congrArg (fun z => some (Value.int z.1)) hq) (congrArg (fun z => WX G a z.2) hq)
      · refine lv_iconst (v := -1) hx hb dX7_sickens_17 (by decide) ?_
        have hq : xSickens c f q = ((-1), c) := by simp [xSickens, c5, c9, c14]
        exact wk_mret' hx hb hr hlocks dX7_sickens_18 hP hS (congrArg (fun z => some (Value.int z.1)) hq) (congrArg (fun z => WX G a z.2) hq)
theorem hdV_X7_undo : yX7_undo.cls = RX7 ∧ yX7_undo.cls ≠ "java/lang/invoke/MethodHandle" ∧ yX7_undo.cls ≠ "java/lang/invoke/VarHandle" ∧ (parseMethodDescriptor yX7_undo.desc).map (fun d => d.parameters.length) = some 0 := by decide +kernel
set_option maxHeartbeats 600000 in
set_option maxRecDepth 100000 in
theorem c_X7_undo (l : Launch) (G : GG) (a : Nat → Nat) (c : CX) (hc : OkR c) (sz : Nat) : Met l yX7_undo wsX7_undo ({ frames := 3, cells := 0, slots := 0, locals := 72 }) (va_Pc [.ref (a 0)] (fun U => PreM G (WX G a c) sz U U.heap)) (Qm G.1 vwCl (some (.int (xUndo c).1)) (WX G a ((xUndo c).2)) (va_A (WX G a c) sz)) 0 0 (va_A (WX G a c) sz) := by
  refine Met.ofW (cc := cX7_undo) (maxL := 1) (ret := (some .int)) (by decide) rfl ?_
  intro p e s m args below meth cd s₁ BB hml hv
  obtain ⟨rfl, ⟨hP, hK, hN⟩, hD0, hsz⟩ := hv
  have hx := BB.exec
  have hb := BB.bytes
  have hr := BB.returns
  have hts := atoms_spec (ws := wsX7_undo) BB.pre
  have hown : s.vm.findClass RX7 = some m.cls := findClass_of_methodNamed BB.named
  have hlocks := BB.notSynchronized
  have hrc : 0 + 0 ≤ (headSpec wsX7_undo ({ frames := 3, cells := 0, slots := 0, locals := 72 })).room.cells := Nat.le_refl _
  have hrs : 0 + 0 ≤ (headSpec wsX7_undo ({ frames := 3, cells := 0, slots := 0, locals := 72 })).room.slots := Nat.le_refl _
  subst hsz
  have hD := hD0.self (sz := s.heap.size)
  generalize hAe : va_A (WX G a c) s.heap.size = A at hD ⊢
  have hA : ∀ q : Nat, s.heap.size ≤ q → A q := fun q h => by rw [← hAe]; exact Or.inr h
  have hS : va_S A s.heap s.heap [] := va_S.rf
  obtain ⟨hk7, ho1, ho5, hi6, hl200, hnx, hkn⟩ := id hc
  have hin3 : ∀ w ∈ u_ws RX3 TX3 3, w ∈ wsX7_undo := by decide +kernel
  have hin7 : ∀ w ∈ u_ws RX7 TX7 13, w ∈ wsX7_undo := by decide +kernel
  have hf39 := hts (.fieldLink RX7 39 "RegaliaVotes" "moment" "LRegaliaVotes$Moment;") (by decide +kernel)
  have hf71 := hts (.fieldLink RX7 71 "RegaliaVotes" "past" "LRegaliaVotes$Past;") (by decide +kernel)
  have hf171 := hts (.fieldLink RX7 171 "RegaliaVotes$Past" "known" "I") (by decide +kernel)
  refine wk_enter (n := 1) (Nat.le_of_ble_eq_true rfl) (fun ls hl => ?_)
  have hl : lv_has ls 1 [(0, .ref (a 0))] := hl
  refine lv_aload_n hx hb dX7_undo_0 rfl (lv_at hl 0 rfl) ?_
  refine va_get (D := G.1) (v := .ref (a 14)) hx hb hts hin7 hown hK hP 0 (WX_0 G a c) rfl 9 (by decide) hf71 (fun _ h => h) rfl dX7_undo_1 ?_
  refine va_get (D := G.1) (v := .int (nI (cKn c))) hx hb hts hin3 hown hK hP 14 (WX_14 G a c) rfl 2 (by decide) hf171 (fun _ h => h) rfl dX7_undo_4 ?_
  refine lv_if_ne (tgt := 13) hx hb dX7_undo_7 (by decide) (fun c7 => ?_) (fun c7 => ?_)
  · have c7 := nI_nz c7
    refine lv_aload_n hx hb dX7_undo_13 rfl (lv_at hl 0 rfl) ?_
    refine va_get (D := G.1) (v := .ref (a 14)) hx hb hts hin7 hown hK hP 0 (WX_0 G a c) rfl 9 (by decide) hf71 (fun _ h => h) rfl dX7_undo_14 ?_
    refine lv_aload_n hx hb dX7_undo_17 rfl (lv_at hl 0 rfl) ?_
    refine va_get (D := G.1) (v := .ref (a 6)) hx hb hts hin7 hown hK hP 0 (WX_0 G a c) rfl 5 (by decide) hf39 (fun _ h => h) rfl dX7_undo_18 ?_
    refine wk_callA (va_runV (As := [.ref (a 6)]) (rest := []) ⟨hx, hb, hml, hown, hts⟩ (c_X3_recall l G a c hc s.heap.size) (cwV 1 hts gX7_undo_X3_recall rfl rfl rfl hdV_X3_recall ⟨Nat.le_of_ble_eq_true rfl, Nat.le_of_ble_eq_true rfl⟩) ((PreM.mk hP hK hN hD).pre (ci := 3) (q0 := 14) rfl (WX_14 G a c)) rfl rfl hl.1 rfl (lv_room (Nat.le_of_ble_eq_true rfl)) dX7_undo_21 ⟨hrc, hrs⟩) hD hS hA WX_fst (fun H locs hP hD hS => ?_)
    refine W.eq (g2 := F0 m 24 ls []) rfl ?_
    refine lv_aload_n hx hb dX7_undo_24 rfl (lv_at hl 0 rfl) ?_
    refine va_get (D := G.1) (v := .ref (a 14)) hx hb hts hin7 hown hK hP 0 (WX_0 G a (sRec c)) rfl 9 (by decide) hf71 (fun _ h => h) rfl dX7_undo_25 ?_
    refine va_get (D := G.1) (v := .int (nI (cKn (sRec c)))) hx hb hts hin3 hown hK hP 14 (WX_14 G a (sRec c)) rfl 2 (by decide) hf171 (fun _ h => h) rfl dX7_undo_28 ?_
    have hq : xUndo c = ((nI (cKn (sRec c))), sRec c) := by simp only [xUndo]; rw [if_neg (by omega)]
    exact wk_mret' hx hb hr hlocks dX7_undo_31 hP hS (congrArg (fun z => some (Value.int z.1)) hq) (congrArg (fun z => WX G a z.2) hq)
  · have c7 := nI_z (by omega) c7
    refine lv_bipush (v := -2) hx hb dX7_undo_10 (by decide) ?_
    have hq : xUndo c = ((-2), c) := by simp only [xUndo]; rw [if_pos c7]
    exact wk_mret' hx hb hr hlocks dX7_undo_12 hP hS (congrArg (fun z => some (Value.int z.1)) hq) (congrArg (fun z => WX G a z.2) hq)
theorem hdV_X7_record : yX7_record.cls = RX7 ∧ yX7_record.cls ≠ "java/lang/invoke/MethodHandle" ∧ yX7_record.cls ≠ "java/lang/invoke/VarHandle" ∧ (parseMethodDescriptor yX7_record.desc).map (fun d => d.parameters.length) = some 2 := by decide +kernel
set_option maxHeartbeats 600000 in
set_option maxRecDepth 100000 in
theorem c_X7_record (l : Launch) (G : GG) (a : Nat → Nat) (c : CX) (hc : OkR c) (b : Int32) (q : Int32) (sz : Nat) : Met l yX7_record wsX7_record ({ frames := 1, cells := 0, slots := 0, locals := 22 }) (va_Pc [.ref (a 0), .int b, .int q] (fun U => PreM G (WX G a c) sz U U.heap)) (Qm G.1 vwCl (some (.int (xRecord c b q).1)) (WX G a ((xRecord c b q).2)) (va_A (WX G a c) sz)) 0 0 (va_A (WX G a c) sz) := by
  refine Met.ofW (cc := cX7_record) (maxL := 3) (ret := (some .int)) (by decide) rfl ?_
  intro p e s m args below meth cd s₁ BB hml hv
  obtain ⟨rfl, ⟨hP, hK, hN⟩, hD0, hsz⟩ := hv
  have hx := BB.exec
  have hb := BB.bytes
  have hr := BB.returns
  have hts := atoms_spec (ws := wsX7_record) BB.pre
  have hown : s.vm.findClass RX7 = some m.cls := findClass_of_methodNamed BB.named
  have hlocks := BB.notSynchronized
  have hrc : 0 + 0 ≤ (headSpec wsX7_record ({ frames := 1, cells := 0, slots := 0, locals := 22 })).room.cells := Nat.le_refl _
  have hrs : 0 + 0 ≤ (headSpec wsX7_record ({ frames := 1, cells := 0, slots := 0, locals := 22 })).room.slots := Nat.le_refl _
  subst hsz
  have hD := hD0.self (sz := s.heap.size)
  generalize hAe : va_A (WX G a c) s.heap.size = A at hD ⊢
  have hA : ∀ q : Nat, s.heap.size ≤ q → A q := fun q h => by rw [← hAe]; exact Or.inr h
  have hS : va_S A s.heap s.heap [] := va_S.rf
  obtain ⟨hk7, ho1, ho5, hi6, hl200, hnx, hkn⟩ := id hc
  have hin1 : ∀ w ∈ u_ws RX1 TX1 4, w ∈ wsX7_record := by decide +kernel
  have hin7 : ∀ w ∈ u_ws RX7 TX7 13, w ∈ wsX7_record := by decide +kernel
  have hf64 := hts (.fieldLink RX7 64 "RegaliaVotes" "minutes" "LRegaliaVotes$Minutes;") (by decide +kernel)
  have hf228 := hts (.fieldLink RX7 228 "RegaliaVotes$Minutes" "lines" "I") (by decide +kernel)
  refine wk_enter (n := 3) (Nat.le_of_ble_eq_true rfl) (fun ls hl => ?_)
  have hl : lv_has ls 3 [(0, .ref (a 0)), (1, .int b), (2, .int q)] := hl
  refine lv_iload_n hx hb dX7_record_0 rfl (lv_at hl 1 rfl) ?_
  refine wk_read (va_runS (As := [.int b]) (rest := []) ⟨hx, hb, hml, hown, hts⟩ (c_X7_noBill l b) (va_cwS 1 hts gX7_record_X7_noBill rfl rfl rfl hdS_X7_noBill ⟨Nat.le_of_ble_eq_true rfl, Nat.le_of_ble_eq_true rfl⟩) preEq rfl rfl hl.1 rfl (lv_room (Nat.le_of_ble_eq_true rfl)) dX7_record_1 ⟨hrc, hrs⟩) ?_
  refine lv_if_ne (tgt := 16) hx hb dX7_record_4 (by decide) (fun c4 => ?_) (fun c4 => ?_)
  · have c4 := b2i_t c4
    refine lv_iconst (v := -1) hx hb dX7_record_16 (by decide) ?_
    have hq : xRecord c b q = ((-1), c) := by simp [xRecord, c4]
    exact wk_mret' hx hb hr hlocks dX7_record_17 hP hS (congrArg (fun z => some (Value.int z.1)) hq) (congrArg (fun z => WX G a z.2) hq)
  · have c4 := b2i_f c4
    refine lv_iload_n hx hb dX7_record_7 rfl (lv_at hl 2 rfl) ?_
    refine lv_if_lt (tgt := 16) hx hb dX7_record_8 (by decide) (fun c8 => ?_) (fun c8 => ?_)
    · refine lv_iconst (v := -1) hx hb dX7_record_16 (by decide) ?_
      have hq : xRecord c b q = ((-1), c) := by simp [xRecord, c4, c8]
      exact wk_mret' hx hb hr hlocks dX7_record_17 hP hS (congrArg (fun z => some (Value.int z.1)) hq) (congrArg (fun z => WX G a z.2) hq)
    · refine lv_iload_n hx hb dX7_record_11 rfl (lv_at hl 2 rfl) ?_
      refine lv_iconst (v := 1) hx hb dX7_record_12 (by decide) ?_
      refine lv_icmp_le (tgt := 18) hx hb dX7_record_13 (by decide) (fun c13 => ?_) (fun c13 => ?_)
      · refine lv_aload_n hx hb dX7_record_18 rfl (lv_at hl 0 rfl) ?_
        refine va_get (D := G.1) (v := .ref (a 11)) hx hb hts hin7 hown hK hP 0 (WX_0 G a c) rfl 8 (by decide) hf64 (fun _ h => h) rfl dX7_record_19 ?_
        refine va_get (D := G.1) (v := .int (nI (iL (cI c)))) hx hb hts hin1 hown hK hP 11 (WX_11 G a c) rfl 3 (by decide) hf228 (fun _ h => h) rfl dX7_record_22 ?_
        refine lv_bipush (v := 6) hx hb dX7_record_25 (by decide) ?_
        refine wk_lt (x := (iL (cI c))) (y := 6) (tgt := 33) hx hb (by omega) (by omega) dX7_record_27 (by decide) (fun c27 => ?_) (fun c27 => ?_)
        · refine lv_aload_n hx hb dX7_record_33 rfl (lv_at hl 0 rfl) ?_
          refine va_get (D := G.1) (v := .ref (a 11)) hx hb hts hin7 hown hK hP 0 (WX_0 G a c) rfl 8 (by decide) hf64 (fun _ h => h) rfl dX7_record_34 ?_
          refine lv_iload_n hx hb dX7_record_37 rfl (lv_at hl 1 rfl) ?_
          refine lv_iload_n hx hb dX7_record_38 rfl (lv_at hl 2 rfl) ?_
          refine lv_iconst (v := 1) hx hb dX7_record_39 (by decide) ?_
          refine lv_icmp_ne (tgt := 47) hx hb dX7_record_40 (by decide) (fun c40 => ?_) (fun c40 => ?_)
          · refine lv_iconst (v := 0) hx hb dX7_record_47 (by decide) ?_
            refine wk_callA (va_runV (As := [.int b, .int 0]) (rest := []) ⟨hx, hb, hml, hown, hts⟩ (c_X1_write l G a c hc b false s.heap.size) (cwV 2 hts gX7_record_X1_write rfl rfl rfl hdV_X1_write ⟨Nat.le_of_ble_eq_true rfl, Nat.le_of_ble_eq_true rfl⟩) ((PreM.mk hP hK hN hD).pre (ci := 1) (q0 := 11) rfl (WX_11 G a c)) rfl rfl hl.1 rfl (lv_room (Nat.le_of_ble_eq_true rfl)) dX7_record_48 ⟨hrc, hrs⟩) hD hS hA WX_fst (fun H locs hP hD hS => ?_)
            refine W.eq (g2 := F0 m 51 ls []) rfl ?_
            refine lv_aload_n hx hb dX7_record_51 rfl (lv_at hl 0 rfl) ?_
            refine va_get (D := G.1) (v := .ref (a 11)) hx hb hts hin7 hown hK hP 0 (WX_0 G a (sWrite c b false)) rfl 8 (by decide) hf64 (fun _ h => h) rfl dX7_record_52 ?_
            refine va_get (D := G.1) (v := .int (nI (iL (cI (sWrite c b false))))) hx hb hts hin1 hown hK hP 11 (WX_11 G a (sWrite c b false)) rfl 3 (by decide) hf228 (fun _ h => h) rfl dX7_record_55 ?_
            have hq : xRecord c b q = ((nI (iL (cI (sWrite c b false)))), sWrite c b false) := by simp only [xRecord, c4, c8, Int32.not_lt.mpr c13]; rw [if_neg (by simp), if_pos c27]; simp only [c40]; rfl
            exact wk_mret' hx hb hr hlocks dX7_record_58 hP hS (congrArg (fun z => some (Value.int z.1)) hq) (congrArg (fun z => WX G a z.2) hq)
          · refine lv_iconst (v := 1) hx hb dX7_record_43 (by decide) ?_
            refine lv_goto (tgt := 48) hx hb dX7_record_44 (by decide) ?_
            refine wk_callA (va_runV (As := [.int b, .int 1]) (rest := []) ⟨hx, hb, hml, hown, hts⟩ (c_X1_write l G a c hc b true s.heap.size) (cwV 2 hts gX7_record_X1_write rfl rfl rfl hdV_X1_write ⟨Nat.le_of_ble_eq_true rfl, Nat.le_of_ble_eq_true rfl⟩) ((PreM.mk hP hK hN hD).pre (ci := 1) (q0 := 11) rfl (WX_11 G a c)) rfl rfl hl.1 rfl (lv_room (Nat.le_of_ble_eq_true rfl)) dX7_record_48 ⟨hrc, hrs⟩) hD hS hA WX_fst (fun H locs hP hD hS => ?_)
            refine W.eq (g2 := F0 m 51 ls []) rfl ?_
            refine lv_aload_n hx hb dX7_record_51 rfl (lv_at hl 0 rfl) ?_
            refine va_get (D := G.1) (v := .ref (a 11)) hx hb hts hin7 hown hK hP 0 (WX_0 G a (sWrite c b true)) rfl 8 (by decide) hf64 (fun _ h => h) rfl dX7_record_52 ?_
            refine va_get (D := G.1) (v := .int (nI (iL (cI (sWrite c b true))))) hx hb hts hin1 hown hK hP 11 (WX_11 G a (sWrite c b true)) rfl 3 (by decide) hf228 (fun _ h => h) rfl dX7_record_55 ?_
            have hq : xRecord c b q = ((nI (iL (cI (sWrite c b true)))), sWrite c b true) := by simp only [xRecord, c4, c8, Int32.not_lt.mpr c13]; rw [if_neg (by simp), if_pos c27]; simp only [c40]; rfl
            exact wk_mret' hx hb hr hlocks dX7_record_58 hP hS (congrArg (fun z => some (Value.int z.1)) hq) (congrArg (fun z => WX G a z.2) hq)
        · refine lv_bipush (v := -3) hx hb dX7_record_30 (by decide) ?_
          have hq : xRecord c b q = ((-3), c) := by simp only [xRecord, c4, c8, Int32.not_lt.mpr c13]; rw [if_neg (by simp), if_neg (by omega)]
          exact wk_mret' hx hb hr hlocks dX7_record_32 hP hS (congrArg (fun z => some (Value.int z.1)) hq) (congrArg (fun z => WX G a z.2) hq)
      · refine lv_iconst (v := -1) hx hb dX7_record_16 (by decide) ?_
        have hq : xRecord c b q = ((-1), c) := by simp [xRecord, c4, c8, c13]
        exact wk_mret' hx hb hr hlocks dX7_record_17 hP hS (congrArg (fun z => some (Value.int z.1)) hq) (congrArg (fun z => WX G a z.2) hq)
theorem hdV_X7_forget : yX7_forget.cls = RX7 ∧ yX7_forget.cls ≠ "java/lang/invoke/MethodHandle" ∧ yX7_forget.cls ≠ "java/lang/invoke/VarHandle" ∧ (parseMethodDescriptor yX7_forget.desc).map (fun d => d.parameters.length) = some 0 := by decide +kernel
set_option maxHeartbeats 600000 in
set_option maxRecDepth 100000 in
theorem c_X7_forget (l : Launch) (G : GG) (a : Nat → Nat) (c : CX) (hc : OkR c) (sz : Nat) : Met l yX7_forget wsX7_forget ({ frames := 1, cells := 0, slots := 0, locals := 20 }) (va_Pc [.ref (a 0)] (fun U => PreM G (WX G a c) sz U U.heap)) (Qm G.1 vwCl (some (.int (xForget c).1)) (WX G a ((xForget c).2)) (va_A (WX G a c) sz)) 0 0 (va_A (WX G a c) sz) := by
  refine Met.ofW (cc := cX7_forget) (maxL := 2) (ret := (some .int)) (by decide) rfl ?_
  intro p e s m args below meth cd s₁ BB hml hv
  obtain ⟨rfl, ⟨hP, hK, hN⟩, hD0, hsz⟩ := hv
  have hx := BB.exec
  have hb := BB.bytes
  have hr := BB.returns
  have hts := atoms_spec (ws := wsX7_forget) BB.pre
  have hown : s.vm.findClass RX7 = some m.cls := findClass_of_methodNamed BB.named
  have hlocks := BB.notSynchronized
  have hrc : 0 + 0 ≤ (headSpec wsX7_forget ({ frames := 1, cells := 0, slots := 0, locals := 20 })).room.cells := Nat.le_refl _
  have hrs : 0 + 0 ≤ (headSpec wsX7_forget ({ frames := 1, cells := 0, slots := 0, locals := 20 })).room.slots := Nat.le_refl _
  subst hsz
  have hD := hD0.self (sz := s.heap.size)
  generalize hAe : va_A (WX G a c) s.heap.size = A at hD ⊢
  have hA : ∀ q : Nat, s.heap.size ≤ q → A q := fun q h => by rw [← hAe]; exact Or.inr h
  have hS : va_S A s.heap s.heap [] := va_S.rf
  obtain ⟨hk7, ho1, ho5, hi6, hl200, hnx, hkn⟩ := id hc
  have hin1 : ∀ w ∈ u_ws RX1 TX1 4, w ∈ wsX7_forget := by decide +kernel
  have hin7 : ∀ w ∈ u_ws RX7 TX7 13, w ∈ wsX7_forget := by decide +kernel
  have hf64 := hts (.fieldLink RX7 64 "RegaliaVotes" "minutes" "LRegaliaVotes$Minutes;") (by decide +kernel)
  have hf228 := hts (.fieldLink RX7 228 "RegaliaVotes$Minutes" "lines" "I") (by decide +kernel)
  refine wk_enter (n := 2) (Nat.le_of_ble_eq_true rfl) (fun ls hl => ?_)
  have hl : lv_has ls 2 [(0, .ref (a 0))] := hl
  refine lv_aload_n hx hb dX7_forget_0 rfl (lv_at hl 0 rfl) ?_
  refine va_get (D := G.1) (v := .ref (a 11)) hx hb hts hin7 hown hK hP 0 (WX_0 G a c) rfl 8 (by decide) hf64 (fun _ h => h) rfl dX7_forget_1 ?_
  refine va_get (D := G.1) (v := .int (nI (iL (cI c)))) hx hb hts hin1 hown hK hP 11 (WX_11 G a c) rfl 3 (by decide) hf228 (fun _ h => h) rfl dX7_forget_4 ?_
  refine lv_istore_n (lv' := [(1, .int (nI (iL (cI c)))), (0, .ref (a 0))]) hx hb dX7_forget_7 rfl hl (by decide) rfl (fun ls hl => ?_)
  refine lv_aload_n hx hb dX7_forget_8 rfl (lv_at hl 1 rfl) ?_
  refine va_get (D := G.1) (v := .ref (a 11)) hx hb hts hin7 hown hK hP 0 (WX_0 G a c) rfl 8 (by decide) hf64 (fun _ h => h) rfl dX7_forget_9 ?_
  refine wk_callA (va_runV (As := []) (rest := []) ⟨hx, hb, hml, hown, hts⟩ (c_X1_tearUp l G a c hc s.heap.size) (cwV 0 hts gX7_forget_X1_tearUp rfl rfl rfl hdV_X1_tearUp ⟨Nat.le_of_ble_eq_true rfl, Nat.le_of_ble_eq_true rfl⟩) ((PreM.mk hP hK hN hD).pre (ci := 1) (q0 := 11) rfl (WX_11 G a c)) rfl rfl hl.1 rfl (lv_room (Nat.le_of_ble_eq_true rfl)) dX7_forget_12 ⟨hrc, hrs⟩) hD hS hA WX_fst (fun H locs hP hD hS => ?_)
  refine W.eq (g2 := F0 m 15 ls []) rfl ?_
  refine lv_iload_n hx hb dX7_forget_15 rfl (lv_at hl 0 rfl) ?_
  have hq : xForget c = ((nI (iL (cI c))), sTear c) := rfl
  exact wk_mret' hx hb hr hlocks dX7_forget_16 hP hS (congrArg (fun z => some (Value.int z.1)) hq) (congrArg (fun z => WX G a z.2) hq)
theorem hdV_X7_asThing : yX7_asThing.cls = RX7 ∧ yX7_asThing.cls ≠ "java/lang/invoke/MethodHandle" ∧ yX7_asThing.cls ≠ "java/lang/invoke/VarHandle" ∧ (parseMethodDescriptor yX7_asThing.desc).map (fun d => d.parameters.length) = some 1 := by decide +kernel
set_option maxHeartbeats 600000 in
set_option maxRecDepth 100000 in
theorem c_X7_asThing (l : Launch) (G : GG) (a : Nat → Nat) (c : CX) (hc : OkR c) (j : Nat) (hj : j < kT (cK c)) (sz : Nat) : Met l yX7_asThing wsX7_asThing ({ frames := 0, cells := 0, slots := 0, locals := 0 }) (va_Pc [.ref (a 0), .int (nI j)] (fun U => PreM G (WX G a c) sz U U.heap)) (Qm G.1 vwCl (some (.int (kV (cK c) j))) (WX G a (aThing c)) (va_A (WX G a c) sz)) 0 0 (va_A (WX G a c) sz) := by
  refine Met.ofW (cc := cX7_asThing) (maxL := 2) (ret := (some .int)) (by decide) rfl ?_
  intro p e s m args below meth cd s₁ BB hml hv
  obtain ⟨rfl, ⟨hP, hK, hN⟩, hD0, hsz⟩ := hv
  have hx := BB.exec
  have hb := BB.bytes
  have hr := BB.returns
  have hts := atoms_spec (ws := wsX7_asThing) BB.pre
  have hown : s.vm.findClass RX7 = some m.cls := findClass_of_methodNamed BB.named
  have hlocks := BB.notSynchronized
  have hrc : 0 + 0 ≤ (headSpec wsX7_asThing ({ frames := 0, cells := 0, slots := 0, locals := 0 })).room.cells := Nat.le_refl _
  have hrs : 0 + 0 ≤ (headSpec wsX7_asThing ({ frames := 0, cells := 0, slots := 0, locals := 0 })).room.slots := Nat.le_refl _
  subst hsz
  have hD := hD0.self (sz := s.heap.size)
  generalize hAe : va_A (WX G a c) s.heap.size = A at hD ⊢
  have hA : ∀ q : Nat, s.heap.size ≤ q → A q := fun q h => by rw [← hAe]; exact Or.inr h
  have hS : va_S A s.heap s.heap [] := va_S.rf
  obtain ⟨hk7, ho1, ho5, hi6, hl200, hnx, hkn⟩ := id hc
  have hin0 : ∀ w ∈ u_ws RX0 TX0 7, w ∈ wsX7_asThing := by decide +kernel
  have hin7 : ∀ w ∈ u_ws RX7 TX7 13, w ∈ wsX7_asThing := by decide +kernel
  have hf20 := hts (.fieldLink RX7 20 "RegaliaVotes" "told" "LRegaliaVotes$Council;") (by decide +kernel)
  have hf82 := hts (.fieldLink RX7 82 "RegaliaVotes" "traced" "J") (by decide +kernel)
  have hf111 := hts (.fieldLink RX7 111 "RegaliaVotes$Council" "votes" "[I") (by decide +kernel)
  refine wk_enter (n := 2) (Nat.le_of_ble_eq_true rfl) (fun ls hl => ?_)
  have hl : lv_has ls 2 [(0, .ref (a 0)), (1, .int (nI j))] := hl
  refine lv_aload_n hx hb dX7_asThing_0 rfl (lv_at hl 0 rfl) ?_
  refine lv_dup hx hb dX7_asThing_1 rfl ?_
  refine va_get (D := G.1) (v := .long (cTr c)) hx hb hts hin7 hown hK hP 0 (WX_0 G a c) rfl 12 (by decide) hf82 (fun _ h => h) rfl dX7_asThing_2 ?_
  refine lv_lconst (v := 1) hx hb dX7_asThing_5 (by decide) ?_
  refine lv_ladd hx hb dX7_asThing_6 ?_
  refine va_put (D := G.1) (v := .long ((cTr c) + 1)) (ty := .long) hx hb hts hin7 tyX7 tyX7_ok nmX7 hown hK hP hD hS 0 (WX_0 G a c) rfl 12 (by decide) hf82 (fun _ h => h) rfl (by decide +kernel) rfl rfl (Nat.le_of_ble_eq_true rfl) dX7_asThing_7 (fun H locs hP hD hS => ?_)
  rw [WX_p0_12] at hP hD
  refine lv_aload_n hx hb dX7_asThing_10 rfl (lv_at hl 0 rfl) ?_
  refine va_get (D := G.1) (v := .ref (a 1)) hx hb hts hin7 hown hK hP 0 (WX_0 G a (setTr c ((cTr c) + 1))) rfl 2 (by decide) hf20 (fun _ h => h) rfl dX7_asThing_11 ?_
  refine va_get (D := G.1) (v := .ref (a 3)) hx hb hts hin0 hown hK hP 1 (WX_1 G a (setTr c ((cTr c) + 1))) rfl 4 (by decide) hf111 (fun _ h => h) rfl dX7_asThing_14 ?_
  refine lv_iload_n hx hb dX7_asThing_17 rfl (lv_at hl 1 rfl) ?_
  refine wk_iald (i := j) hx hb hK hP 3 1 (WX_3 G a (setTr c ((cTr c) + 1))) rfl (by omega) (Nat.le_of_ble_eq_true rfl) dX7_asThing_18 ?_
  exact wk_mret' hx hb hr hlocks dX7_asThing_19 hP hS (rfl) (rfl)
theorem hdV_X7_asSceptre : yX7_asSceptre.cls = RX7 ∧ yX7_asSceptre.cls ≠ "java/lang/invoke/MethodHandle" ∧ yX7_asSceptre.cls ≠ "java/lang/invoke/VarHandle" ∧ (parseMethodDescriptor yX7_asSceptre.desc).map (fun d => d.parameters.length) = some 1 := by decide +kernel
set_option maxHeartbeats 600000 in
set_option maxRecDepth 100000 in
theorem c_X7_asSceptre (l : Launch) (G : GG) (a : Nat → Nat) (c : CX) (hc : OkR c) (j : Nat) (hj : j < kT (cK c)) (sz : Nat) : Met l yX7_asSceptre wsX7_asSceptre ({ frames := 1, cells := 0, slots := 0, locals := 21 }) (va_Pc [.ref (a 0), .int (nI j)] (fun U => PreM G (WX G a c) sz U U.heap)) (Qm G.1 vwCl (some (.int (kV (cK c) j + pPop (kB (cK c) j)))) (WX G a (aScep c)) (va_A (WX G a c) sz)) 0 0 (va_A (WX G a c) sz) := by
  refine Met.ofW (cc := cX7_asSceptre) (maxL := 2) (ret := (some .int)) (by decide) rfl ?_
  intro p e s m args below meth cd s₁ BB hml hv
  obtain ⟨rfl, ⟨hP, hK, hN⟩, hD0, hsz⟩ := hv
  have hx := BB.exec
  have hb := BB.bytes
  have hr := BB.returns
  have hts := atoms_spec (ws := wsX7_asSceptre) BB.pre
  have hown : s.vm.findClass RX7 = some m.cls := findClass_of_methodNamed BB.named
  have hlocks := BB.notSynchronized
  have hrc : 0 + 0 ≤ (headSpec wsX7_asSceptre ({ frames := 1, cells := 0, slots := 0, locals := 21 })).room.cells := Nat.le_refl _
  have hrs : 0 + 0 ≤ (headSpec wsX7_asSceptre ({ frames := 1, cells := 0, slots := 0, locals := 21 })).room.slots := Nat.le_refl _
  subst hsz
  have hD := hD0.self (sz := s.heap.size)
  generalize hAe : va_A (WX G a c) s.heap.size = A at hD ⊢
  have hA : ∀ q : Nat, s.heap.size ≤ q → A q := fun q h => by rw [← hAe]; exact Or.inr h
  have hS : va_S A s.heap s.heap [] := va_S.rf
  obtain ⟨hk7, ho1, ho5, hi6, hl200, hnx, hkn⟩ := id hc
  have hin0 : ∀ w ∈ u_ws RX0 TX0 7, w ∈ wsX7_asSceptre := by decide +kernel
  have hin7 : ∀ w ∈ u_ws RX7 TX7 13, w ∈ wsX7_asSceptre := by decide +kernel
  have hf20 := hts (.fieldLink RX7 20 "RegaliaVotes" "told" "LRegaliaVotes$Council;") (by decide +kernel)
  have hf82 := hts (.fieldLink RX7 82 "RegaliaVotes" "traced" "J") (by decide +kernel)
  have hf114 := hts (.fieldLink RX7 114 "RegaliaVotes$Council" "forBills" "[I") (by decide +kernel)
  refine wk_enter (n := 2) (Nat.le_of_ble_eq_true rfl) (fun ls hl => ?_)
  have hl : lv_has ls 2 [(0, .ref (a 0)), (1, .int (nI j))] := hl
  refine lv_aload_n hx hb dX7_asSceptre_0 rfl (lv_at hl 0 rfl) ?_
  refine lv_dup hx hb dX7_asSceptre_1 rfl ?_
  refine va_get (D := G.1) (v := .long (cTr c)) hx hb hts hin7 hown hK hP 0 (WX_0 G a c) rfl 12 (by decide) hf82 (fun _ h => h) rfl dX7_asSceptre_2 ?_
  refine lv_ldc2 (v := 10) hx hb hown (hts (.constantLong RX7 280 (10)) (by decide +kernel)) dX7_asSceptre_5 ?_
  refine lv_ladd hx hb dX7_asSceptre_8 ?_
  refine va_put (D := G.1) (v := .long ((cTr c) + 10)) (ty := .long) hx hb hts hin7 tyX7 tyX7_ok nmX7 hown hK hP hD hS 0 (WX_0 G a c) rfl 12 (by decide) hf82 (fun _ h => h) rfl (by decide +kernel) rfl rfl (Nat.le_of_ble_eq_true rfl) dX7_asSceptre_9 (fun H locs hP hD hS => ?_)
  rw [WX_p0_12] at hP hD
  refine lv_aload_n hx hb dX7_asSceptre_12 rfl (lv_at hl 0 rfl) ?_
  refine lv_iload_n hx hb dX7_asSceptre_13 rfl (lv_at hl 1 rfl) ?_
  refine wk_callA (va_runV (As := [.int (nI j)]) (rest := []) ⟨hx, hb, hml, hown, hts⟩ (c_X7_asThing l G a (setTr c ((cTr c) + 10)) (okR_setTr hc) j (ltT_tr hj) H.size) (cwV 1 hts gX7_asSceptre_X7_asThing rfl rfl rfl hdV_X7_asThing ⟨Nat.le_of_ble_eq_true rfl, Nat.le_of_ble_eq_true rfl⟩) ((PreM.mk hP hK hN hD).pre (ci := 7) (q0 := 0) rfl (WX_0 G a (setTr c ((cTr c) + 10)))) rfl rfl hl.1 rfl (lv_room (Nat.le_of_ble_eq_true rfl)) dX7_asSceptre_14 ⟨hrc, hrs⟩) hD hS hA WX_fst (fun H locs hP hD hS => ?_)
  refine W.eq (g2 := F0 m 17 ls [.int (kV (cK (setTr c ((cTr c) + 10))) j)]) rfl ?_
  refine lv_aload_n hx hb dX7_asSceptre_17 rfl (lv_at hl 0 rfl) ?_
  refine va_get (D := G.1) (v := .ref (a 1)) hx hb hts hin7 hown hK hP 0 (WX_0 G a (aThing (setTr c ((cTr c) + 10)))) rfl 2 (by decide) hf20 (fun _ h => h) rfl dX7_asSceptre_18 ?_
  refine va_get (D := G.1) (v := .ref (a 4)) hx hb hts hin0 hown hK hP 1 (WX_1 G a (aThing (setTr c ((cTr c) + 10)))) rfl 5 (by decide) hf114 (fun _ h => h) rfl dX7_asSceptre_21 ?_
  refine lv_iload_n hx hb dX7_asSceptre_24 rfl (lv_at hl 1 rfl) ?_
  refine wk_iald (i := j) hx hb hK hP 4 1 (WX_4 G a (aThing (setTr c ((cTr c) + 10)))) rfl (by omega) (Nat.le_of_ble_eq_true rfl) dX7_asSceptre_25 ?_
  refine wk_read (va_runS (As := [.int (kB (cK c) j)]) (rest := [.int (kV (cK (setTr c ((cTr c) + 10))) j)]) ⟨hx, hb, hml, hown, hts⟩ (c_J6_bitCount_0f7a4 l (kB (cK c) j)) (va_cwS 1 hts gX7_asSceptre_J6_bitCount_0f7a4 rfl rfl rfl hdS_J6_bitCount_0f7a4 ⟨Nat.le_of_ble_eq_true rfl, Nat.le_of_ble_eq_true rfl⟩) preEq rfl rfl hl.1 rfl (lv_room (Nat.le_of_ble_eq_true rfl)) dX7_asSceptre_26 ⟨hrc, hrs⟩) ?_
  refine lv_iadd hx hb dX7_asSceptre_29 ?_
  exact wk_mret' hx hb hr hlocks dX7_asSceptre_30 hP hS (rfl) (rfl)
theorem hdV_X7_asOrb : yX7_asOrb.cls = RX7 ∧ yX7_asOrb.cls ≠ "java/lang/invoke/MethodHandle" ∧ yX7_asOrb.cls ≠ "java/lang/invoke/VarHandle" ∧ (parseMethodDescriptor yX7_asOrb.desc).map (fun d => d.parameters.length) = some 1 := by decide +kernel
set_option maxHeartbeats 600000 in
set_option maxRecDepth 100000 in
theorem c_X7_asOrb (l : Launch) (G : GG) (a : Nat → Nat) (c : CX) (hc : OkR c) (j : Nat) (hj : j < kT (cK c)) (sz : Nat) : Met l yX7_asOrb wsX7_asOrb ({ frames := 1, cells := 0, slots := 0, locals := 21 }) (va_Pc [.ref (a 0), .int (nI j)] (fun U => PreM G (WX G a c) sz U U.heap)) (Qm G.1 vwCl (some (.int (kV (cK c) j - mW (cM c) j))) (WX G a (aOrb c)) (va_A (WX G a c) sz)) 0 0 (va_A (WX G a c) sz) := by
  refine Met.ofW (cc := cX7_asOrb) (maxL := 2) (ret := (some .int)) (by decide) rfl ?_
  intro p e s m args below meth cd s₁ BB hml hv
  obtain ⟨rfl, ⟨hP, hK, hN⟩, hD0, hsz⟩ := hv
  have hx := BB.exec
  have hb := BB.bytes
  have hr := BB.returns
  have hts := atoms_spec (ws := wsX7_asOrb) BB.pre
  have hown : s.vm.findClass RX7 = some m.cls := findClass_of_methodNamed BB.named
  have hlocks := BB.notSynchronized
  have hrc : 0 + 0 ≤ (headSpec wsX7_asOrb ({ frames := 1, cells := 0, slots := 0, locals := 21 })).room.cells := Nat.le_refl _
  have hrs : 0 + 0 ≤ (headSpec wsX7_asOrb ({ frames := 1, cells := 0, slots := 0, locals := 21 })).room.slots := Nat.le_refl _
  subst hsz
  have hD := hD0.self (sz := s.heap.size)
  generalize hAe : va_A (WX G a c) s.heap.size = A at hD ⊢
  have hA : ∀ q : Nat, s.heap.size ≤ q → A q := fun q h => by rw [← hAe]; exact Or.inr h
  have hS : va_S A s.heap s.heap [] := va_S.rf
  obtain ⟨hk7, ho1, ho5, hi6, hl200, hnx, hkn⟩ := id hc
  have hin2 : ∀ w ∈ u_ws RX2 TX2 7, w ∈ wsX7_asOrb := by decide +kernel
  have hin7 : ∀ w ∈ u_ws RX7 TX7 13, w ∈ wsX7_asOrb := by decide +kernel
  have hf39 := hts (.fieldLink RX7 39 "RegaliaVotes" "moment" "LRegaliaVotes$Moment;") (by decide +kernel)
  have hf82 := hts (.fieldLink RX7 82 "RegaliaVotes" "traced" "J") (by decide +kernel)
  have hf130 := hts (.fieldLink RX7 130 "RegaliaVotes$Moment" "warmth" "[I") (by decide +kernel)
  refine wk_enter (n := 2) (Nat.le_of_ble_eq_true rfl) (fun ls hl => ?_)
  have hl : lv_has ls 2 [(0, .ref (a 0)), (1, .int (nI j))] := hl
  refine lv_aload_n hx hb dX7_asOrb_0 rfl (lv_at hl 0 rfl) ?_
  refine lv_dup hx hb dX7_asOrb_1 rfl ?_
  refine va_get (D := G.1) (v := .long (cTr c)) hx hb hts hin7 hown hK hP 0 (WX_0 G a c) rfl 12 (by decide) hf82 (fun _ h => h) rfl dX7_asOrb_2 ?_
  refine lv_ldc2 (v := 100) hx hb hown (hts (.constantLong RX7 282 (100)) (by decide +kernel)) dX7_asOrb_5 ?_
  refine lv_ladd hx hb dX7_asOrb_8 ?_
  refine va_put (D := G.1) (v := .long ((cTr c) + 100)) (ty := .long) hx hb hts hin7 tyX7 tyX7_ok nmX7 hown hK hP hD hS 0 (WX_0 G a c) rfl 12 (by decide) hf82 (fun _ h => h) rfl (by decide +kernel) rfl rfl (Nat.le_of_ble_eq_true rfl) dX7_asOrb_9 (fun H locs hP hD hS => ?_)
  rw [WX_p0_12] at hP hD
  refine lv_aload_n hx hb dX7_asOrb_12 rfl (lv_at hl 0 rfl) ?_
  refine lv_iload_n hx hb dX7_asOrb_13 rfl (lv_at hl 1 rfl) ?_
  refine wk_callA (va_runV (As := [.int (nI j)]) (rest := []) ⟨hx, hb, hml, hown, hts⟩ (c_X7_asThing l G a (setTr c ((cTr c) + 100)) (okR_setTr hc) j (ltT_tr hj) H.size) (cwV 1 hts gX7_asOrb_X7_asThing rfl rfl rfl hdV_X7_asThing ⟨Nat.le_of_ble_eq_true rfl, Nat.le_of_ble_eq_true rfl⟩) ((PreM.mk hP hK hN hD).pre (ci := 7) (q0 := 0) rfl (WX_0 G a (setTr c ((cTr c) + 100)))) rfl rfl hl.1 rfl (lv_room (Nat.le_of_ble_eq_true rfl)) dX7_asOrb_14 ⟨hrc, hrs⟩) hD hS hA WX_fst (fun H locs hP hD hS => ?_)
  refine W.eq (g2 := F0 m 17 ls [.int (kV (cK (setTr c ((cTr c) + 100))) j)]) rfl ?_
  refine lv_aload_n hx hb dX7_asOrb_17 rfl (lv_at hl 0 rfl) ?_
  refine va_get (D := G.1) (v := .ref (a 6)) hx hb hts hin7 hown hK hP 0 (WX_0 G a (aThing (setTr c ((cTr c) + 100)))) rfl 5 (by decide) hf39 (fun _ h => h) rfl dX7_asOrb_18 ?_
  refine va_get (D := G.1) (v := .ref (a 8)) hx hb hts hin2 hown hK hP 6 (WX_6 G a (aThing (setTr c ((cTr c) + 100)))) rfl 1 (by decide) hf130 (fun _ h => h) rfl dX7_asOrb_21 ?_
  refine lv_iload_n hx hb dX7_asOrb_24 rfl (lv_at hl 1 rfl) ?_
  refine wk_iald (i := j) hx hb hK hP 8 1 (WX_8 G a (aThing (setTr c ((cTr c) + 100)))) rfl (by omega) (Nat.le_of_ble_eq_true rfl) dX7_asOrb_25 ?_
  refine lv_isub hx hb dX7_asOrb_26 ?_
  exact wk_mret' hx hb hr hlocks dX7_asOrb_27 hP hS (rfl) (rfl)
theorem hdV_X7_asRing : yX7_asRing.cls = RX7 ∧ yX7_asRing.cls ≠ "java/lang/invoke/MethodHandle" ∧ yX7_asRing.cls ≠ "java/lang/invoke/VarHandle" ∧ (parseMethodDescriptor yX7_asRing.desc).map (fun d => d.parameters.length) = some 1 := by decide +kernel
set_option maxHeartbeats 600000 in
set_option maxRecDepth 100000 in
theorem c_X7_asRing (l : Launch) (G : GG) (a : Nat → Nat) (c : CX) (hc : OkR c) (j : Nat) (hj : j < kT (cK c)) (sz : Nat) : Met l yX7_asRing wsX7_asRing ({ frames := 2, cells := 0, slots := 0, locals := 42 }) (va_Pc [.ref (a 0), .int (nI j)] (fun U => PreM G (WX G a c) sz U U.heap)) (Qm G.1 vwCl (some (.int (2 * (kV (cK c) j + pPop (kB (cK c) j))))) (WX G a (aRing c)) (va_A (WX G a c) sz)) 0 0 (va_A (WX G a c) sz) := by
  refine Met.ofW (cc := cX7_asRing) (maxL := 2) (ret := (some .int)) (by decide) rfl ?_
  intro p e s m args below meth cd s₁ BB hml hv
  obtain ⟨rfl, ⟨hP, hK, hN⟩, hD0, hsz⟩ := hv
  have hx := BB.exec
  have hb := BB.bytes
  have hr := BB.returns
  have hts := atoms_spec (ws := wsX7_asRing) BB.pre
  have hown : s.vm.findClass RX7 = some m.cls := findClass_of_methodNamed BB.named
  have hlocks := BB.notSynchronized
  have hrc : 0 + 0 ≤ (headSpec wsX7_asRing ({ frames := 2, cells := 0, slots := 0, locals := 42 })).room.cells := Nat.le_refl _
  have hrs : 0 + 0 ≤ (headSpec wsX7_asRing ({ frames := 2, cells := 0, slots := 0, locals := 42 })).room.slots := Nat.le_refl _
  subst hsz
  have hD := hD0.self (sz := s.heap.size)
  generalize hAe : va_A (WX G a c) s.heap.size = A at hD ⊢
  have hA : ∀ q : Nat, s.heap.size ≤ q → A q := fun q h => by rw [← hAe]; exact Or.inr h
  have hS : va_S A s.heap s.heap [] := va_S.rf
  obtain ⟨hk7, ho1, ho5, hi6, hl200, hnx, hkn⟩ := id hc
  have hin7 : ∀ w ∈ u_ws RX7 TX7 13, w ∈ wsX7_asRing := by decide +kernel
  have hf82 := hts (.fieldLink RX7 82 "RegaliaVotes" "traced" "J") (by decide +kernel)
  refine wk_enter (n := 2) (Nat.le_of_ble_eq_true rfl) (fun ls hl => ?_)
  have hl : lv_has ls 2 [(0, .ref (a 0)), (1, .int (nI j))] := hl
  refine lv_aload_n hx hb dX7_asRing_0 rfl (lv_at hl 0 rfl) ?_
  refine lv_dup hx hb dX7_asRing_1 rfl ?_
  refine va_get (D := G.1) (v := .long (cTr c)) hx hb hts hin7 hown hK hP 0 (WX_0 G a c) rfl 12 (by decide) hf82 (fun _ h => h) rfl dX7_asRing_2 ?_
  refine lv_ldc2 (v := 1000) hx hb hown (hts (.constantLong RX7 284 (1000)) (by decide +kernel)) dX7_asRing_5 ?_
  refine lv_ladd hx hb dX7_asRing_8 ?_
  refine va_put (D := G.1) (v := .long ((cTr c) + 1000)) (ty := .long) hx hb hts hin7 tyX7 tyX7_ok nmX7 hown hK hP hD hS 0 (WX_0 G a c) rfl 12 (by decide) hf82 (fun _ h => h) rfl (by decide +kernel) rfl rfl (Nat.le_of_ble_eq_true rfl) dX7_asRing_9 (fun H locs hP hD hS => ?_)
  rw [WX_p0_12] at hP hD
  refine lv_iconst (v := 2) hx hb dX7_asRing_12 (by decide) ?_
  refine lv_aload_n hx hb dX7_asRing_13 rfl (lv_at hl 0 rfl) ?_
  refine lv_iload_n hx hb dX7_asRing_14 rfl (lv_at hl 1 rfl) ?_
  refine wk_callA (va_runV (As := [.int (nI j)]) (rest := [.int 2]) ⟨hx, hb, hml, hown, hts⟩ (c_X7_asSceptre l G a (setTr c ((cTr c) + 1000)) (okR_setTr hc) j (ltT_tr hj) H.size) (cwV 1 hts gX7_asRing_X7_asSceptre rfl rfl rfl hdV_X7_asSceptre ⟨Nat.le_of_ble_eq_true rfl, Nat.le_of_ble_eq_true rfl⟩) ((PreM.mk hP hK hN hD).pre (ci := 7) (q0 := 0) rfl (WX_0 G a (setTr c ((cTr c) + 1000)))) rfl rfl hl.1 rfl (lv_room (Nat.le_of_ble_eq_true rfl)) dX7_asRing_15 ⟨hrc, hrs⟩) hD hS hA WX_fst (fun H locs hP hD hS => ?_)
  refine W.eq (g2 := F0 m 18 ls [.int (kV (cK (setTr c ((cTr c) + 1000))) j + pPop (kB (cK (setTr c ((cTr c) + 1000))) j)), .int 2]) rfl ?_
  refine lv_imul hx hb dX7_asRing_18 ?_
  exact wk_mret' hx hb hr hlocks dX7_asRing_19 hP hS (rfl) (rfl)
theorem hdV_X7_asSeal : yX7_asSeal.cls = RX7 ∧ yX7_asSeal.cls ≠ "java/lang/invoke/MethodHandle" ∧ yX7_asSeal.cls ≠ "java/lang/invoke/VarHandle" ∧ (parseMethodDescriptor yX7_asSeal.desc).map (fun d => d.parameters.length) = some 1 := by decide +kernel
set_option maxHeartbeats 600000 in
set_option maxRecDepth 100000 in
theorem c_X7_asSeal (l : Launch) (G : GG) (a : Nat → Nat) (c : CX) (hc : OkR c) (j : Nat) (hj : j < kT (cK c)) (sz : Nat) : Met l yX7_asSeal wsX7_asSeal ({ frames := 2, cells := 0, slots := 0, locals := 42 }) (va_Pc [.ref (a 0), .int (nI j)] (fun U => PreM G (WX G a c) sz U U.heap)) (Qm G.1 vwCl (some (.int (kV (cK c) j - mW (cM c) j + nI j))) (WX G a (aSeal c)) (va_A (WX G a c) sz)) 0 0 (va_A (WX G a c) sz) := by
  refine Met.ofW (cc := cX7_asSeal) (maxL := 2) (ret := (some .int)) (by decide) rfl ?_
  intro p e s m args below meth cd s₁ BB hml hv
  obtain ⟨rfl, ⟨hP, hK, hN⟩, hD0, hsz⟩ := hv
  have hx := BB.exec
  have hb := BB.bytes
  have hr := BB.returns
  have hts := atoms_spec (ws := wsX7_asSeal) BB.pre
  have hown : s.vm.findClass RX7 = some m.cls := findClass_of_methodNamed BB.named
  have hlocks := BB.notSynchronized
  have hrc : 0 + 0 ≤ (headSpec wsX7_asSeal ({ frames := 2, cells := 0, slots := 0, locals := 42 })).room.cells := Nat.le_refl _
  have hrs : 0 + 0 ≤ (headSpec wsX7_asSeal ({ frames := 2, cells := 0, slots := 0, locals := 42 })).room.slots := Nat.le_refl _
  subst hsz
  have hD := hD0.self (sz := s.heap.size)
  generalize hAe : va_A (WX G a c) s.heap.size = A at hD ⊢
  have hA : ∀ q : Nat, s.heap.size ≤ q → A q := fun q h => by rw [← hAe]; exact Or.inr h
  have hS : va_S A s.heap s.heap [] := va_S.rf
  obtain ⟨hk7, ho1, ho5, hi6, hl200, hnx, hkn⟩ := id hc
  have hin7 : ∀ w ∈ u_ws RX7 TX7 13, w ∈ wsX7_asSeal := by decide +kernel
  have hf82 := hts (.fieldLink RX7 82 "RegaliaVotes" "traced" "J") (by decide +kernel)
  refine wk_enter (n := 2) (Nat.le_of_ble_eq_true rfl) (fun ls hl => ?_)
  have hl : lv_has ls 2 [(0, .ref (a 0)), (1, .int (nI j))] := hl
  refine lv_aload_n hx hb dX7_asSeal_0 rfl (lv_at hl 0 rfl) ?_
  refine lv_dup hx hb dX7_asSeal_1 rfl ?_
  refine va_get (D := G.1) (v := .long (cTr c)) hx hb hts hin7 hown hK hP 0 (WX_0 G a c) rfl 12 (by decide) hf82 (fun _ h => h) rfl dX7_asSeal_2 ?_
  refine lv_ldc2 (v := 10000) hx hb hown (hts (.constantLong RX7 286 (10000)) (by decide +kernel)) dX7_asSeal_5 ?_
  refine lv_ladd hx hb dX7_asSeal_8 ?_
  refine va_put (D := G.1) (v := .long ((cTr c) + 10000)) (ty := .long) hx hb hts hin7 tyX7 tyX7_ok nmX7 hown hK hP hD hS 0 (WX_0 G a c) rfl 12 (by decide) hf82 (fun _ h => h) rfl (by decide +kernel) rfl rfl (Nat.le_of_ble_eq_true rfl) dX7_asSeal_9 (fun H locs hP hD hS => ?_)
  rw [WX_p0_12] at hP hD
  refine lv_aload_n hx hb dX7_asSeal_12 rfl (lv_at hl 0 rfl) ?_
  refine lv_iload_n hx hb dX7_asSeal_13 rfl (lv_at hl 1 rfl) ?_
  refine wk_callA (va_runV (As := [.int (nI j)]) (rest := []) ⟨hx, hb, hml, hown, hts⟩ (c_X7_asOrb l G a (setTr c ((cTr c) + 10000)) (okR_setTr hc) j (ltT_tr hj) H.size) (cwV 1 hts gX7_asSeal_X7_asOrb rfl rfl rfl hdV_X7_asOrb ⟨Nat.le_of_ble_eq_true rfl, Nat.le_of_ble_eq_true rfl⟩) ((PreM.mk hP hK hN hD).pre (ci := 7) (q0 := 0) rfl (WX_0 G a (setTr c ((cTr c) + 10000)))) rfl rfl hl.1 rfl (lv_room (Nat.le_of_ble_eq_true rfl)) dX7_asSeal_14 ⟨hrc, hrs⟩) hD hS hA WX_fst (fun H locs hP hD hS => ?_)
  refine W.eq (g2 := F0 m 17 ls [.int (kV (cK (setTr c ((cTr c) + 10000))) j - mW (cM (setTr c ((cTr c) + 10000))) j)]) rfl ?_
  refine lv_iload_n hx hb dX7_asSeal_17 rfl (lv_at hl 1 rfl) ?_
  refine lv_iadd hx hb dX7_asSeal_18 ?_
  exact wk_mret' hx hb hr hlocks dX7_asSeal_19 hP hS (rfl) (rfl)
theorem hdV_X7_asSpoon : yX7_asSpoon.cls = RX7 ∧ yX7_asSpoon.cls ≠ "java/lang/invoke/MethodHandle" ∧ yX7_asSpoon.cls ≠ "java/lang/invoke/VarHandle" ∧ (parseMethodDescriptor yX7_asSpoon.desc).map (fun d => d.parameters.length) = some 1 := by decide +kernel
set_option maxHeartbeats 600000 in
set_option maxRecDepth 100000 in
theorem c_X7_asSpoon (l : Launch) (G : GG) (a : Nat → Nat) (c : CX) (hc : OkR c) (j : Nat) (hj : j < kT (cK c)) (sz : Nat) : Met l yX7_asSpoon wsX7_asSpoon ({ frames := 1, cells := 0, slots := 0, locals := 21 }) (va_Pc [.ref (a 0), .int (nI j)] (fun U => PreM G (WX G a c) sz U U.heap)) (Qm G.1 vwCl (some (.int (kV (cK c) j + mPu (cM c)))) (WX G a (aSpoon c)) (va_A (WX G a c) sz)) 0 0 (va_A (WX G a c) sz) := by
  refine Met.ofW (cc := cX7_asSpoon) (maxL := 2) (ret := (some .int)) (by decide) rfl ?_
  intro p e s m args below meth cd s₁ BB hml hv
  obtain ⟨rfl, ⟨hP, hK, hN⟩, hD0, hsz⟩ := hv
  have hx := BB.exec
  have hb := BB.bytes
  have hr := BB.returns
  have hts := atoms_spec (ws := wsX7_asSpoon) BB.pre
  have hown : s.vm.findClass RX7 = some m.cls := findClass_of_methodNamed BB.named
  have hlocks := BB.notSynchronized
  have hrc : 0 + 0 ≤ (headSpec wsX7_asSpoon ({ frames := 1, cells := 0, slots := 0, locals := 21 })).room.cells := Nat.le_refl _
  have hrs : 0 + 0 ≤ (headSpec wsX7_asSpoon ({ frames := 1, cells := 0, slots := 0, locals := 21 })).room.slots := Nat.le_refl _
  subst hsz
  have hD := hD0.self (sz := s.heap.size)
  generalize hAe : va_A (WX G a c) s.heap.size = A at hD ⊢
  have hA : ∀ q : Nat, s.heap.size ≤ q → A q := fun q h => by rw [← hAe]; exact Or.inr h
  have hS : va_S A s.heap s.heap [] := va_S.rf
  obtain ⟨hk7, ho1, ho5, hi6, hl200, hnx, hkn⟩ := id hc
  have hin2 : ∀ w ∈ u_ws RX2 TX2 7, w ∈ wsX7_asSpoon := by decide +kernel
  have hin7 : ∀ w ∈ u_ws RX7 TX7 13, w ∈ wsX7_asSpoon := by decide +kernel
  have hf39 := hts (.fieldLink RX7 39 "RegaliaVotes" "moment" "LRegaliaVotes$Moment;") (by decide +kernel)
  have hf82 := hts (.fieldLink RX7 82 "RegaliaVotes" "traced" "J") (by decide +kernel)
  have hf162 := hts (.fieldLink RX7 162 "RegaliaVotes$Moment" "put" "I") (by decide +kernel)
  refine wk_enter (n := 2) (Nat.le_of_ble_eq_true rfl) (fun ls hl => ?_)
  have hl : lv_has ls 2 [(0, .ref (a 0)), (1, .int (nI j))] := hl
  refine lv_aload_n hx hb dX7_asSpoon_0 rfl (lv_at hl 0 rfl) ?_
  refine lv_dup hx hb dX7_asSpoon_1 rfl ?_
  refine va_get (D := G.1) (v := .long (cTr c)) hx hb hts hin7 hown hK hP 0 (WX_0 G a c) rfl 12 (by decide) hf82 (fun _ h => h) rfl dX7_asSpoon_2 ?_
  refine lv_ldc2 (v := 100000) hx hb hown (hts (.constantLong RX7 288 (100000)) (by decide +kernel)) dX7_asSpoon_5 ?_
  refine lv_ladd hx hb dX7_asSpoon_8 ?_
  refine va_put (D := G.1) (v := .long ((cTr c) + 100000)) (ty := .long) hx hb hts hin7 tyX7 tyX7_ok nmX7 hown hK hP hD hS 0 (WX_0 G a c) rfl 12 (by decide) hf82 (fun _ h => h) rfl (by decide +kernel) rfl rfl (Nat.le_of_ble_eq_true rfl) dX7_asSpoon_9 (fun H locs hP hD hS => ?_)
  rw [WX_p0_12] at hP hD
  refine lv_aload_n hx hb dX7_asSpoon_12 rfl (lv_at hl 0 rfl) ?_
  refine lv_iload_n hx hb dX7_asSpoon_13 rfl (lv_at hl 1 rfl) ?_
  refine wk_callA (va_runV (As := [.int (nI j)]) (rest := []) ⟨hx, hb, hml, hown, hts⟩ (c_X7_asThing l G a (setTr c ((cTr c) + 100000)) (okR_setTr hc) j (ltT_tr hj) H.size) (cwV 1 hts gX7_asSpoon_X7_asThing rfl rfl rfl hdV_X7_asThing ⟨Nat.le_of_ble_eq_true rfl, Nat.le_of_ble_eq_true rfl⟩) ((PreM.mk hP hK hN hD).pre (ci := 7) (q0 := 0) rfl (WX_0 G a (setTr c ((cTr c) + 100000)))) rfl rfl hl.1 rfl (lv_room (Nat.le_of_ble_eq_true rfl)) dX7_asSpoon_14 ⟨hrc, hrs⟩) hD hS hA WX_fst (fun H locs hP hD hS => ?_)
  refine W.eq (g2 := F0 m 17 ls [.int (kV (cK (setTr c ((cTr c) + 100000))) j)]) rfl ?_
  refine lv_aload_n hx hb dX7_asSpoon_17 rfl (lv_at hl 0 rfl) ?_
  refine va_get (D := G.1) (v := .ref (a 6)) hx hb hts hin7 hown hK hP 0 (WX_0 G a (aThing (setTr c ((cTr c) + 100000)))) rfl 5 (by decide) hf39 (fun _ h => h) rfl dX7_asSpoon_18 ?_
  refine va_get (D := G.1) (v := .int (mPu (cM c))) hx hb hts hin2 hown hK hP 6 (WX_6 G a (aThing (setTr c ((cTr c) + 100000)))) rfl 5 (by decide) hf162 (fun _ h => h) rfl dX7_asSpoon_21 ?_
  refine lv_iadd hx hb dX7_asSpoon_24 ?_
  exact wk_mret' hx hb hr hlocks dX7_asSpoon_25 hP hS (rfl) (rfl)
theorem hdV_X7_rate : yX7_rate.cls = RX7 ∧ yX7_rate.cls ≠ "java/lang/invoke/MethodHandle" ∧ yX7_rate.cls ≠ "java/lang/invoke/VarHandle" ∧ (parseMethodDescriptor yX7_rate.desc).map (fun d => d.parameters.length) = some 2 := by decide +kernel
set_option maxHeartbeats 600000 in
set_option maxRecDepth 100000 in
theorem c_X7_rate (l : Launch) (G : GG) (a : Nat → Nat) (c : CX) (hc : OkR c) (w : Int32) (t : Int32) (sz : Nat) : Met l yX7_rate wsX7_rate ({ frames := 3, cells := 0, slots := 0, locals := 63 }) (va_Pc [.ref (a 0), .int w, .int t] (fun U => PreM G (WX G a c) sz U U.heap)) (Qm G.1 vwCl (some (.int (xRate c w t).1)) (WX G a ((xRate c w t).2)) (va_A (WX G a c) sz)) 0 0 (va_A (WX G a c) sz) := by
  refine Met.ofW (cc := cX7_rate) (maxL := 3) (ret := (some .int)) (by decide) rfl ?_
  intro p e s m args below meth cd s₁ BB hml hv
  obtain ⟨rfl, ⟨hP, hK, hN⟩, hD0, hsz⟩ := hv
  have hx := BB.exec
  have hb := BB.bytes
  have hr := BB.returns
  have hts := atoms_spec (ws := wsX7_rate) BB.pre
  have hown : s.vm.findClass RX7 = some m.cls := findClass_of_methodNamed BB.named
  have hlocks := BB.notSynchronized
  have hrc : 0 + 0 ≤ (headSpec wsX7_rate ({ frames := 3, cells := 0, slots := 0, locals := 63 })).room.cells := Nat.le_refl _
  have hrs : 0 + 0 ≤ (headSpec wsX7_rate ({ frames := 3, cells := 0, slots := 0, locals := 63 })).room.slots := Nat.le_refl _
  subst hsz
  have hD := hD0.self (sz := s.heap.size)
  generalize hAe : va_A (WX G a c) s.heap.size = A at hD ⊢
  have hA : ∀ q : Nat, s.heap.size ≤ q → A q := fun q h => by rw [← hAe]; exact Or.inr h
  have hS : va_S A s.heap s.heap [] := va_S.rf
  obtain ⟨hk7, ho1, ho5, hi6, hl200, hnx, hkn⟩ := id hc
  refine wk_enter (n := 3) (Nat.le_of_ble_eq_true rfl) (fun ls hl => ?_)
  have hl : lv_has ls 3 [(0, .ref (a 0)), (1, .int w), (2, .int t)] := hl
  refine lv_aload_n hx hb dX7_rate_0 rfl (lv_at hl 0 rfl) ?_
  refine lv_iload_n hx hb dX7_rate_1 rfl (lv_at hl 2 rfl) ?_
  refine wk_read (va_runV (As := [.int t]) (rest := []) ⟨hx, hb, hml, hown, hts⟩ (c_X7_noThing l G a c hc t) (cwV 1 hts gX7_rate_X7_noThing rfl rfl rfl hdV_X7_noThing ⟨Nat.le_of_ble_eq_true rfl, Nat.le_of_ble_eq_true rfl⟩) (PreW.pre (G := G) (W0 := WR G a c) ⟨va_P_left hP, hK, hN⟩ (ci := 7) (q0 := 0) rfl rfl) rfl rfl hl.1 rfl (lv_room (Nat.le_of_ble_eq_true rfl)) dX7_rate_2 ⟨hrc, hrs⟩) ?_
  refine lv_if_eq (tgt := 11) hx hb dX7_rate_5 (by decide) (fun c5 => ?_) (fun c5 => ?_)
  · have c5 := b2i_f c5
    obtain ⟨j, hj, rfl⟩ := pNoT_n c5 hk7
    have hcl := nI_clamp (show j < 2 ^ 31 by omega)
    refine lv_iload_n hx hb dX7_rate_11 rfl (lv_at hl 1 rfl) ?_
    rcases wk_sw0_5 w with c12 | c12 | c12 | c12 | c12 | c12 | c12
    · refine lv_tableIn (tgt := 52) hx hb dX7_rate_12 (by rw [c12]; decide) (by rw [c12]; decide) (by rw [c12]; rfl) (by decide) ?_
      refine lv_aload_n hx hb dX7_rate_52 rfl (lv_at hl 0 rfl) ?_
      refine lv_iload_n hx hb dX7_rate_53 rfl (lv_at hl 2 rfl) ?_
      refine wk_callA (va_runV (As := [.int (nI j)]) (rest := []) ⟨hx, hb, hml, hown, hts⟩ (c_X7_asThing l G a c hc j hj s.heap.size) (cwV 1 hts gX7_rate_X7_asThing rfl rfl rfl hdV_X7_asThing ⟨Nat.le_of_ble_eq_true rfl, Nat.le_of_ble_eq_true rfl⟩) ((PreM.mk hP hK hN hD).pre (ci := 7) (q0 := 0) rfl (WX_0 G a c)) rfl rfl hl.1 rfl (lv_room (Nat.le_of_ble_eq_true rfl)) dX7_rate_54 ⟨hrc, hrs⟩) hD hS hA WX_fst (fun H locs hP hD hS => ?_)
      refine W.eq (g2 := F0 m 57 ls [.int (kV (cK c) j)]) rfl ?_
      have hq : xRate c w (nI j) = ((kV (cK c) j), aThing c) := by simp [xRate, hcl, c5, c12]
      exact wk_mret' hx hb hr hlocks dX7_rate_57 hP hS (congrArg (fun z => some (Value.int z.1)) hq) (congrArg (fun z => WX G a z.2) hq)
    · refine lv_tableIn (tgt := 58) hx hb dX7_rate_12 (by rw [c12]; decide) (by rw [c12]; decide) (by rw [c12]; rfl) (by decide) ?_
      refine lv_aload_n hx hb dX7_rate_58 rfl (lv_at hl 0 rfl) ?_
      refine lv_iload_n hx hb dX7_rate_59 rfl (lv_at hl 2 rfl) ?_
      refine wk_callA (va_runV (As := [.int (nI j)]) (rest := []) ⟨hx, hb, hml, hown, hts⟩ (c_X7_asSceptre l G a c hc j hj s.heap.size) (cwV 1 hts gX7_rate_X7_asSceptre rfl rfl rfl hdV_X7_asSceptre ⟨Nat.le_of_ble_eq_true rfl, Nat.le_of_ble_eq_true rfl⟩) ((PreM.mk hP hK hN hD).pre (ci := 7) (q0 := 0) rfl (WX_0 G a c)) rfl rfl hl.1 rfl (lv_room (Nat.le_of_ble_eq_true rfl)) dX7_rate_60 ⟨hrc, hrs⟩) hD hS hA WX_fst (fun H locs hP hD hS => ?_)
      refine W.eq (g2 := F0 m 63 ls [.int (kV (cK c) j + pPop (kB (cK c) j))]) rfl ?_
      have hq : xRate c w (nI j) = ((kV (cK c) j + pPop (kB (cK c) j)), aScep c) := by simp [xRate, hcl, c5, c12]
      exact wk_mret' hx hb hr hlocks dX7_rate_63 hP hS (congrArg (fun z => some (Value.int z.1)) hq) (congrArg (fun z => WX G a z.2) hq)
    · refine lv_tableIn (tgt := 64) hx hb dX7_rate_12 (by rw [c12]; decide) (by rw [c12]; decide) (by rw [c12]; rfl) (by decide) ?_
      refine lv_aload_n hx hb dX7_rate_64 rfl (lv_at hl 0 rfl) ?_
      refine lv_iload_n hx hb dX7_rate_65 rfl (lv_at hl 2 rfl) ?_
      refine wk_callA (va_runV (As := [.int (nI j)]) (rest := []) ⟨hx, hb, hml, hown, hts⟩ (c_X7_asOrb l G a c hc j hj s.heap.size) (cwV 1 hts gX7_rate_X7_asOrb rfl rfl rfl hdV_X7_asOrb ⟨Nat.le_of_ble_eq_true rfl, Nat.le_of_ble_eq_true rfl⟩) ((PreM.mk hP hK hN hD).pre (ci := 7) (q0 := 0) rfl (WX_0 G a c)) rfl rfl hl.1 rfl (lv_room (Nat.le_of_ble_eq_true rfl)) dX7_rate_66 ⟨hrc, hrs⟩) hD hS hA WX_fst (fun H locs hP hD hS => ?_)
      refine W.eq (g2 := F0 m 69 ls [.int (kV (cK c) j - mW (cM c) j)]) rfl ?_
      have hq : xRate c w (nI j) = ((kV (cK c) j - mW (cM c) j), aOrb c) := by simp [xRate, hcl, c5, c12]
      exact wk_mret' hx hb hr hlocks dX7_rate_69 hP hS (congrArg (fun z => some (Value.int z.1)) hq) (congrArg (fun z => WX G a z.2) hq)
    · refine lv_tableIn (tgt := 70) hx hb dX7_rate_12 (by rw [c12]; decide) (by rw [c12]; decide) (by rw [c12]; rfl) (by decide) ?_
      refine lv_aload_n hx hb dX7_rate_70 rfl (lv_at hl 0 rfl) ?_
      refine lv_iload_n hx hb dX7_rate_71 rfl (lv_at hl 2 rfl) ?_
      refine wk_callA (va_runV (As := [.int (nI j)]) (rest := []) ⟨hx, hb, hml, hown, hts⟩ (c_X7_asRing l G a c hc j hj s.heap.size) (cwV 1 hts gX7_rate_X7_asRing rfl rfl rfl hdV_X7_asRing ⟨Nat.le_of_ble_eq_true rfl, Nat.le_of_ble_eq_true rfl⟩) ((PreM.mk hP hK hN hD).pre (ci := 7) (q0 := 0) rfl (WX_0 G a c)) rfl rfl hl.1 rfl (lv_room (Nat.le_of_ble_eq_true rfl)) dX7_rate_72 ⟨hrc, hrs⟩) hD hS hA WX_fst (fun H locs hP hD hS => ?_)
      refine W.eq (g2 := F0 m 75 ls [.int (2 * (kV (cK c) j + pPop (kB (cK c) j)))]) rfl ?_
      have hq : xRate c w (nI j) = ((2 * (kV (cK c) j + pPop (kB (cK c) j))), aRing c) := by simp [xRate, hcl, c5, c12]
      exact wk_mret' hx hb hr hlocks dX7_rate_75 hP hS (congrArg (fun z => some (Value.int z.1)) hq) (congrArg (fun z => WX G a z.2) hq)
    · refine lv_tableIn (tgt := 76) hx hb dX7_rate_12 (by rw [c12]; decide) (by rw [c12]; decide) (by rw [c12]; rfl) (by decide) ?_
      refine lv_aload_n hx hb dX7_rate_76 rfl (lv_at hl 0 rfl) ?_
      refine lv_iload_n hx hb dX7_rate_77 rfl (lv_at hl 2 rfl) ?_
      refine wk_callA (va_runV (As := [.int (nI j)]) (rest := []) ⟨hx, hb, hml, hown, hts⟩ (c_X7_asSeal l G a c hc j hj s.heap.size) (cwV 1 hts gX7_rate_X7_asSeal rfl rfl rfl hdV_X7_asSeal ⟨Nat.le_of_ble_eq_true rfl, Nat.le_of_ble_eq_true rfl⟩) ((PreM.mk hP hK hN hD).pre (ci := 7) (q0 := 0) rfl (WX_0 G a c)) rfl rfl hl.1 rfl (lv_room (Nat.le_of_ble_eq_true rfl)) dX7_rate_78 ⟨hrc, hrs⟩) hD hS hA WX_fst (fun H locs hP hD hS => ?_)
      refine W.eq (g2 := F0 m 81 ls [.int (kV (cK c) j - mW (cM c) j + nI j)]) rfl ?_
      have hq : xRate c w (nI j) = ((kV (cK c) j - mW (cM c) j + nI j), aSeal c) := by simp [xRate, hcl, c5, c12]
      exact wk_mret' hx hb hr hlocks dX7_rate_81 hP hS (congrArg (fun z => some (Value.int z.1)) hq) (congrArg (fun z => WX G a z.2) hq)
    · refine lv_tableIn (tgt := 82) hx hb dX7_rate_12 (by rw [c12]; decide) (by rw [c12]; decide) (by rw [c12]; rfl) (by decide) ?_
      refine lv_aload_n hx hb dX7_rate_82 rfl (lv_at hl 0 rfl) ?_
      refine lv_iload_n hx hb dX7_rate_83 rfl (lv_at hl 2 rfl) ?_
      refine wk_callA (va_runV (As := [.int (nI j)]) (rest := []) ⟨hx, hb, hml, hown, hts⟩ (c_X7_asSpoon l G a c hc j hj s.heap.size) (cwV 1 hts gX7_rate_X7_asSpoon rfl rfl rfl hdV_X7_asSpoon ⟨Nat.le_of_ble_eq_true rfl, Nat.le_of_ble_eq_true rfl⟩) ((PreM.mk hP hK hN hD).pre (ci := 7) (q0 := 0) rfl (WX_0 G a c)) rfl rfl hl.1 rfl (lv_room (Nat.le_of_ble_eq_true rfl)) dX7_rate_84 ⟨hrc, hrs⟩) hD hS hA WX_fst (fun H locs hP hD hS => ?_)
      refine W.eq (g2 := F0 m 87 ls [.int (kV (cK c) j + mPu (cM c))]) rfl ?_
      have hq : xRate c w (nI j) = ((kV (cK c) j + mPu (cM c)), aSpoon c) := by simp [xRate, hcl, c5, c12]
      exact wk_mret' hx hb hr hlocks dX7_rate_87 hP hS (congrArg (fun z => some (Value.int z.1)) hq) (congrArg (fun z => WX G a z.2) hq)
    · have q12_0 : ¬ w = 0 := by intro q; rw [q] at c12; revert c12; decide
      have q12_1 : ¬ w = 1 := by intro q; rw [q] at c12; revert c12; decide
      have q12_2 : ¬ w = 2 := by intro q; rw [q] at c12; revert c12; decide
      have q12_3 : ¬ w = 3 := by intro q; rw [q] at c12; revert c12; decide
      have q12_4 : ¬ w = 4 := by intro q; rw [q] at c12; revert c12; decide
      have q12_5 : ¬ w = 5 := by intro q; rw [q] at c12; revert c12; decide
      refine lv_tableOut (tgt := 88) hx hb dX7_rate_12 c12 (by decide) ?_
      refine lv_ldc (v := -1000000) hx hb hown (hts (.constant RX7 250 (-1000000)) (by decide +kernel)) dX7_rate_88 ?_
      have hq : xRate c w (nI j) = ((-1000000), c) := by simp [xRate, hcl, c5, q12_0, q12_1, q12_2, q12_3, q12_4, q12_5]
      exact wk_mret' hx hb hr hlocks dX7_rate_90 hP hS (congrArg (fun z => some (Value.int z.1)) hq) (congrArg (fun z => WX G a z.2) hq)
  · have c5 := b2i_t c5
    refine lv_ldc (v := -1000000) hx hb hown (hts (.constant RX7 250 (-1000000)) (by decide +kernel)) dX7_rate_8 ?_
    have hq : xRate c w t = ((-1000000), c) := by simp [xRate, c5]
    exact wk_mret' hx hb hr hlocks dX7_rate_10 hP hS (congrArg (fun z => some (Value.int z.1)) hq) (congrArg (fun z => WX G a z.2) hq)
theorem hdV_X7_keep : yX7_keep.cls = RX7 ∧ yX7_keep.cls ≠ "java/lang/invoke/MethodHandle" ∧ yX7_keep.cls ≠ "java/lang/invoke/VarHandle" ∧ (parseMethodDescriptor yX7_keep.desc).map (fun d => d.parameters.length) = some 1 := by decide +kernel
set_option maxHeartbeats 600000 in
set_option maxRecDepth 100000 in
theorem c_X7_keep (l : Launch) (G : GG) (a : Nat → Nat) (c : CX) (hc : OkR c) (w : Int32) (sz : Nat) : Met l yX7_keep wsX7_keep ({ frames := 2, cells := 0, slots := 0, locals := 51 }) (va_Pc [.ref (a 0), .int w] (fun U => PreM G (WX G a c) sz U U.heap)) (Qm G.1 vwCl (some (.int (xKeep c w).1)) (WX G a ((xKeep c w).2)) (va_A (WX G a c) sz)) 0 0 (va_A (WX G a c) sz) := by
  refine Met.ofW (cc := cX7_keep) (maxL := 2) (ret := (some .int)) (by decide) rfl ?_
  intro p e s m args below meth cd s₁ BB hml hv
  obtain ⟨rfl, ⟨hP, hK, hN⟩, hD0, hsz⟩ := hv
  have hx := BB.exec
  have hb := BB.bytes
  have hr := BB.returns
  have hts := atoms_spec (ws := wsX7_keep) BB.pre
  have hown : s.vm.findClass RX7 = some m.cls := findClass_of_methodNamed BB.named
  have hlocks := BB.notSynchronized
  have hrc : 0 + 0 ≤ (headSpec wsX7_keep ({ frames := 2, cells := 0, slots := 0, locals := 51 })).room.cells := Nat.le_refl _
  have hrs : 0 + 0 ≤ (headSpec wsX7_keep ({ frames := 2, cells := 0, slots := 0, locals := 51 })).room.slots := Nat.le_refl _
  subst hsz
  have hD := hD0.self (sz := s.heap.size)
  generalize hAe : va_A (WX G a c) s.heap.size = A at hD ⊢
  have hA : ∀ q : Nat, s.heap.size ≤ q → A q := fun q h => by rw [← hAe]; exact Or.inr h
  have hS : va_S A s.heap s.heap [] := va_S.rf
  obtain ⟨hk7, ho1, ho5, hi6, hl200, hnx, hkn⟩ := id hc
  have hin2 : ∀ w ∈ u_ws RX2 TX2 7, w ∈ wsX7_keep := by decide +kernel
  have hin7 : ∀ w ∈ u_ws RX7 TX7 13, w ∈ wsX7_keep := by decide +kernel
  have hf39 := hts (.fieldLink RX7 39 "RegaliaVotes" "moment" "LRegaliaVotes$Moment;") (by decide +kernel)
  have hf75 := hts (.fieldLink RX7 75 "RegaliaVotes" "images" "[LRegaliaVotes$Moment;") (by decide +kernel)
  have hf79 := hts (.fieldLink RX7 79 "RegaliaVotes" "kept" "I") (by decide +kernel)
  have hf162 := hts (.fieldLink RX7 162 "RegaliaVotes$Moment" "put" "I") (by decide +kernel)
  refine wk_enter (n := 2) (Nat.le_of_ble_eq_true rfl) (fun ls hl => ?_)
  have hl : lv_has ls 2 [(0, .ref (a 0)), (1, .int w)] := hl
  refine lv_iload_n hx hb dX7_keep_0 rfl (lv_at hl 1 rfl) ?_
  refine wk_read (va_runS (As := [.int w]) (rest := []) ⟨hx, hb, hml, hown, hts⟩ (c_X7_noImage l w) (va_cwS 1 hts gX7_keep_X7_noImage rfl rfl rfl hdS_X7_noImage ⟨Nat.le_of_ble_eq_true rfl, Nat.le_of_ble_eq_true rfl⟩) preEq rfl rfl hl.1 rfl (lv_room (Nat.le_of_ble_eq_true rfl)) dX7_keep_1 ⟨hrc, hrs⟩) ?_
  refine lv_if_eq (tgt := 9) hx hb dX7_keep_4 (by decide) (fun c4 => ?_) (fun c4 => ?_)
  · have c4 := b2i_f c4
    obtain ⟨j, hj, rfl⟩ := pNoI_n c4
    have hcl := nI_clamp (show j < 2 ^ 31 by omega)
    refine lv_aload_n hx hb dX7_keep_9 rfl (lv_at hl 0 rfl) ?_
    refine va_get (D := G.1) (v := .ref (a 53)) hx hb hts hin7 hown hK hP 0 (WX_0 G a c) rfl 10 (by decide) hf75 (fun _ h => h) rfl dX7_keep_10 ?_
    refine lv_iload_n hx hb dX7_keep_13 rfl (lv_at hl 1 rfl) ?_
    refine wk_aald (i := j) (b := a (54 + 3 * j)) hx hb hK hP 53 3 rfl rfl hj (Nat.le_of_ble_eq_true rfl) rfl dX7_keep_14 ?_
    refine lv_aload_n hx hb dX7_keep_15 rfl (lv_at hl 0 rfl) ?_
    refine va_get (D := G.1) (v := .ref (a 6)) hx hb hts hin7 hown hK hP 0 (WX_0 G a c) rfl 5 (by decide) hf39 (fun _ h => h) rfl dX7_keep_16 ?_
    refine wk_call (va_runV (As := [.ref (a 6)]) (rest := []) ⟨hx, hb, hml, hown, hts⟩ (c_X2_copyFrom l G (twoM a (54 + 3 * j) 6) (cIm c j) (cM c) s.heap.size) (cwV 1 hts gX7_keep_X2_copyFrom rfl rfl rfl hdV_X2_copyFrom ⟨Nat.le_of_ble_eq_true rfl, Nat.le_of_ble_eq_true rfl⟩) ((PreM.of hP hK hN hD [54 + 3 * j, 55 + 3 * j, 56 + 3 * j, 6, 7, 8] (imgs_nd hj) (imgs_get G a c hj)).pre (ci := 2) (q0 := 0) rfl rfl) rfl rfl hl.1 rfl (lv_room (Nat.le_of_ble_eq_true rfl)) dX7_keep_19 ⟨hrc, hrs⟩) hP hD hS hA [54 + 3 * j, 55 + 3 * j, 56 + 3 * j, 6, 7, 8] (imgs_get G a c hj) rfl (fun H locs hP hD hS => ?_)
    rw [imgs_set G a c hj] at hP hD
    have hP : va_P G.1 vwCl (WX G a (setIm c (va_up (cIm c) j (cM c)))) H := hP
    have hD : va_D A (WX G a (setIm c (va_up (cIm c) j (cM c)))) := hD
    refine W.eq (g2 := F0 m 22 ls []) rfl ?_
    refine lv_aload_n hx hb dX7_keep_22 rfl (lv_at hl 0 rfl) ?_
    refine lv_dup hx hb dX7_keep_23 rfl ?_
    refine va_get (D := G.1) (v := .int (cKe c)) hx hb hts hin7 hown hK hP 0 (WX_0 G a (setIm c (va_up (cIm c) j (cM c)))) rfl 11 (by decide) hf79 (fun _ h => h) rfl dX7_keep_24 ?_
    refine lv_iconst (v := 1) hx hb dX7_keep_27 (by decide) ?_
    refine lv_iload_n hx hb dX7_keep_28 rfl (lv_at hl 1 rfl) ?_
    refine lv_ishl hx hb dX7_keep_29 ?_
    show W _ _ _ _ _ _ _ _ _ _ _ _ _ _ _ (F0 _ _ _ (.int (sh1 (nI j)) :: _))
    refine lv_ior hx hb dX7_keep_30 ?_
    refine va_put (D := G.1) (v := .int ((cKe c) ||| (sh1 (nI j)))) (ty := .int) hx hb hts hin7 tyX7 tyX7_ok nmX7 hown hK hP hD hS 0 (WX_0 G a (setIm c (va_up (cIm c) j (cM c)))) rfl 11 (by decide) hf79 (fun _ h => h) rfl (by decide +kernel) rfl rfl (Nat.le_of_ble_eq_true rfl) dX7_keep_31 (fun H locs hP hD hS => ?_)
    rw [WX_p0_11] at hP hD
    refine lv_aload_n hx hb dX7_keep_34 rfl (lv_at hl 0 rfl) ?_
    refine va_get (D := G.1) (v := .ref (a 6)) hx hb hts hin7 hown hK hP 0 (WX_0 G a (setKe (setIm c (va_up (cIm c) j (cM c))) ((cKe c) ||| (sh1 (nI j))))) rfl 5 (by decide) hf39 (fun _ h => h) rfl dX7_keep_35 ?_
    refine va_get (D := G.1) (v := .int (mPu (cM c))) hx hb hts hin2 hown hK hP 6 (WX_6 G a (setKe (setIm c (va_up (cIm c) j (cM c))) ((cKe c) ||| (sh1 (nI j))))) rfl 5 (by decide) hf162 (fun _ h => h) rfl dX7_keep_38 ?_
    have hq : xKeep c (nI j) = ((mPu (cM c)), setKe (setIm c (va_up (cIm c) j (cM c))) ((cKe c) ||| (sh1 (nI j)))) := by simp only [xKeep, c4, hcl]; rfl
    exact wk_mret' hx hb hr hlocks dX7_keep_41 hP hS (congrArg (fun z => some (Value.int z.1)) hq) (congrArg (fun z => WX G a z.2) hq)
  · have c4 := b2i_t c4
    refine lv_iconst (v := -1) hx hb dX7_keep_7 (by decide) ?_
    have hq : xKeep c w = ((-1), c) := by simp [xKeep, c4]
    exact wk_mret' hx hb hr hlocks dX7_keep_8 hP hS (congrArg (fun z => some (Value.int z.1)) hq) (congrArg (fun z => WX G a z.2) hq)
theorem hdV_X7_back : yX7_back.cls = RX7 ∧ yX7_back.cls ≠ "java/lang/invoke/MethodHandle" ∧ yX7_back.cls ≠ "java/lang/invoke/VarHandle" ∧ (parseMethodDescriptor yX7_back.desc).map (fun d => d.parameters.length) = some 1 := by decide +kernel
set_option maxHeartbeats 600000 in
set_option maxRecDepth 100000 in
theorem c_X7_back (l : Launch) (G : GG) (a : Nat → Nat) (c : CX) (hc : OkR c) (w : Int32) (sz : Nat) : Met l yX7_back wsX7_back ({ frames := 2, cells := 0, slots := 0, locals := 51 }) (va_Pc [.ref (a 0), .int w] (fun U => PreM G (WX G a c) sz U U.heap)) (Qm G.1 vwCl (some (.int (xBack c w).1)) (WX G a ((xBack c w).2)) (va_A (WX G a c) sz)) 0 0 (va_A (WX G a c) sz) := by
  refine Met.ofW (cc := cX7_back) (maxL := 2) (ret := (some .int)) (by decide) rfl ?_
  intro p e s m args below meth cd s₁ BB hml hv
  obtain ⟨rfl, ⟨hP, hK, hN⟩, hD0, hsz⟩ := hv
  have hx := BB.exec
  have hb := BB.bytes
  have hr := BB.returns
  have hts := atoms_spec (ws := wsX7_back) BB.pre
  have hown : s.vm.findClass RX7 = some m.cls := findClass_of_methodNamed BB.named
  have hlocks := BB.notSynchronized
  have hrc : 0 + 0 ≤ (headSpec wsX7_back ({ frames := 2, cells := 0, slots := 0, locals := 51 })).room.cells := Nat.le_refl _
  have hrs : 0 + 0 ≤ (headSpec wsX7_back ({ frames := 2, cells := 0, slots := 0, locals := 51 })).room.slots := Nat.le_refl _
  subst hsz
  have hD := hD0.self (sz := s.heap.size)
  generalize hAe : va_A (WX G a c) s.heap.size = A at hD ⊢
  have hA : ∀ q : Nat, s.heap.size ≤ q → A q := fun q h => by rw [← hAe]; exact Or.inr h
  have hS : va_S A s.heap s.heap [] := va_S.rf
  obtain ⟨hk7, ho1, ho5, hi6, hl200, hnx, hkn⟩ := id hc
  have hin2 : ∀ w ∈ u_ws RX2 TX2 7, w ∈ wsX7_back := by decide +kernel
  have hin7 : ∀ w ∈ u_ws RX7 TX7 13, w ∈ wsX7_back := by decide +kernel
  have hf39 := hts (.fieldLink RX7 39 "RegaliaVotes" "moment" "LRegaliaVotes$Moment;") (by decide +kernel)
  have hf71 := hts (.fieldLink RX7 71 "RegaliaVotes" "past" "LRegaliaVotes$Past;") (by decide +kernel)
  have hf75 := hts (.fieldLink RX7 75 "RegaliaVotes" "images" "[LRegaliaVotes$Moment;") (by decide +kernel)
  have hf79 := hts (.fieldLink RX7 79 "RegaliaVotes" "kept" "I") (by decide +kernel)
  have hf162 := hts (.fieldLink RX7 162 "RegaliaVotes$Moment" "put" "I") (by decide +kernel)
  refine wk_enter (n := 2) (Nat.le_of_ble_eq_true rfl) (fun ls hl => ?_)
  have hl : lv_has ls 2 [(0, .ref (a 0)), (1, .int w)] := hl
  refine lv_iload_n hx hb dX7_back_0 rfl (lv_at hl 1 rfl) ?_
  refine wk_read (va_runS (As := [.int w]) (rest := []) ⟨hx, hb, hml, hown, hts⟩ (c_X7_noImage l w) (va_cwS 1 hts gX7_back_X7_noImage rfl rfl rfl hdS_X7_noImage ⟨Nat.le_of_ble_eq_true rfl, Nat.le_of_ble_eq_true rfl⟩) preEq rfl rfl hl.1 rfl (lv_room (Nat.le_of_ble_eq_true rfl)) dX7_back_1 ⟨hrc, hrs⟩) ?_
  refine lv_if_eq (tgt := 9) hx hb dX7_back_4 (by decide) (fun c4 => ?_) (fun c4 => ?_)
  · have c4 := b2i_f c4
    obtain ⟨j, hj, rfl⟩ := pNoI_n c4
    have hcl := nI_clamp (show j < 2 ^ 31 by omega)
    refine lv_aload_n hx hb dX7_back_9 rfl (lv_at hl 0 rfl) ?_
    refine va_get (D := G.1) (v := .int (cKe c)) hx hb hts hin7 hown hK hP 0 (WX_0 G a c) rfl 11 (by decide) hf79 (fun _ h => h) rfl dX7_back_10 ?_
    refine lv_iload_n hx hb dX7_back_13 rfl (lv_at hl 1 rfl) ?_
    refine wk_read (va_runS (As := [.int (cKe c), .int (nI j)]) (rest := []) ⟨hx, hb, hml, hown, hts⟩ (c_X7_bit l (cKe c) (nI j)) (va_cwS 2 hts gX7_back_X7_bit rfl rfl rfl hdS_X7_bit ⟨Nat.le_of_ble_eq_true rfl, Nat.le_of_ble_eq_true rfl⟩) preEq rfl rfl hl.1 rfl (lv_room (Nat.le_of_ble_eq_true rfl)) dX7_back_14 ⟨hrc, hrs⟩) ?_
    refine lv_if_ne (tgt := 23) hx hb dX7_back_17 (by decide) (fun c17 => ?_) (fun c17 => ?_)
    · refine lv_aload_n hx hb dX7_back_23 rfl (lv_at hl 0 rfl) ?_
      refine va_get (D := G.1) (v := .ref (a 6)) hx hb hts hin7 hown hK hP 0 (WX_0 G a c) rfl 5 (by decide) hf39 (fun _ h => h) rfl dX7_back_24 ?_
      refine lv_aload_n hx hb dX7_back_27 rfl (lv_at hl 0 rfl) ?_
      refine va_get (D := G.1) (v := .ref (a 53)) hx hb hts hin7 hown hK hP 0 (WX_0 G a c) rfl 10 (by decide) hf75 (fun _ h => h) rfl dX7_back_28 ?_
      refine lv_iload_n hx hb dX7_back_31 rfl (lv_at hl 1 rfl) ?_
      refine wk_aald (i := j) (b := a (54 + 3 * j)) hx hb hK hP 53 3 rfl rfl hj (Nat.le_of_ble_eq_true rfl) rfl dX7_back_32 ?_
      refine wk_call (va_runV (As := [.ref (a (54 + 3 * j))]) (rest := []) ⟨hx, hb, hml, hown, hts⟩ (c_X2_copyFrom l G (twoM a 6 (54 + 3 * j)) (cM c) (cIm c j) s.heap.size) (cwV 1 hts gX7_back_X2_copyFrom rfl rfl rfl hdV_X2_copyFrom ⟨Nat.le_of_ble_eq_true rfl, Nat.le_of_ble_eq_true rfl⟩) ((PreM.of hP hK hN hD [6, 7, 8, 54 + 3 * j, 55 + 3 * j, 56 + 3 * j] (imgs_nd2 hj) (imgs_get2 G a c hj)).pre (ci := 2) (q0 := 0) rfl rfl) rfl rfl hl.1 rfl (lv_room (Nat.le_of_ble_eq_true rfl)) dX7_back_33 ⟨hrc, hrs⟩) hP hD hS hA [6, 7, 8, 54 + 3 * j, 55 + 3 * j, 56 + 3 * j] (imgs_get2 G a c hj) rfl (fun H locs hP hD hS => ?_)
      rw [imgs_set2 G a c hj] at hP hD
      have hP : va_P G.1 vwCl (WX G a (setM c (cIm c j))) H := hP
      have hD : va_D A (WX G a (setM c (cIm c j))) := hD
      refine W.eq (g2 := F0 m 36 ls []) rfl ?_
      refine lv_aload_n hx hb dX7_back_36 rfl (lv_at hl 0 rfl) ?_
      refine va_get (D := G.1) (v := .ref (a 14)) hx hb hts hin7 hown hK hP 0 (WX_0 G a (setM c (cIm c j))) rfl 9 (by decide) hf71 (fun _ h => h) rfl dX7_back_37 ?_
      refine wk_callA (va_runV (As := []) (rest := []) ⟨hx, hb, hml, hown, hts⟩ (c_X3_lose l G a (setM c (cIm c j)) (okR_setM hc) H.size) (cwV 0 hts gX7_back_X3_lose rfl rfl rfl hdV_X3_lose ⟨Nat.le_of_ble_eq_true rfl, Nat.le_of_ble_eq_true rfl⟩) ((PreM.mk hP hK hN hD).pre (ci := 3) (q0 := 14) rfl (WX_14 G a (setM c (cIm c j)))) rfl rfl hl.1 rfl (lv_room (Nat.le_of_ble_eq_true rfl)) dX7_back_40 ⟨hrc, hrs⟩) hD hS hA WX_fst (fun H locs hP hD hS => ?_)
      refine W.eq (g2 := F0 m 43 ls []) rfl ?_
      refine lv_aload_n hx hb dX7_back_43 rfl (lv_at hl 0 rfl) ?_
      refine va_get (D := G.1) (v := .ref (a 6)) hx hb hts hin7 hown hK hP 0 (WX_0 G a (sLose (setM c (cIm c j)))) rfl 5 (by decide) hf39 (fun _ h => h) rfl dX7_back_44 ?_
      refine va_get (D := G.1) (v := .int (mPu (cIm c j))) hx hb hts hin2 hown hK hP 6 (WX_6 G a (sLose (setM c (cIm c j)))) rfl 5 (by decide) hf162 (fun _ h => h) rfl dX7_back_47 ?_
      have hq : xBack c (nI j) = ((mPu (cIm c j)), sLose (setM c (cIm c j))) := by simp only [xBack, c4, hcl]; rw [if_neg (by simp), if_neg c17]
      exact wk_mret' hx hb hr hlocks dX7_back_50 hP hS (congrArg (fun z => some (Value.int z.1)) hq) (congrArg (fun z => WX G a z.2) hq)
    · refine lv_bipush (v := -2) hx hb dX7_back_20 (by decide) ?_
      have hq : xBack c (nI j) = ((-2), c) := by simp only [xBack, c4]; rw [if_neg (by simp), if_pos c17]
      exact wk_mret' hx hb hr hlocks dX7_back_22 hP hS (congrArg (fun z => some (Value.int z.1)) hq) (congrArg (fun z => WX G a z.2) hq)
  · have c4 := b2i_t c4
    refine lv_iconst (v := -1) hx hb dX7_back_7 (by decide) ?_
    have hq : xBack c w = ((-1), c) := by simp [xBack, c4]
    exact wk_mret' hx hb hr hlocks dX7_back_8 hP hS (congrArg (fun z => some (Value.int z.1)) hq) (congrArg (fun z => WX G a z.2) hq)

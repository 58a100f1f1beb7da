theorem hdS_X7_bit : yX7_bit.cls ≠ "java/lang/invoke/MethodHandle" ∧ yX7_bit.cls ≠ "java/lang/invoke/VarHandle" ∧ (parseMethodDescriptor yX7_bit.desc).map (fun d => d.parameters.length) = some 2 := by decide +kernel
set_option maxHeartbeats 4000000 in
set_option maxRecDepth 100000 in
theorem c_X7_bit (l : Launch) (x : Int32) (y : Int32) : Met l yX7_bit wsX7_bit ({ frames := 0, cells := 0, slots := 0, locals := 0 }) (fun v _ => v = ([.int x, .int y] : List Value).toArray) (QcRead (bitI x y)) 0 0 (fun _ => False) := by
  refine Met.ofW (cc := cX7_bit) (maxL := 2) (ret := (some .int)) (by decide) rfl ?_
  intro p e s m args below meth cd s₁ BB hml hv
  subst hv
  have hx := BB.exec
  have hb := BB.bytes
  have hr := BB.returns
  have hts := atoms_spec (ws := wsX7_bit) BB.pre
  have hown : s.vm.findClass RX7 = some m.cls := findClass_of_methodNamed BB.named
  have hlocks := BB.notSynchronized
  have hrc : 0 + 0 ≤ (headSpec wsX7_bit ({ frames := 0, cells := 0, slots := 0, locals := 0 })).room.cells := Nat.le_refl _
  have hrs : 0 + 0 ≤ (headSpec wsX7_bit ({ frames := 0, cells := 0, slots := 0, locals := 0 })).room.slots := Nat.le_refl _
  refine wk_enter (n := 2) (Nat.le_of_ble_eq_true rfl) (fun ls hl => ?_)
  have hl : lv_has ls 2 [(0, .int x), (1, .int y)] := hl
  refine lv_iload_n hx hb dX7_bit_0 rfl (lv_at hl 0 rfl) ?_
  refine lv_iload_n hx hb dX7_bit_1 rfl (lv_at hl 1 rfl) ?_
  refine lv_ishr hx hb dX7_bit_2 ?_
  refine lv_iconst (v := 1) hx hb dX7_bit_3 (by decide) ?_
  refine lv_iand hx hb dX7_bit_4 ?_
  exact wk_ret hx hb hr hlocks dX7_bit_5 (rfl)
theorem hdS_X7_isWithin : yX7_isWithin.cls ≠ "java/lang/invoke/MethodHandle" ∧ yX7_isWithin.cls ≠ "java/lang/invoke/VarHandle" ∧ (parseMethodDescriptor yX7_isWithin.desc).map (fun d => d.parameters.length) = some 2 := by decide +kernel
set_option maxHeartbeats 4000000 in
set_option maxRecDepth 100000 in
theorem c_X7_isWithin (l : Launch) (x : Int32) (y : Int32) : Met l yX7_isWithin wsX7_isWithin ({ frames := 0, cells := 0, slots := 0, locals := 0 }) (fun v _ => v = ([.int x, .int y] : List Value).toArray) (QcRead (b2i (pWithin x y))) 0 0 (fun _ => False) := by
  refine Met.ofW (cc := cX7_isWithin) (maxL := 2) (ret := (some .boolean)) (by decide) rfl ?_
  intro p e s m args below meth cd s₁ BB hml hv
  subst hv
  have hx := BB.exec
  have hb := BB.bytes
  have hr := BB.returns
  have hts := atoms_spec (ws := wsX7_isWithin) BB.pre
  have hown : s.vm.findClass RX7 = some m.cls := findClass_of_methodNamed BB.named
  have hlocks := BB.notSynchronized
  have hrc : 0 + 0 ≤ (headSpec wsX7_isWithin ({ frames := 0, cells := 0, slots := 0, locals := 0 })).room.cells := Nat.le_refl _
  have hrs : 0 + 0 ≤ (headSpec wsX7_isWithin ({ frames := 0, cells := 0, slots := 0, locals := 0 })).room.slots := Nat.le_refl _
  refine wk_enter (n := 2) (Nat.le_of_ble_eq_true rfl) (fun ls hl => ?_)
  have hl : lv_has ls 2 [(0, .int x), (1, .int y)] := hl
  refine lv_iload_n hx hb dX7_isWithin_0 rfl (lv_at hl 0 rfl) ?_
  refine lv_iload_n hx hb dX7_isWithin_1 rfl (lv_at hl 1 rfl) ?_
  refine lv_iconst (v := -1) hx hb dX7_isWithin_2 (by decide) ?_
  refine lv_ixor hx hb dX7_isWithin_3 ?_
  show W _ _ _ _ _ _ _ _ _ _ _ _ _ _ _ (F0 _ _ _ (.int (iv y) :: _))
  refine lv_iand hx hb dX7_isWithin_4 ?_
  refine lv_if_ne (tgt := 12) hx hb dX7_isWithin_5 (by decide) (fun c5 => ?_) (fun c5 => ?_)
  · refine lv_iconst (v := 0) hx hb dX7_isWithin_12 (by decide) ?_
    exact wk_zret hx hb hr hlocks dX7_isWithin_13 (by rfl) (b2i_cf c5)
  · refine lv_iconst (v := 1) hx hb dX7_isWithin_8 (by decide) ?_
    refine lv_goto (tgt := 13) hx hb dX7_isWithin_9 (by decide) ?_
    exact wk_zret hx hb hr hlocks dX7_isWithin_13 (by rfl) (b2i_ct c5)
theorem hdS_J6_bitCount_0f7a4 : yJ6_bitCount_0f7a4.cls ≠ "java/lang/invoke/MethodHandle" ∧ yJ6_bitCount_0f7a4.cls ≠ "java/lang/invoke/VarHandle" ∧ (parseMethodDescriptor yJ6_bitCount_0f7a4.desc).map (fun d => d.parameters.length) = some 1 := by decide +kernel
set_option maxHeartbeats 4000000 in
set_option maxRecDepth 100000 in
theorem c_J6_bitCount_0f7a4 (l : Launch) (x : Int32) : Met l yJ6_bitCount_0f7a4 wsJ6_bitCount_0f7a4 ({ frames := 0, cells := 0, slots := 0, locals := 0 }) (fun v _ => v = ([.int x] : List Value).toArray) (QcRead (pPop x)) 0 0 (fun _ => False) := by
  refine Met.ofW (cc := cJ6_bitCount_0f7a4) (maxL := 1) (ret := (some .int)) (by decide) rfl ?_
  intro p e s m args below meth cd s₁ BB hml hv
  subst hv
  have hx := BB.exec
  have hb := BB.bytes
  have hr := BB.returns
  have hts := atoms_spec (ws := wsJ6_bitCount_0f7a4) BB.pre
  have hown : s.vm.findClass RJ6 = some m.cls := findClass_of_methodNamed BB.named
  have hlocks := BB.notSynchronized
  have hrc : 0 + 0 ≤ (headSpec wsJ6_bitCount_0f7a4 ({ frames := 0, cells := 0, slots := 0, locals := 0 })).room.cells := Nat.le_refl _
  have hrs : 0 + 0 ≤ (headSpec wsJ6_bitCount_0f7a4 ({ frames := 0, cells := 0, slots := 0, locals := 0 })).room.slots := Nat.le_refl _
  refine wk_enter (n := 1) (Nat.le_of_ble_eq_true rfl) (fun ls hl => ?_)
  have hl : lv_has ls 1 [(0, .int x)] := hl
  refine lv_iload_n hx hb dJ6_bitCount_0f7a4_0 rfl (lv_at hl 0 rfl) ?_
  refine lv_iload_n hx hb dJ6_bitCount_0f7a4_1 rfl (lv_at hl 0 rfl) ?_
  refine lv_iconst (v := 1) hx hb dJ6_bitCount_0f7a4_2 (by decide) ?_
  refine lv_iushr hx hb dJ6_bitCount_0f7a4_3 rfl ?_
  refine lv_ldcw (v := 1431655765) hx hb hown (hts (.constant RJ6 265 (1431655765)) (by decide +kernel)) dJ6_bitCount_0f7a4_4 ?_
  refine lv_iand hx hb dJ6_bitCount_0f7a4_7 ?_
  refine lv_isub hx hb dJ6_bitCount_0f7a4_8 ?_
  refine lv_istore_n (lv' := [(0, .int (x - (((x.toUInt32 >>> (((1 : Int32)).toUInt32 &&& Int32.toUInt32 31)).toInt32) &&& 1431655765)))]) hx hb dJ6_bitCount_0f7a4_9 rfl hl (by decide) rfl (fun ls hl => ?_)
  refine lv_iload_n hx hb dJ6_bitCount_0f7a4_10 rfl (lv_at hl 0 rfl) ?_
  refine lv_ldcw (v := 858993459) hx hb hown (hts (.constant RJ6 266 (858993459)) (by decide +kernel)) dJ6_bitCount_0f7a4_11 ?_
  refine lv_iand hx hb dJ6_bitCount_0f7a4_14 ?_
  refine lv_iload_n hx hb dJ6_bitCount_0f7a4_15 rfl (lv_at hl 0 rfl) ?_
  refine lv_iconst (v := 2) hx hb dJ6_bitCount_0f7a4_16 (by decide) ?_
  refine lv_iushr hx hb dJ6_bitCount_0f7a4_17 rfl ?_
  refine lv_ldcw (v := 858993459) hx hb hown (hts (.constant RJ6 266 (858993459)) (by decide +kernel)) dJ6_bitCount_0f7a4_18 ?_
  refine lv_iand hx hb dJ6_bitCount_0f7a4_21 ?_
  refine lv_iadd hx hb dJ6_bitCount_0f7a4_22 ?_
  refine lv_istore_n (lv' := [(0, .int (((x - (((x.toUInt32 >>> (((1 : Int32)).toUInt32 &&& Int32.toUInt32 31)).toInt32) &&& 1431655765)) &&& 858993459) + ((((x - (((x.toUInt32 >>> (((1 : Int32)).toUInt32 &&& Int32.toUInt32 31)).toInt32) &&& 1431655765)).toUInt32 >>> (((2 : Int32)).toUInt32 &&& Int32.toUInt32 31)).toInt32) &&& 858993459)))]) hx hb dJ6_bitCount_0f7a4_23 rfl hl (by decide) rfl (fun ls hl => ?_)
  refine lv_iload_n hx hb dJ6_bitCount_0f7a4_24 rfl (lv_at hl 0 rfl) ?_
  refine lv_iload_n hx hb dJ6_bitCount_0f7a4_25 rfl (lv_at hl 0 rfl) ?_
  refine lv_iconst (v := 4) hx hb dJ6_bitCount_0f7a4_26 (by decide) ?_
  refine lv_iushr hx hb dJ6_bitCount_0f7a4_27 rfl ?_
  refine lv_iadd hx hb dJ6_bitCount_0f7a4_28 ?_
  refine lv_ldcw (v := 252645135) hx hb hown (hts (.constant RJ6 267 (252645135)) (by decide +kernel)) dJ6_bitCount_0f7a4_29 ?_
  refine lv_iand hx hb dJ6_bitCount_0f7a4_32 ?_
  refine lv_istore_n (lv' := [(0, .int (((((x - (((x.toUInt32 >>> (((1 : Int32)).toUInt32 &&& Int32.toUInt32 31)).toInt32) &&& 1431655765)) &&& 858993459) + ((((x - (((x.toUInt32 >>> (((1 : Int32)).toUInt32 &&& Int32.toUInt32 31)).toInt32) &&& 1431655765)).toUInt32 >>> (((2 : Int32)).toUInt32 &&& Int32.toUInt32 31)).toInt32) &&& 858993459)) + (((((x - (((x.toUInt32 >>> (((1 : Int32)).toUInt32 &&& Int32.toUInt32 31)).toInt32) &&& 1431655765)) &&& 858993459) + ((((x - (((x.toUInt32 >>> (((1 : Int32)).toUInt32 &&& Int32.toUInt32 31)).toInt32) &&& 1431655765)).toUInt32 >>> (((2 : Int32)).toUInt32 &&& Int32.toUInt32 31)).toInt32) &&& 858993459)).toUInt32 >>> (((4 : Int32)).toUInt32 &&& Int32.toUInt32 31)).toInt32)) &&& 252645135))]) hx hb dJ6_bitCount_0f7a4_33 rfl hl (by decide) rfl (fun ls hl => ?_)
  refine lv_iload_n hx hb dJ6_bitCount_0f7a4_34 rfl (lv_at hl 0 rfl) ?_
  refine lv_iload_n hx hb dJ6_bitCount_0f7a4_35 rfl (lv_at hl 0 rfl) ?_
  refine lv_bipush (v := 8) hx hb dJ6_bitCount_0f7a4_36 (by decide) ?_
  refine lv_iushr hx hb dJ6_bitCount_0f7a4_38 rfl ?_
  refine lv_iadd hx hb dJ6_bitCount_0f7a4_39 ?_
  refine lv_istore_n (lv' := [(0, .int ((((((x - (((x.toUInt32 >>> (((1 : Int32)).toUInt32 &&& Int32.toUInt32 31)).toInt32) &&& 1431655765)) &&& 858993459) + ((((x - (((x.toUInt32 >>> (((1 : Int32)).toUInt32 &&& Int32.toUInt32 31)).toInt32) &&& 1431655765)).toUInt32 >>> (((2 : Int32)).toUInt32 &&& Int32.toUInt32 31)).toInt32) &&& 858993459)) + (((((x - (((x.toUInt32 >>> (((1 : Int32)).toUInt32 &&& Int32.toUInt32 31)).toInt32) &&& 1431655765)) &&& 858993459) + ((((x - (((x.toUInt32 >>> (((1 : Int32)).toUInt32 &&& Int32.toUInt32 31)).toInt32) &&& 1431655765)).toUInt32 >>> (((2 : Int32)).toUInt32 &&& Int32.toUInt32 31)).toInt32) &&& 858993459)).toUInt32 >>> (((4 : Int32)).toUInt32 &&& Int32.toUInt32 31)).toInt32)) &&& 252645135) + (((((((x - (((x.toUInt32 >>> (((1 : Int32)).toUInt32 &&& Int32.toUInt32 31)).toInt32) &&& 1431655765)) &&& 858993459) + ((((x - (((x.toUInt32 >>> (((1 : Int32)).toUInt32 &&& Int32.toUInt32 31)).toInt32) &&& 1431655765)).toUInt32 >>> (((2 : Int32)).toUInt32 &&& Int32.toUInt32 31)).toInt32) &&& 858993459)) + (((((x - (((x.toUInt32 >>> (((1 : Int32)).toUInt32 &&& Int32.toUInt32 31)).toInt32) &&& 1431655765)) &&& 858993459) + ((((x - (((x.toUInt32 >>> (((1 : Int32)).toUInt32 &&& Int32.toUInt32 31)).toInt32) &&& 1431655765)).toUInt32 >>> (((2 : Int32)).toUInt32 &&& Int32.toUInt32 31)).toInt32) &&& 858993459)).toUInt32 >>> (((4 : Int32)).toUInt32 &&& Int32.toUInt32 31)).toInt32)) &&& 252645135).toUInt32 >>> (((8 : Int32)).toUInt32 &&& Int32.toUInt32 31)).toInt32)))]) hx hb dJ6_bitCount_0f7a4_40 rfl hl (by decide) rfl (fun ls hl => ?_)
  refine lv_iload_n hx hb dJ6_bitCount_0f7a4_41 rfl (lv_at hl 0 rfl) ?_
  refine lv_iload_n hx hb dJ6_bitCount_0f7a4_42 rfl (lv_at hl 0 rfl) ?_
  refine lv_bipush (v := 16) hx hb dJ6_bitCount_0f7a4_43 (by decide) ?_
  refine lv_iushr hx hb dJ6_bitCount_0f7a4_45 rfl ?_
  refine lv_iadd hx hb dJ6_bitCount_0f7a4_46 ?_
  refine lv_istore_n (lv' := [(0, .int (((((((x - (((x.toUInt32 >>> (((1 : Int32)).toUInt32 &&& Int32.toUInt32 31)).toInt32) &&& 1431655765)) &&& 858993459) + ((((x - (((x.toUInt32 >>> (((1 : Int32)).toUInt32 &&& Int32.toUInt32 31)).toInt32) &&& 1431655765)).toUInt32 >>> (((2 : Int32)).toUInt32 &&& Int32.toUInt32 31)).toInt32) &&& 858993459)) + (((((x - (((x.toUInt32 >>> (((1 : Int32)).toUInt32 &&& Int32.toUInt32 31)).toInt32) &&& 1431655765)) &&& 858993459) + ((((x - (((x.toUInt32 >>> (((1 : Int32)).toUInt32 &&& Int32.toUInt32 31)).toInt32) &&& 1431655765)).toUInt32 >>> (((2 : Int32)).toUInt32 &&& Int32.toUInt32 31)).toInt32) &&& 858993459)).toUInt32 >>> (((4 : Int32)).toUInt32 &&& Int32.toUInt32 31)).toInt32)) &&& 252645135) + (((((((x - (((x.toUInt32 >>> (((1 : Int32)).toUInt32 &&& Int32.toUInt32 31)).toInt32) &&& 1431655765)) &&& 858993459) + ((((x - (((x.toUInt32 >>> (((1 : Int32)).toUInt32 &&& Int32.toUInt32 31)).toInt32) &&& 1431655765)).toUInt32 >>> (((2 : Int32)).toUInt32 &&& Int32.toUInt32 31)).toInt32) &&& 858993459)) + (((((x - (((x.toUInt32 >>> (((1 : Int32)).toUInt32 &&& Int32.toUInt32 31)).toInt32) &&& 1431655765)) &&& 858993459) + ((((x - (((x.toUInt32 >>> (((1 : Int32)).toUInt32 &&& Int32.toUInt32 31)).toInt32) &&& 1431655765)).toUInt32 >>> (((2 : Int32)).toUInt32 &&& Int32.toUInt32 31)).toInt32) &&& 858993459)).toUInt32 >>> (((4 : Int32)).toUInt32 &&& Int32.toUInt32 31)).toInt32)) &&& 252645135).toUInt32 >>> (((8 : Int32)).toUInt32 &&& Int32.toUInt32 31)).toInt32)) + ((((((((x - (((x.toUInt32 >>> (((1 : Int32)).toUInt32 &&& Int32.toUInt32 31)).toInt32) &&& 1431655765)) &&& 858993459) + ((((x - (((x.toUInt32 >>> (((1 : Int32)).toUInt32 &&& Int32.toUInt32 31)).toInt32) &&& 1431655765)).toUInt32 >>> (((2 : Int32)).toUInt32 &&& Int32.toUInt32 31)).toInt32) &&& 858993459)) + (((((x - (((x.toUInt32 >>> (((1 : Int32)).toUInt32 &&& Int32.toUInt32 31)).toInt32) &&& 1431655765)) &&& 858993459) + ((((x - (((x.toUInt32 >>> (((1 : Int32)).toUInt32 &&& Int32.toUInt32 31)).toInt32) &&& 1431655765)).toUInt32 >>> (((2 : Int32)).toUInt32 &&& Int32.toUInt32 31)).toInt32) &&& 858993459)).toUInt32 >>> (((4 : Int32)).toUInt32 &&& Int32.toUInt32 31)).toInt32)) &&& 252645135) + (((((((x - (((x.toUInt32 >>> (((1 : Int32)).toUInt32 &&& Int32.toUInt32 31)).toInt32) &&& 1431655765)) &&& 858993459) + ((((x - (((x.toUInt32 >>> (((1 : Int32)).toUInt32 &&& Int32.toUInt32 31)).toInt32) &&& 1431655765)).toUInt32 >>> (((2 : Int32)).toUInt32 &&& Int32.toUInt32 31)).toInt32) &&& 858993459)) + (((((x - (((x.toUInt32 >>> (((1 : Int32)).toUInt32 &&& Int32.toUInt32 31)).toInt32) &&& 1431655765)) &&& 858993459) + ((((x - (((x.toUInt32 >>> (((1 : Int32)).toUInt32 &&& Int32.toUInt32 31)).toInt32) &&& 1431655765)).toUInt32 >>> (((2 : Int32)).toUInt32 &&& Int32.toUInt32 31)).toInt32) &&& 858993459)).toUInt32 >>> (((4 : Int32)).toUInt32 &&& Int32.toUInt32 31)).toInt32)) &&& 252645135).toUInt32 >>> (((8 : Int32)).toUInt32 &&& Int32.toUInt32 31)).toInt32)).toUInt32 >>> (((16 : Int32)).toUInt32 &&& Int32.toUInt32 31)).toInt32)))]) hx hb dJ6_bitCount_0f7a4_47 rfl hl (by decide) rfl (fun ls hl => ?_)
  refine lv_iload_n hx hb dJ6_bitCount_0f7a4_48 rfl (lv_at hl 0 rfl) ?_
  refine lv_bipush (v := 63) hx hb dJ6_bitCount_0f7a4_49 (by decide) ?_
  refine lv_iand hx hb dJ6_bitCount_0f7a4_51 ?_
  exact wk_ret hx hb hr hlocks dJ6_bitCount_0f7a4_52 (rfl)
theorem hdS_X7_noBill : yX7_noBill.cls ≠ "java/lang/invoke/MethodHandle" ∧ yX7_noBill.cls ≠ "java/lang/invoke/VarHandle" ∧ (parseMethodDescriptor yX7_noBill.desc).map (fun d => d.parameters.length) = some 1 := by decide +kernel
set_option maxHeartbeats 4000000 in
set_option maxRecDepth 100000 in
theorem c_X7_noBill (l : Launch) (t : Int32) : Met l yX7_noBill wsX7_noBill ({ frames := 0, cells := 0, slots := 0, locals := 0 }) (fun v _ => v = ([.int t] : List Value).toArray) (QcRead (b2i (pNoB t))) 0 0 (fun _ => False) := by
  refine Met.ofW (cc := cX7_noBill) (maxL := 1) (ret := (some .boolean)) (by decide) rfl ?_
  intro p e s m args below meth cd s₁ BB hml hv
  subst hv
  have hx := BB.exec
  have hb := BB.bytes
  have hr := BB.returns
  have hts := atoms_spec (ws := wsX7_noBill) BB.pre
  have hown : s.vm.findClass RX7 = some m.cls := findClass_of_methodNamed BB.named
  have hlocks := BB.notSynchronized
  have hrc : 0 + 0 ≤ (headSpec wsX7_noBill ({ frames := 0, cells := 0, slots := 0, locals := 0 })).room.cells := Nat.le_refl _
  have hrs : 0 + 0 ≤ (headSpec wsX7_noBill ({ frames := 0, cells := 0, slots := 0, locals := 0 })).room.slots := Nat.le_refl _
  refine wk_enter (n := 1) (Nat.le_of_ble_eq_true rfl) (fun ls hl => ?_)
  have hl : lv_has ls 1 [(0, .int t)] := hl
  refine lv_iload_n hx hb dX7_noBill_0 rfl (lv_at hl 0 rfl) ?_
  refine lv_if_lt (tgt := 9) hx hb dX7_noBill_1 (by decide) (fun c1 => ?_) (fun c1 => ?_)
  · refine lv_iconst (v := 1) hx hb dX7_noBill_9 (by decide) ?_
    refine lv_goto (tgt := 14) hx hb dX7_noBill_10 (by decide) ?_
    exact wk_zret hx hb hr hlocks dX7_noBill_14 (by rfl) (by simp [b2i, pNoB, c1])
  · refine lv_iload_n hx hb dX7_noBill_4 rfl (lv_at hl 0 rfl) ?_
    refine lv_iconst (v := 5) hx hb dX7_noBill_5 (by decide) ?_
    refine lv_icmp_lt (tgt := 13) hx hb dX7_noBill_6 (by decide) (fun c6 => ?_) (fun c6 => ?_)
    · refine lv_iconst (v := 0) hx hb dX7_noBill_13 (by decide) ?_
      exact wk_zret hx hb hr hlocks dX7_noBill_14 (by rfl) (by simp [b2i, pNoB, c1, c6])
    · refine lv_iconst (v := 1) hx hb dX7_noBill_9 (by decide) ?_
      refine lv_goto (tgt := 14) hx hb dX7_noBill_10 (by decide) ?_
      exact wk_zret hx hb hr hlocks dX7_noBill_14 (by rfl) (by simp [b2i, pNoB, c1, c6])
theorem hdS_X7_noTerm : yX7_noTerm.cls ≠ "java/lang/invoke/MethodHandle" ∧ yX7_noTerm.cls ≠ "java/lang/invoke/VarHandle" ∧ (parseMethodDescriptor yX7_noTerm.desc).map (fun d => d.parameters.length) = some 1 := by decide +kernel
set_option maxHeartbeats 4000000 in
set_option maxRecDepth 100000 in
theorem c_X7_noTerm (l : Launch) (t : Int32) : Met l yX7_noTerm wsX7_noTerm ({ frames := 0, cells := 0, slots := 0, locals := 0 }) (fun v _ => v = ([.int t] : List Value).toArray) (QcRead (b2i (pNoW t))) 0 0 (fun _ => False) := by
  refine Met.ofW (cc := cX7_noTerm) (maxL := 1) (ret := (some .boolean)) (by decide) rfl ?_
  intro p e s m args below meth cd s₁ BB hml hv
  subst hv
  have hx := BB.exec
  have hb := BB.bytes
  have hr := BB.returns
  have hts := atoms_spec (ws := wsX7_noTerm) BB.pre
  have hown : s.vm.findClass RX7 = some m.cls := findClass_of_methodNamed BB.named
  have hlocks := BB.notSynchronized
  have hrc : 0 + 0 ≤ (headSpec wsX7_noTerm ({ frames := 0, cells := 0, slots := 0, locals := 0 })).room.cells := Nat.le_refl _
  have hrs : 0 + 0 ≤ (headSpec wsX7_noTerm ({ frames := 0, cells := 0, slots := 0, locals := 0 })).room.slots := Nat.le_refl _
  refine wk_enter (n := 1) (Nat.le_of_ble_eq_true rfl) (fun ls hl => ?_)
  have hl : lv_has ls 1 [(0, .int t)] := hl
  refine lv_iload_n hx hb dX7_noTerm_0 rfl (lv_at hl 0 rfl) ?_
  refine lv_if_lt (tgt := 9) hx hb dX7_noTerm_1 (by decide) (fun c1 => ?_) (fun c1 => ?_)
  · refine lv_iconst (v := 1) hx hb dX7_noTerm_9 (by decide) ?_
    refine lv_goto (tgt := 14) hx hb dX7_noTerm_10 (by decide) ?_
    exact wk_zret hx hb hr hlocks dX7_noTerm_14 (by rfl) (by simp [b2i, pNoW, c1])
  · refine lv_iload_n hx hb dX7_noTerm_4 rfl (lv_at hl 0 rfl) ?_
    refine lv_iconst (v := 1) hx hb dX7_noTerm_5 (by decide) ?_
    refine lv_icmp_le (tgt := 13) hx hb dX7_noTerm_6 (by decide) (fun c6 => ?_) (fun c6 => ?_)
    · refine lv_iconst (v := 0) hx hb dX7_noTerm_13 (by decide) ?_
      exact wk_zret hx hb hr hlocks dX7_noTerm_14 (by rfl) (by simp [b2i, pNoW, c1, c6])
    · refine lv_iconst (v := 1) hx hb dX7_noTerm_9 (by decide) ?_
      refine lv_goto (tgt := 14) hx hb dX7_noTerm_10 (by decide) ?_
      exact wk_zret hx hb hr hlocks dX7_noTerm_14 (by rfl) (by simp [b2i, pNoW, c1, c6])
theorem hdS_X7_noImage : yX7_noImage.cls ≠ "java/lang/invoke/MethodHandle" ∧ yX7_noImage.cls ≠ "java/lang/invoke/VarHandle" ∧ (parseMethodDescriptor yX7_noImage.desc).map (fun d => d.parameters.length) = some 1 := by decide +kernel
set_option maxHeartbeats 4000000 in
set_option maxRecDepth 100000 in
theorem c_X7_noImage (l : Launch) (t : Int32) : Met l yX7_noImage wsX7_noImage ({ frames := 0, cells := 0, slots := 0, locals := 0 }) (fun v _ => v = ([.int t] : List Value).toArray) (QcRead (b2i (pNoI t))) 0 0 (fun _ => False) := by
  refine Met.ofW (cc := cX7_noImage) (maxL := 1) (ret := (some .boolean)) (by decide) rfl ?_
  intro p e s m args below meth cd s₁ BB hml hv
  subst hv
  have hx := BB.exec
  have hb := BB.bytes
  have hr := BB.returns
  have hts := atoms_spec (ws := wsX7_noImage) BB.pre
  have hown : s.vm.findClass RX7 = some m.cls := findClass_of_methodNamed BB.named
  have hlocks := BB.notSynchronized
  have hrc : 0 + 0 ≤ (headSpec wsX7_noImage ({ frames := 0, cells := 0, slots := 0, locals := 0 })).room.cells := Nat.le_refl _
  have hrs : 0 + 0 ≤ (headSpec wsX7_noImage ({ frames := 0, cells := 0, slots := 0, locals := 0 })).room.slots := Nat.le_refl _
  refine wk_enter (n := 1) (Nat.le_of_ble_eq_true rfl) (fun ls hl => ?_)
  have hl : lv_has ls 1 [(0, .int t)] := hl
  refine lv_iload_n hx hb dX7_noImage_0 rfl (lv_at hl 0 rfl) ?_
  refine lv_if_lt (tgt := 9) hx hb dX7_noImage_1 (by decide) (fun c1 => ?_) (fun c1 => ?_)
  · refine lv_iconst (v := 1) hx hb dX7_noImage_9 (by decide) ?_
    refine lv_goto (tgt := 14) hx hb dX7_noImage_10 (by decide) ?_
    exact wk_zret hx hb hr hlocks dX7_noImage_14 (by rfl) (by simp [b2i, pNoI, c1])
  · refine lv_iload_n hx hb dX7_noImage_4 rfl (lv_at hl 0 rfl) ?_
    refine lv_iconst (v := 2) hx hb dX7_noImage_5 (by decide) ?_
    refine lv_icmp_lt (tgt := 13) hx hb dX7_noImage_6 (by decide) (fun c6 => ?_) (fun c6 => ?_)
    · refine lv_iconst (v := 0) hx hb dX7_noImage_13 (by decide) ?_
      exact wk_zret hx hb hr hlocks dX7_noImage_14 (by rfl) (by simp [b2i, pNoI, c1, c6])
    · refine lv_iconst (v := 1) hx hb dX7_noImage_9 (by decide) ?_
      refine lv_goto (tgt := 14) hx hb dX7_noImage_10 (by decide) ?_
      exact wk_zret hx hb hr hlocks dX7_noImage_14 (by rfl) (by simp [b2i, pNoI, c1, c6])
theorem hdV_X7_noThing : yX7_noThing.cls = RX7 ∧ yX7_noThing.cls ≠ "java/lang/invoke/MethodHandle" ∧ yX7_noThing.cls ≠ "java/lang/invoke/VarHandle" ∧ (parseMethodDescriptor yX7_noThing.desc).map (fun d => d.parameters.length) = some 1 := by decide +kernel
set_option maxHeartbeats 4000000 in
set_option maxRecDepth 100000 in
theorem c_X7_noThing (l : Launch) (G : GG) (a : Nat → Nat) (c : CX) (hc : OkR c) (t : Int32) : Met l yX7_noThing wsX7_noThing ({ frames := 0, cells := 0, slots := 0, locals := 0 }) (va_Pc [.ref (a 0), .int t] (fun U => PreW G (WR G a c) U U.heap)) (QcRead (b2i (pNoT (cK c) t))) 0 0 (fun _ => False) := by
  refine Met.ofW (cc := cX7_noThing) (maxL := 2) (ret := (some .boolean)) (by decide) rfl ?_
  intro p e s m args below meth cd s₁ BB hml hv
  obtain ⟨rfl, hR⟩ := hv
  have hx := BB.exec
  have hb := BB.bytes
  have hr := BB.returns
  have hts := atoms_spec (ws := wsX7_noThing) BB.pre
  have hown : s.vm.findClass RX7 = some m.cls := findClass_of_methodNamed BB.named
  have hlocks := BB.notSynchronized
  have hrc : 0 + 0 ≤ (headSpec wsX7_noThing ({ frames := 0, cells := 0, slots := 0, locals := 0 })).room.cells := Nat.le_refl _
  have hrs : 0 + 0 ≤ (headSpec wsX7_noThing ({ frames := 0, cells := 0, slots := 0, locals := 0 })).room.slots := Nat.le_refl _
  have hP := hR.1
  have hK := hR.2.1
  have hN := hR.2.2
  obtain ⟨hk7, ho1, ho5, hi6, hl200, hnx, hkn⟩ := id hc
  have hin0 : ∀ w ∈ u_ws RX0 TX0 7, w ∈ wsX7_noThing := by decide +kernel
  have hin7 : ∀ w ∈ u_ws RX7 TX7 13, w ∈ wsX7_noThing := by decide +kernel
  have hf20 := hts (.fieldLink RX7 20 "RegaliaVotes" "told" "LRegaliaVotes$Council;") (by decide +kernel)
  have hf274 := hts (.fieldLink RX7 274 "RegaliaVotes$Council" "things" "I") (by decide +kernel)
  refine wk_enter (n := 2) (Nat.le_of_ble_eq_true rfl) (fun ls hl => ?_)
  have hl : lv_has ls 2 [(0, .ref (a 0)), (1, .int t)] := hl
  refine lv_iload_n hx hb dX7_noThing_0 rfl (lv_at hl 1 rfl) ?_
  refine lv_if_lt (tgt := 15) hx hb dX7_noThing_1 (by decide) (fun c1 => ?_) (fun c1 => ?_)
  · refine lv_iconst (v := 1) hx hb dX7_noThing_15 (by decide) ?_
    refine lv_goto (tgt := 20) hx hb dX7_noThing_16 (by decide) ?_
    exact wk_zret hx hb hr hlocks dX7_noThing_20 (by rfl) (by simp [b2i, pNoT, c1])
  · refine lv_iload_n hx hb dX7_noThing_4 rfl (lv_at hl 1 rfl) ?_
    refine lv_aload_n hx hb dX7_noThing_5 rfl (lv_at hl 0 rfl) ?_
    refine va_get (D := G.1) (v := .ref (a 1)) hx hb hts hin7 hown hK hP 0 rfl rfl 2 (by decide) hf20 (fun _ h => h) rfl dX7_noThing_6 ?_
    refine va_get (D := G.1) (v := .int (nI (kT (cK c)))) hx hb hts hin0 hown hK hP 1 rfl rfl 0 (by decide) hf274 (fun _ h => h) rfl dX7_noThing_9 ?_
    refine lv_icmp_lt (tgt := 19) hx hb dX7_noThing_12 (by decide) (fun c12 => ?_) (fun c12 => ?_)
    · refine lv_iconst (v := 0) hx hb dX7_noThing_19 (by decide) ?_
      exact wk_zret hx hb hr hlocks dX7_noThing_20 (by rfl) (by simp [b2i, pNoT, c1, c12])
    · refine lv_iconst (v := 1) hx hb dX7_noThing_15 (by decide) ?_
      refine lv_goto (tgt := 20) hx hb dX7_noThing_16 (by decide) ?_
      exact wk_zret hx hb hr hlocks dX7_noThing_20 (by rfl) (by simp [b2i, pNoT, c1, c12])
theorem hdV_X7_noOfficer : yX7_noOfficer.cls = RX7 ∧ yX7_noOfficer.cls ≠ "java/lang/invoke/MethodHandle" ∧ yX7_noOfficer.cls ≠ "java/lang/invoke/VarHandle" ∧ (parseMethodDescriptor yX7_noOfficer.desc).map (fun d => d.parameters.length) = some 1 := by decide +kernel
set_option maxHeartbeats 4000000 in
set_option maxRecDepth 100000 in
theorem c_X7_noOfficer (l : Launch) (G : GG) (a : Nat → Nat) (c : CX) (hc : OkR c) (t : Int32) : Met l yX7_noOfficer wsX7_noOfficer ({ frames := 0, cells := 0, slots := 0, locals := 0 }) (va_Pc [.ref (a 0), .int t] (fun U => PreW G (WR G a c) U U.heap)) (QcRead (b2i (pNoO (cK c) t))) 0 0 (fun _ => False) := by
  refine Met.ofW (cc := cX7_noOfficer) (maxL := 2) (ret := (some .boolean)) (by decide) rfl ?_
  intro p e s m args below meth cd s₁ BB hml hv
  obtain ⟨rfl, hR⟩ := hv
  have hx := BB.exec
  have hb := BB.bytes
  have hr := BB.returns
  have hts := atoms_spec (ws := wsX7_noOfficer) BB.pre
  have hown : s.vm.findClass RX7 = some m.cls := findClass_of_methodNamed BB.named
  have hlocks := BB.notSynchronized
  have hrc : 0 + 0 ≤ (headSpec wsX7_noOfficer ({ frames := 0, cells := 0, slots := 0, locals := 0 })).room.cells := Nat.le_refl _
  have hrs : 0 + 0 ≤ (headSpec wsX7_noOfficer ({ frames := 0, cells := 0, slots := 0, locals := 0 })).room.slots := Nat.le_refl _
  have hP := hR.1
  have hK := hR.2.1
  have hN := hR.2.2
  obtain ⟨hk7, ho1, ho5, hi6, hl200, hnx, hkn⟩ := id hc
  have hin0 : ∀ w ∈ u_ws RX0 TX0 7, w ∈ wsX7_noOfficer := by decide +kernel
  have hin7 : ∀ w ∈ u_ws RX7 TX7 13, w ∈ wsX7_noOfficer := by decide +kernel
  have hf20 := hts (.fieldLink RX7 20 "RegaliaVotes" "told" "LRegaliaVotes$Council;") (by decide +kernel)
  have hf277 := hts (.fieldLink RX7 277 "RegaliaVotes$Council" "officers" "I") (by decide +kernel)
  refine wk_enter (n := 2) (Nat.le_of_ble_eq_true rfl) (fun ls hl => ?_)
  have hl : lv_has ls 2 [(0, .ref (a 0)), (1, .int t)] := hl
  refine lv_iload_n hx hb dX7_noOfficer_0 rfl (lv_at hl 1 rfl) ?_
  refine lv_if_lt (tgt := 15) hx hb dX7_noOfficer_1 (by decide) (fun c1 => ?_) (fun c1 => ?_)
  · refine lv_iconst (v := 1) hx hb dX7_noOfficer_15 (by decide) ?_
    refine lv_goto (tgt := 20) hx hb dX7_noOfficer_16 (by decide) ?_
    exact wk_zret hx hb hr hlocks dX7_noOfficer_20 (by rfl) (by simp [b2i, pNoO, c1])
  · refine lv_iload_n hx hb dX7_noOfficer_4 rfl (lv_at hl 1 rfl) ?_
    refine lv_aload_n hx hb dX7_noOfficer_5 rfl (lv_at hl 0 rfl) ?_
    refine va_get (D := G.1) (v := .ref (a 1)) hx hb hts hin7 hown hK hP 0 rfl rfl 2 (by decide) hf20 (fun _ h => h) rfl dX7_noOfficer_6 ?_
    refine va_get (D := G.1) (v := .int (nI (kO (cK c)))) hx hb hts hin0 hown hK hP 1 rfl rfl 1 (by decide) hf277 (fun _ h => h) rfl dX7_noOfficer_9 ?_
    refine lv_icmp_lt (tgt := 19) hx hb dX7_noOfficer_12 (by decide) (fun c12 => ?_) (fun c12 => ?_)
    · refine lv_iconst (v := 0) hx hb dX7_noOfficer_19 (by decide) ?_
      exact wk_zret hx hb hr hlocks dX7_noOfficer_20 (by rfl) (by simp [b2i, pNoO, c1, c12])
    · refine lv_iconst (v := 1) hx hb dX7_noOfficer_15 (by decide) ?_
      refine lv_goto (tgt := 20) hx hb dX7_noOfficer_16 (by decide) ?_
      exact wk_zret hx hb hr hlocks dX7_noOfficer_20 (by rfl) (by simp [b2i, pNoO, c1, c12])
theorem hdV_X6_able : yX6_able.cls = RX6 ∧ yX6_able.cls ≠ "java/lang/invoke/MethodHandle" ∧ yX6_able.cls ≠ "java/lang/invoke/VarHandle" ∧ (parseMethodDescriptor yX6_able.desc).map (fun d => d.parameters.length) = some 0 := by decide +kernel
set_option maxHeartbeats 4000000 in
set_option maxRecDepth 100000 in
theorem c_X6_able (l : Launch) (G : GG) (a : Nat → Nat) (c : CX) (hc : OkR c) : Met l yX6_able wsX6_able ({ frames := 0, cells := 0, slots := 0, locals := 0 }) (va_Pc [.ref (a 9)] (fun U => PreW G (WR G a c) U U.heap)) (QcRead (pAble (cK c) (cM c))) 0 0 (fun _ => False) := by
  refine Met.ofW (cc := cX6_able) (maxL := 4) (ret := (some .int)) (by decide) rfl ?_
  intro p e s m args below meth cd s₁ BB hml hv
  obtain ⟨rfl, hR⟩ := hv
  have hx := BB.exec
  have hb := BB.bytes
  have hr := BB.returns
  have hts := atoms_spec (ws := wsX6_able) BB.pre
  have hown : s.vm.findClass RX6 = some m.cls := findClass_of_methodNamed BB.named
  have hlocks := BB.notSynchronized
  have hrc : 0 + 0 ≤ (headSpec wsX6_able ({ frames := 0, cells := 0, slots := 0, locals := 0 })).room.cells := Nat.le_refl _
  have hrs : 0 + 0 ≤ (headSpec wsX6_able ({ frames := 0, cells := 0, slots := 0, locals := 0 })).room.slots := Nat.le_refl _
  have hP := hR.1
  have hK := hR.2.1
  have hN := hR.2.2
  obtain ⟨hk7, ho1, ho5, hi6, hl200, hnx, hkn⟩ := id hc
  have hin0 : ∀ w ∈ u_ws RX0 TX0 7, w ∈ wsX6_able := by decide +kernel
  have hin2 : ∀ w ∈ u_ws RX2 TX2 7, w ∈ wsX6_able := by decide +kernel
  have hin6 : ∀ w ∈ u_ws RX6 TX6 2, w ∈ wsX6_able := by decide +kernel
  have hf9 := hts (.fieldLink RX6 9 "RegaliaVotes$Vote" "told" "LRegaliaVotes$Council;") (by decide +kernel)
  have hf15 := hts (.fieldLink RX6 15 "RegaliaVotes$Vote" "moment" "LRegaliaVotes$Moment;") (by decide +kernel)
  have hf19 := hts (.fieldLink RX6 19 "RegaliaVotes$Council" "things" "I") (by decide +kernel)
  have hf25 := hts (.fieldLink RX6 25 "RegaliaVotes$Council" "sort" "[I") (by decide +kernel)
  have hf29 := hts (.fieldLink RX6 29 "RegaliaVotes$Moment" "warmth" "[I") (by decide +kernel)
  have hf34 := hts (.fieldLink RX6 34 "RegaliaVotes$Moment" "wash" "I") (by decide +kernel)
  refine wk_enter (n := 4) (Nat.le_of_ble_eq_true rfl) (fun ls hl => ?_)
  have hl : lv_has ls 4 [(0, .ref (a 9))] := hl
  refine lv_iconst (v := 0) hx hb dX6_able_0 (by decide) ?_
  refine lv_istore_n (lv' := [(1, .int 0), (0, .ref (a 9))]) hx hb dX6_able_1 rfl hl (by decide) rfl (fun ls hl => ?_)
  refine lv_iconst (v := 0) hx hb dX6_able_2 (by decide) ?_
  refine lv_istore_n (lv' := [(2, .int 0), (1, .int 0), (0, .ref (a 9))]) hx hb dX6_able_3 rfl hl (by decide) rfl (fun ls hl => ?_)
  refine wk_loop (σ := Nat × Int32) (nL := 4) (fun xσ n => match xσ with | (i, z) => i + n = kT (cK c) ∧ z = pAbleF (cK c) (cM c) i) (fun xσ => match xσ with | (i, z) => [(2, .int (nI i)), (1, .int z), (0, .ref (a 9))]) (0, 0) (kT (cK c)) (⟨by omega, rfl⟩) hl ?_
  rintro n4 ⟨i, z⟩ ls hI4 hl ih4
  have hl : lv_has ls 4 [(2, .int (nI i)), (1, .int z), (0, .ref (a 9))] := hl
  obtain ⟨hi, hz⟩ := hI4
  refine lv_iload_n hx hb dX6_able_4 rfl (lv_at hl 0 rfl) ?_
  refine lv_aload_n hx hb dX6_able_5 rfl (lv_at hl 2 rfl) ?_
  refine va_get (D := G.1) (v := .ref (a 1)) hx hb hts hin6 hown hK hP 9 rfl rfl 0 (by decide) hf9 (fun _ h => h) rfl dX6_able_6 ?_
  refine va_get (D := G.1) (v := .int (nI (kT (cK c)))) hx hb hts hin0 hown hK hP 1 rfl rfl 0 (by decide) hf19 (fun _ h => h) rfl dX6_able_9 ?_
  refine wk_ge (x := i) (y := (kT (cK c))) (tgt := 75) hx hb (by omega) (by omega) dX6_able_12 (by decide) (fun c12 => ?_) (fun c12 => ?_)
  · refine lv_iload_n hx hb dX6_able_75 rfl (lv_at hl 1 rfl) ?_
    refine lv_aload_n hx hb dX6_able_76 rfl (lv_at hl 2 rfl) ?_
    refine va_get (D := G.1) (v := .ref (a 6)) hx hb hts hin6 hown hK hP 9 rfl rfl 1 (by decide) hf15 (fun _ h => h) rfl dX6_able_77 ?_
    refine va_get (D := G.1) (v := .int (mWa (cM c))) hx hb hts hin2 hown hK hP 6 rfl rfl 2 (by decide) hf34 (fun _ h => h) rfl dX6_able_80 ?_
    refine lv_iconst (v := -1) hx hb dX6_able_83 (by decide) ?_
    refine lv_ixor hx hb dX6_able_84 ?_
    show W _ _ _ _ _ _ _ _ _ _ _ _ _ _ _ (F0 _ _ _ (.int (iv (mWa (cM c))) :: _))
    refine lv_iand hx hb dX6_able_85 ?_
    exact wk_ret hx hb hr hlocks dX6_able_86 (by rw [hz, show i = kT (cK c) by omega]; rfl)
  · refine lv_aload_n hx hb dX6_able_15 rfl (lv_at hl 2 rfl) ?_
    refine va_get (D := G.1) (v := .ref (a 1)) hx hb hts hin6 hown hK hP 9 rfl rfl 0 (by decide) hf9 (fun _ h => h) rfl dX6_able_16 ?_
    refine va_get (D := G.1) (v := .ref (a 2)) hx hb hts hin0 hown hK hP 1 rfl rfl 3 (by decide) hf25 (fun _ h => h) rfl dX6_able_19 ?_
    refine lv_iload_n hx hb dX6_able_22 rfl (lv_at hl 0 rfl) ?_
    refine wk_iald (i := i) hx hb hK hP 2 1 rfl rfl (by omega) (Nat.le_of_ble_eq_true rfl) dX6_able_23 ?_
    refine lv_iconst (v := 1) hx hb dX6_able_24 (by decide) ?_
    refine lv_icmp_ne (tgt := 44) hx hb dX6_able_25 (by decide) (fun c25 => ?_) (fun c25 => ?_)
    · refine lv_iconst (v := 0) hx hb dX6_able_44 (by decide) ?_
      refine lv_istore_n (lv' := [(3, .int 0), (2, .int (nI i)), (1, .int z), (0, .ref (a 9))]) hx hb dX6_able_45 rfl hl (by decide) rfl (fun ls hl => ?_)
      refine lv_aload_n hx hb dX6_able_46 rfl (lv_at hl 3 rfl) ?_
      refine va_get (D := G.1) (v := .ref (a 1)) hx hb hts hin6 hown hK hP 9 rfl rfl 0 (by decide) hf9 (fun _ h => h) rfl dX6_able_47 ?_
      refine va_get (D := G.1) (v := .ref (a 2)) hx hb hts hin0 hown hK hP 1 rfl rfl 3 (by decide) hf25 (fun _ h => h) rfl dX6_able_50 ?_
      refine lv_iload_n hx hb dX6_able_53 rfl (lv_at hl 1 rfl) ?_
      refine wk_iald (i := i) hx hb hK hP 2 1 rfl rfl (by omega) (Nat.le_of_ble_eq_true rfl) dX6_able_54 ?_
      refine lv_iconst (v := 3) hx hb dX6_able_55 (by decide) ?_
      refine lv_icmp_eq (tgt := 69) hx hb dX6_able_56 (by decide) (fun c56 => ?_) (fun c56 => ?_)
      · refine lv_iinc (v := (nI (i + 1))) (lv' := [(2, .int (nI (i + 1))), (3, .int 0), (1, .int z), (0, .ref (a 9))]) hx hb dX6_able_69 hl (k := 1) rfl (wk_i1 i) (by decide) rfl (fun ls hl => ?_)
        refine lv_goto (tgt := 4) hx hb dX6_able_72 (by decide) ?_
        exact ih4 (i + 1, z) (n4 - 1) ls (by omega) (⟨by omega, by rw [hz]; first | (simp [pAbleF, fo_s, c12, c25, c56]; done) | exact absurd (c25.symm.trans c56) (by decide)⟩) (lv_sub hl [0, 2, 3] rfl)
      · refine lv_iload_n hx hb dX6_able_59 rfl (lv_at hl 0 rfl) ?_
        refine lv_if_ne (tgt := 69) hx hb dX6_able_60 (by decide) (fun c60 => ?_) (fun c60 => ?_)
        · exact absurd c60 (by decide)
        · refine lv_iload_n hx hb dX6_able_63 rfl (lv_at hl 2 rfl) ?_
          refine lv_iconst (v := 1) hx hb dX6_able_64 (by decide) ?_
          refine lv_iload_n hx hb dX6_able_65 rfl (lv_at hl 1 rfl) ?_
          refine lv_ishl hx hb dX6_able_66 ?_
          show W _ _ _ _ _ _ _ _ _ _ _ _ _ _ _ (F0 _ _ _ (.int (sh1 (nI i)) :: _))
          refine lv_ior hx hb dX6_able_67 ?_
          refine lv_istore_n (lv' := [(1, .int (z ||| (sh1 (nI i)))), (3, .int 0), (2, .int (nI i)), (0, .ref (a 9))]) hx hb dX6_able_68 rfl hl (by decide) rfl (fun ls hl => ?_)
          refine lv_iinc (v := (nI (i + 1))) (lv' := [(2, .int (nI (i + 1))), (1, .int (z ||| (sh1 (nI i)))), (3, .int 0), (0, .ref (a 9))]) hx hb dX6_able_69 hl (k := 2) rfl (wk_i1 i) (by decide) rfl (fun ls hl => ?_)
          refine lv_goto (tgt := 4) hx hb dX6_able_72 (by decide) ?_
          exact ih4 (i + 1, (z ||| (sh1 (nI i)))) (n4 - 1) ls (by omega) (⟨by omega, by rw [hz]; first | (simp [pAbleF, fo_s, c12, c25, c56]; done) | exact absurd (c25.symm.trans c56) (by decide)⟩) (lv_sub hl [0, 1, 3] rfl)
    · refine lv_aload_n hx hb dX6_able_28 rfl (lv_at hl 2 rfl) ?_
      refine va_get (D := G.1) (v := .ref (a 6)) hx hb hts hin6 hown hK hP 9 rfl rfl 1 (by decide) hf15 (fun _ h => h) rfl dX6_able_29 ?_
      refine va_get (D := G.1) (v := .ref (a 8)) hx hb hts hin2 hown hK hP 6 rfl rfl 1 (by decide) hf29 (fun _ h => h) rfl dX6_able_32 ?_
      refine lv_iload_n hx hb dX6_able_35 rfl (lv_at hl 0 rfl) ?_
      refine wk_iald (i := i) hx hb hK hP 8 1 rfl rfl (by omega) (Nat.le_of_ble_eq_true rfl) dX6_able_36 ?_
      refine lv_if_ne (tgt := 44) hx hb dX6_able_37 (by decide) (fun c37 => ?_) (fun c37 => ?_)
      · refine lv_iconst (v := 0) hx hb dX6_able_44 (by decide) ?_
        refine lv_istore_n (lv' := [(3, .int 0), (2, .int (nI i)), (1, .int z), (0, .ref (a 9))]) hx hb dX6_able_45 rfl hl (by decide) rfl (fun ls hl => ?_)
        refine lv_aload_n hx hb dX6_able_46 rfl (lv_at hl 3 rfl) ?_
        refine va_get (D := G.1) (v := .ref (a 1)) hx hb hts hin6 hown hK hP 9 rfl rfl 0 (by decide) hf9 (fun _ h => h) rfl dX6_able_47 ?_
        refine va_get (D := G.1) (v := .ref (a 2)) hx hb hts hin0 hown hK hP 1 rfl rfl 3 (by decide) hf25 (fun _ h => h) rfl dX6_able_50 ?_
        refine lv_iload_n hx hb dX6_able_53 rfl (lv_at hl 1 rfl) ?_
        refine wk_iald (i := i) hx hb hK hP 2 1 rfl rfl (by omega) (Nat.le_of_ble_eq_true rfl) dX6_able_54 ?_
        refine lv_iconst (v := 3) hx hb dX6_able_55 (by decide) ?_
        refine lv_icmp_eq (tgt := 69) hx hb dX6_able_56 (by decide) (fun c56 => ?_) (fun c56 => ?_)
        · refine lv_iinc (v := (nI (i + 1))) (lv' := [(2, .int (nI (i + 1))), (3, .int 0), (1, .int z), (0, .ref (a 9))]) hx hb dX6_able_69 hl (k := 1) rfl (wk_i1 i) (by decide) rfl (fun ls hl => ?_)
          refine lv_goto (tgt := 4) hx hb dX6_able_72 (by decide) ?_
          exact ih4 (i + 1, z) (n4 - 1) ls (by omega) (⟨by omega, by rw [hz]; first | (simp [pAbleF, fo_s, c12, c25, c37, c56]; done) | exact absurd (c25.symm.trans c56) (by decide)⟩) (lv_sub hl [0, 2, 3] rfl)
        · refine lv_iload_n hx hb dX6_able_59 rfl (lv_at hl 0 rfl) ?_
          refine lv_if_ne (tgt := 69) hx hb dX6_able_60 (by decide) (fun c60 => ?_) (fun c60 => ?_)
          · exact absurd c60 (by decide)
          · refine lv_iload_n hx hb dX6_able_63 rfl (lv_at hl 2 rfl) ?_
            refine lv_iconst (v := 1) hx hb dX6_able_64 (by decide) ?_
            refine lv_iload_n hx hb dX6_able_65 rfl (lv_at hl 1 rfl) ?_
            refine lv_ishl hx hb dX6_able_66 ?_
            show W _ _ _ _ _ _ _ _ _ _ _ _ _ _ _ (F0 _ _ _ (.int (sh1 (nI i)) :: _))
            refine lv_ior hx hb dX6_able_67 ?_
            refine lv_istore_n (lv' := [(1, .int (z ||| (sh1 (nI i)))), (3, .int 0), (2, .int (nI i)), (0, .ref (a 9))]) hx hb dX6_able_68 rfl hl (by decide) rfl (fun ls hl => ?_)
            refine lv_iinc (v := (nI (i + 1))) (lv' := [(2, .int (nI (i + 1))), (1, .int (z ||| (sh1 (nI i)))), (3, .int 0), (0, .ref (a 9))]) hx hb dX6_able_69 hl (k := 2) rfl (wk_i1 i) (by decide) rfl (fun ls hl => ?_)
            refine lv_goto (tgt := 4) hx hb dX6_able_72 (by decide) ?_
            exact ih4 (i + 1, (z ||| (sh1 (nI i)))) (n4 - 1) ls (by omega) (⟨by omega, by rw [hz]; first | (simp [pAbleF, fo_s, c12, c25, c37, c56]; done) | exact absurd (c25.symm.trans c56) (by decide)⟩) (lv_sub hl [0, 1, 3] rfl)
      · refine lv_iconst (v := 1) hx hb dX6_able_40 (by decide) ?_
        refine lv_goto (tgt := 45) hx hb dX6_able_41 (by decide) ?_
        refine lv_istore_n (lv' := [(3, .int 1), (2, .int (nI i)), (1, .int z), (0, .ref (a 9))]) hx hb dX6_able_45 rfl hl (by decide) rfl (fun ls hl => ?_)
        refine lv_aload_n hx hb dX6_able_46 rfl (lv_at hl 3 rfl) ?_
        refine va_get (D := G.1) (v := .ref (a 1)) hx hb hts hin6 hown hK hP 9 rfl rfl 0 (by decide) hf9 (fun _ h => h) rfl dX6_able_47 ?_
        refine va_get (D := G.1) (v := .ref (a 2)) hx hb hts hin0 hown hK hP 1 rfl rfl 3 (by decide) hf25 (fun _ h => h) rfl dX6_able_50 ?_
        refine lv_iload_n hx hb dX6_able_53 rfl (lv_at hl 1 rfl) ?_
        refine wk_iald (i := i) hx hb hK hP 2 1 rfl rfl (by omega) (Nat.le_of_ble_eq_true rfl) dX6_able_54 ?_
        refine lv_iconst (v := 3) hx hb dX6_able_55 (by decide) ?_
        refine lv_icmp_eq (tgt := 69) hx hb dX6_able_56 (by decide) (fun c56 => ?_) (fun c56 => ?_)
        · refine lv_iinc (v := (nI (i + 1))) (lv' := [(2, .int (nI (i + 1))), (3, .int 1), (1, .int z), (0, .ref (a 9))]) hx hb dX6_able_69 hl (k := 1) rfl (wk_i1 i) (by decide) rfl (fun ls hl => ?_)
          refine lv_goto (tgt := 4) hx hb dX6_able_72 (by decide) ?_
          exact ih4 (i + 1, z) (n4 - 1) ls (by omega) (⟨by omega, by rw [hz]; first | (simp [pAbleF, fo_s, c12, c25, c37, c56]; done) | exact absurd (c25.symm.trans c56) (by decide)⟩) (lv_sub hl [0, 2, 3] rfl)
        · refine lv_iload_n hx hb dX6_able_59 rfl (lv_at hl 0 rfl) ?_
          refine lv_if_ne (tgt := 69) hx hb dX6_able_60 (by decide) (fun c60 => ?_) (fun c60 => ?_)
          · refine lv_iinc (v := (nI (i + 1))) (lv' := [(2, .int (nI (i + 1))), (3, .int 1), (1, .int z), (0, .ref (a 9))]) hx hb dX6_able_69 hl (k := 1) rfl (wk_i1 i) (by decide) rfl (fun ls hl => ?_)
            refine lv_goto (tgt := 4) hx hb dX6_able_72 (by decide) ?_
            exact ih4 (i + 1, z) (n4 - 1) ls (by omega) (⟨by omega, by rw [hz]; first | (simp [pAbleF, fo_s, c12, c25, c37, c56]; done) | exact absurd (c25.symm.trans c56) (by decide)⟩) (lv_sub hl [0, 2, 3] rfl)
          · exact absurd c60 (by decide)
theorem hdV_X6_heldBy : yX6_heldBy.cls = RX6 ∧ yX6_heldBy.cls ≠ "java/lang/invoke/MethodHandle" ∧ yX6_heldBy.cls ≠ "java/lang/invoke/VarHandle" ∧ (parseMethodDescriptor yX6_heldBy.desc).map (fun d => d.parameters.length) = some 1 := by decide +kernel
set_option maxHeartbeats 4000000 in
set_option maxRecDepth 100000 in
theorem c_X6_heldBy (l : Launch) (G : GG) (a : Nat → Nat) (c : CX) (hc : OkR c) (offs : Int32) : Met l yX6_heldBy wsX6_heldBy ({ frames := 1, cells := 0, slots := 0, locals := 21 }) (va_Pc [.ref (a 9), .int offs] (fun U => PreW G (WR G a c) U U.heap)) (QcRead (pHeld (cK c) (cM c) offs)) 0 0 (fun _ => False) := by
  refine Met.ofW (cc := cX6_heldBy) (maxL := 4) (ret := (some .int)) (by decide) rfl ?_
  intro p e s m args below meth cd s₁ BB hml hv
  obtain ⟨rfl, hR⟩ := hv
  have hx := BB.exec
  have hb := BB.bytes
  have hr := BB.returns
  have hts := atoms_spec (ws := wsX6_heldBy) BB.pre
  have hown : s.vm.findClass RX6 = some m.cls := findClass_of_methodNamed BB.named
  have hlocks := BB.notSynchronized
  have hrc : 0 + 0 ≤ (headSpec wsX6_heldBy ({ frames := 1, cells := 0, slots := 0, locals := 21 })).room.cells := Nat.le_refl _
  have hrs : 0 + 0 ≤ (headSpec wsX6_heldBy ({ frames := 1, cells := 0, slots := 0, locals := 21 })).room.slots := Nat.le_refl _
  have hP := hR.1
  have hK := hR.2.1
  have hN := hR.2.2
  obtain ⟨hk7, ho1, ho5, hi6, hl200, hnx, hkn⟩ := id hc
  have hin0 : ∀ w ∈ u_ws RX0 TX0 7, w ∈ wsX6_heldBy := by decide +kernel
  have hin2 : ∀ w ∈ u_ws RX2 TX2 7, w ∈ wsX6_heldBy := by decide +kernel
  have hin6 : ∀ w ∈ u_ws RX6 TX6 2, w ∈ wsX6_heldBy := by decide +kernel
  have hf9 := hts (.fieldLink RX6 9 "RegaliaVotes$Vote" "told" "LRegaliaVotes$Council;") (by decide +kernel)
  have hf15 := hts (.fieldLink RX6 15 "RegaliaVotes$Vote" "moment" "LRegaliaVotes$Moment;") (by decide +kernel)
  have hf19 := hts (.fieldLink RX6 19 "RegaliaVotes$Council" "things" "I") (by decide +kernel)
  have hf37 := hts (.fieldLink RX6 37 "RegaliaVotes$Moment" "holder" "[I") (by decide +kernel)
  refine wk_enter (n := 4) (Nat.le_of_ble_eq_true rfl) (fun ls hl => ?_)
  have hl : lv_has ls 4 [(0, .ref (a 9)), (1, .int offs)] := hl
  refine lv_iconst (v := 0) hx hb dX6_heldBy_0 (by decide) ?_
  refine lv_istore_n (lv' := [(2, .int 0), (0, .ref (a 9)), (1, .int offs)]) hx hb dX6_heldBy_1 rfl hl (by decide) rfl (fun ls hl => ?_)
  refine lv_iconst (v := 0) hx hb dX6_heldBy_2 (by decide) ?_
  refine lv_istore_n (lv' := [(3, .int 0), (2, .int 0), (0, .ref (a 9)), (1, .int offs)]) hx hb dX6_heldBy_3 rfl hl (by decide) rfl (fun ls hl => ?_)
  refine wk_loop (σ := Nat × Int32) (nL := 4) (fun xσ n => match xσ with | (i, z) => i + n = kT (cK c) ∧ z = pHeldF (cM c) offs i) (fun xσ => match xσ with | (i, z) => [(3, .int (nI i)), (2, .int z), (0, .ref (a 9)), (1, .int offs)]) (0, 0) (kT (cK c)) (⟨by omega, rfl⟩) hl ?_
  rintro n4 ⟨i, z⟩ ls hI4 hl ih4
  have hl : lv_has ls 4 [(3, .int (nI i)), (2, .int z), (0, .ref (a 9)), (1, .int offs)] := hl
  obtain ⟨hi, hz⟩ := hI4
  refine lv_iload_n hx hb dX6_heldBy_4 rfl (lv_at hl 0 rfl) ?_
  refine lv_aload_n hx hb dX6_heldBy_5 rfl (lv_at hl 2 rfl) ?_
  refine va_get (D := G.1) (v := .ref (a 1)) hx hb hts hin6 hown hK hP 9 rfl rfl 0 (by decide) hf9 (fun _ h => h) rfl dX6_heldBy_6 ?_
  refine va_get (D := G.1) (v := .int (nI (kT (cK c)))) hx hb hts hin0 hown hK hP 1 rfl rfl 0 (by decide) hf19 (fun _ h => h) rfl dX6_heldBy_9 ?_
  refine wk_ge (x := i) (y := (kT (cK c))) (tgt := 44) hx hb (by omega) (by omega) dX6_heldBy_12 (by decide) (fun c12 => ?_) (fun c12 => ?_)
  · refine lv_iload_n hx hb dX6_heldBy_44 rfl (lv_at hl 1 rfl) ?_
    exact wk_ret hx hb hr hlocks dX6_heldBy_45 (by rw [hz, show i = kT (cK c) by omega]; rfl)
  · refine lv_iload_n hx hb dX6_heldBy_15 rfl (lv_at hl 3 rfl) ?_
    refine lv_aload_n hx hb dX6_heldBy_16 rfl (lv_at hl 2 rfl) ?_
    refine va_get (D := G.1) (v := .ref (a 6)) hx hb hts hin6 hown hK hP 9 rfl rfl 1 (by decide) hf15 (fun _ h => h) rfl dX6_heldBy_17 ?_
    refine va_get (D := G.1) (v := .ref (a 7)) hx hb hts hin2 hown hK hP 6 rfl rfl 0 (by decide) hf37 (fun _ h => h) rfl dX6_heldBy_20 ?_
    refine lv_iload_n hx hb dX6_heldBy_23 rfl (lv_at hl 0 rfl) ?_
    refine wk_iald (i := i) hx hb hK hP 7 1 rfl rfl (by omega) (Nat.le_of_ble_eq_true rfl) dX6_heldBy_24 ?_
    refine wk_read (va_runSN (As := [.int offs, .int (mH (cM c) i)]) (rest := []) ⟨hx, hb, hml, hown, hts⟩ (c_X7_bit l offs (mH (cM c) i)) ⟨va_cnB 2 hts gX6_heldBy_X7_bit_n40 rfl rfl rfl hN.1 (hts (.initialized RX7) (by decide +kernel)) hdS_X7_bit ⟨Nat.le_of_ble_eq_true rfl, Nat.le_of_ble_eq_true rfl⟩, hts (.static yX7_bit) (by decide +kernel), trivial⟩ preEq rfl rfl hl.1 rfl (lv_room (Nat.le_of_ble_eq_true rfl)) dX6_heldBy_25 ⟨hrc, hrs⟩) ?_
    refine lv_iconst (v := 1) hx hb dX6_heldBy_28 (by decide) ?_
    refine lv_icmp_ne (tgt := 38) hx hb dX6_heldBy_29 (by decide) (fun c29 => ?_) (fun c29 => ?_)
    · refine lv_iinc (v := (nI (i + 1))) (lv' := [(3, .int (nI (i + 1))), (2, .int z), (0, .ref (a 9)), (1, .int offs)]) hx hb dX6_heldBy_38 hl (k := 0) rfl (wk_i1 i) (by decide) rfl (fun ls hl => ?_)
      refine lv_goto (tgt := 4) hx hb dX6_heldBy_41 (by decide) ?_
      exact ih4 (i + 1, z) (n4 - 1) ls (by omega) (⟨by omega, by rw [hz]; simp [pHeldF, fo_s, c12, c29]⟩) (lv_sub hl [0, 1, 2, 3] rfl)
    · refine lv_iload_n hx hb dX6_heldBy_32 rfl (lv_at hl 1 rfl) ?_
      refine lv_iconst (v := 1) hx hb dX6_heldBy_33 (by decide) ?_
      refine lv_iload_n hx hb dX6_heldBy_34 rfl (lv_at hl 0 rfl) ?_
      refine lv_ishl hx hb dX6_heldBy_35 ?_
      show W _ _ _ _ _ _ _ _ _ _ _ _ _ _ _ (F0 _ _ _ (.int (sh1 (nI i)) :: _))
      refine lv_ior hx hb dX6_heldBy_36 ?_
      refine lv_istore_n (lv' := [(2, .int (z ||| (sh1 (nI i)))), (3, .int (nI i)), (0, .ref (a 9)), (1, .int offs)]) hx hb dX6_heldBy_37 rfl hl (by decide) rfl (fun ls hl => ?_)
      refine lv_iinc (v := (nI (i + 1))) (lv' := [(3, .int (nI (i + 1))), (2, .int (z ||| (sh1 (nI i)))), (0, .ref (a 9)), (1, .int offs)]) hx hb dX6_heldBy_38 hl (k := 1) rfl (wk_i1 i) (by decide) rfl (fun ls hl => ?_)
      refine lv_goto (tgt := 4) hx hb dX6_heldBy_41 (by decide) ?_
      exact ih4 (i + 1, (z ||| (sh1 (nI i)))) (n4 - 1) ls (by omega) (⟨by omega, by rw [hz]; simp [pHeldF, fo_s, c12, c29]⟩) (lv_sub hl [0, 1, 2, 3] rfl)
theorem hdV_X6_voicesIfSick : yX6_voicesIfSick.cls = RX6 ∧ yX6_voicesIfSick.cls ≠ "java/lang/invoke/MethodHandle" ∧ yX6_voicesIfSick.cls ≠ "java/lang/invoke/VarHandle" ∧ (parseMethodDescriptor yX6_voicesIfSick.desc).map (fun d => d.parameters.length) = some 1 := by decide +kernel
set_option maxHeartbeats 4000000 in
set_option maxRecDepth 100000 in
theorem c_X6_voicesIfSick (l : Launch) (G : GG) (a : Nat → Nat) (c : CX) (hc : OkR c) (sick : Int32) : Met l yX6_voicesIfSick wsX6_voicesIfSick ({ frames := 2, cells := 0, slots := 0, locals := 44 }) (va_Pc [.ref (a 9), .int sick] (fun U => PreW G (WR G a c) U U.heap)) (QcRead (pVoicesIf (cK c) (cM c) sick)) 0 0 (fun _ => False) := by
  refine Met.ofW (cc := cX6_voicesIfSick) (maxL := 2) (ret := (some .int)) (by decide) rfl ?_
  intro p e s m args below meth cd s₁ BB hml hv
  obtain ⟨rfl, hR⟩ := hv
  have hx := BB.exec
  have hb := BB.bytes
  have hr := BB.returns
  have hts := atoms_spec (ws := wsX6_voicesIfSick) BB.pre
  have hown : s.vm.findClass RX6 = some m.cls := findClass_of_methodNamed BB.named
  have hlocks := BB.notSynchronized
  have hrc : 0 + 0 ≤ (headSpec wsX6_voicesIfSick ({ frames := 2, cells := 0, slots := 0, locals := 44 })).room.cells := Nat.le_refl _
  have hrs : 0 + 0 ≤ (headSpec wsX6_voicesIfSick ({ frames := 2, cells := 0, slots := 0, locals := 44 })).room.slots := Nat.le_refl _
  have hP := hR.1
  have hK := hR.2.1
  have hN := hR.2.2
  obtain ⟨hk7, ho1, ho5, hi6, hl200, hnx, hkn⟩ := id hc
  refine wk_enter (n := 2) (Nat.le_of_ble_eq_true rfl) (fun ls hl => ?_)
  have hl : lv_has ls 2 [(0, .ref (a 9)), (1, .int sick)] := hl
  refine lv_aload_n hx hb dX6_voicesIfSick_0 rfl (lv_at hl 0 rfl) ?_
  refine wk_read (va_runV (As := []) (rest := []) ⟨hx, hb, hml, hown, hts⟩ (c_X6_able l G a c hc) (cwV 0 hts gX6_voicesIfSick_X6_able rfl rfl rfl hdV_X6_able ⟨Nat.le_of_ble_eq_true rfl, Nat.le_of_ble_eq_true rfl⟩) (hR.pre (ci := 6) (q0 := 9) rfl rfl) rfl rfl hl.1 rfl (lv_room (Nat.le_of_ble_eq_true rfl)) dX6_voicesIfSick_1 ⟨hrc, hrs⟩) ?_
  refine lv_aload_n hx hb dX6_voicesIfSick_4 rfl (lv_at hl 0 rfl) ?_
  refine lv_iload_n hx hb dX6_voicesIfSick_5 rfl (lv_at hl 1 rfl) ?_
  refine wk_read (va_runV (As := [.int sick]) (rest := [.int (pAble (cK c) (cM c))]) ⟨hx, hb, hml, hown, hts⟩ (c_X6_heldBy l G a c hc sick) (cwV 1 hts gX6_voicesIfSick_X6_heldBy rfl rfl rfl hdV_X6_heldBy ⟨Nat.le_of_ble_eq_true rfl, Nat.le_of_ble_eq_true rfl⟩) (hR.pre (ci := 6) (q0 := 9) rfl rfl) rfl rfl hl.1 rfl (lv_room (Nat.le_of_ble_eq_true rfl)) dX6_voicesIfSick_6 ⟨hrc, hrs⟩) ?_
  refine lv_iconst (v := -1) hx hb dX6_voicesIfSick_9 (by decide) ?_
  refine lv_ixor hx hb dX6_voicesIfSick_10 ?_
  show W _ _ _ _ _ _ _ _ _ _ _ _ _ _ _ (F0 _ _ _ (.int (iv (pHeld (cK c) (cM c) sick)) :: _))
  refine lv_iand hx hb dX6_voicesIfSick_11 ?_
  exact wk_ret hx hb hr hlocks dX6_voicesIfSick_12 (rfl)
theorem hdV_X6_voices : yX6_voices.cls = RX6 ∧ yX6_voices.cls ≠ "java/lang/invoke/MethodHandle" ∧ yX6_voices.cls ≠ "java/lang/invoke/VarHandle" ∧ (parseMethodDescriptor yX6_voices.desc).map (fun d => d.parameters.length) = some 0 := by decide +kernel
set_option maxHeartbeats 4000000 in
set_option maxRecDepth 100000 in
theorem c_X6_voices (l : Launch) (G : GG) (a : Nat → Nat) (c : CX) (hc : OkR c) : Met l yX6_voices wsX6_voices ({ frames := 3, cells := 0, slots := 0, locals := 65 }) (va_Pc [.ref (a 9)] (fun U => PreW G (WR G a c) U U.heap)) (QcRead (pVoices (cK c) (cM c))) 0 0 (fun _ => False) := by
  refine Met.ofW (cc := cX6_voices) (maxL := 1) (ret := (some .int)) (by decide) rfl ?_
  intro p e s m args below meth cd s₁ BB hml hv
  obtain ⟨rfl, hR⟩ := hv
  have hx := BB.exec
  have hb := BB.bytes
  have hr := BB.returns
  have hts := atoms_spec (ws := wsX6_voices) BB.pre
  have hown : s.vm.findClass RX6 = some m.cls := findClass_of_methodNamed BB.named
  have hlocks := BB.notSynchronized
  have hrc : 0 + 0 ≤ (headSpec wsX6_voices ({ frames := 3, cells := 0, slots := 0, locals := 65 })).room.cells := Nat.le_refl _
  have hrs : 0 + 0 ≤ (headSpec wsX6_voices ({ frames := 3, cells := 0, slots := 0, locals := 65 })).room.slots := Nat.le_refl _
  have hP := hR.1
  have hK := hR.2.1
  have hN := hR.2.2
  obtain ⟨hk7, ho1, ho5, hi6, hl200, hnx, hkn⟩ := id hc
  have hin2 : ∀ w ∈ u_ws RX2 TX2 7, w ∈ wsX6_voices := by decide +kernel
  have hin6 : ∀ w ∈ u_ws RX6 TX6 2, w ∈ wsX6_voices := by decide +kernel
  have hf15 := hts (.fieldLink RX6 15 "RegaliaVotes$Vote" "moment" "LRegaliaVotes$Moment;") (by decide +kernel)
  have hf44 := hts (.fieldLink RX6 44 "RegaliaVotes$Moment" "sick" "I") (by decide +kernel)
  refine wk_enter (n := 1) (Nat.le_of_ble_eq_true rfl) (fun ls hl => ?_)
  have hl : lv_has ls 1 [(0, .ref (a 9))] := hl
  refine lv_aload_n hx hb dX6_voices_0 rfl (lv_at hl 0 rfl) ?_
  refine lv_aload_n hx hb dX6_voices_1 rfl (lv_at hl 0 rfl) ?_
  refine va_get (D := G.1) (v := .ref (a 6)) hx hb hts hin6 hown hK hP 9 rfl rfl 1 (by decide) hf15 (fun _ h => h) rfl dX6_voices_2 ?_
  refine va_get (D := G.1) (v := .int (mSi (cM c))) hx hb hts hin2 hown hK hP 6 rfl rfl 4 (by decide) hf44 (fun _ h => h) rfl dX6_voices_5 ?_
  refine wk_read (va_runV (As := [.int (mSi (cM c))]) (rest := []) ⟨hx, hb, hml, hown, hts⟩ (c_X6_voicesIfSick l G a c hc (mSi (cM c))) (cwV 1 hts gX6_voices_X6_voicesIfSick rfl rfl rfl hdV_X6_voicesIfSick ⟨Nat.le_of_ble_eq_true rfl, Nat.le_of_ble_eq_true rfl⟩) (hR.pre (ci := 6) (q0 := 9) rfl rfl) rfl rfl hl.1 rfl (lv_room (Nat.le_of_ble_eq_true rfl)) dX6_voices_8 ⟨hrc, hrs⟩) ?_
  exact wk_ret hx hb hr hlocks dX6_voices_11 (rfl)
theorem hdV_X6_votesOf : yX6_votesOf.cls = RX6 ∧ yX6_votesOf.cls ≠ "java/lang/invoke/MethodHandle" ∧ yX6_votesOf.cls ≠ "java/lang/invoke/VarHandle" ∧ (parseMethodDescriptor yX6_votesOf.desc).map (fun d => d.parameters.length) = some 1 := by decide +kernel
set_option maxHeartbeats 4000000 in
set_option maxRecDepth 100000 in
theorem c_X6_votesOf (l : Launch) (G : GG) (a : Nat → Nat) (c : CX) (hc : OkR c) (set : Int32) : Met l yX6_votesOf wsX6_votesOf ({ frames := 1, cells := 0, slots := 0, locals := 21 }) (va_Pc [.ref (a 9), .int set] (fun U => PreW G (WR G a c) U U.heap)) (QcRead (pVotes (cK c) set)) 0 0 (fun _ => False) := by
  refine Met.ofW (cc := cX6_votesOf) (maxL := 4) (ret := (some .int)) (by decide) rfl ?_
  intro p e s m args below meth cd s₁ BB hml hv
  obtain ⟨rfl, hR⟩ := hv
  have hx := BB.exec
  have hb := BB.bytes
  have hr := BB.returns
  have hts := atoms_spec (ws := wsX6_votesOf) BB.pre
  have hown : s.vm.findClass RX6 = some m.cls := findClass_of_methodNamed BB.named
  have hlocks := BB.notSynchronized
  have hrc : 0 + 0 ≤ (headSpec wsX6_votesOf ({ frames := 1, cells := 0, slots := 0, locals := 21 })).room.cells := Nat.le_refl _
  have hrs : 0 + 0 ≤ (headSpec wsX6_votesOf ({ frames := 1, cells := 0, slots := 0, locals := 21 })).room.slots := Nat.le_refl _
  have hP := hR.1
  have hK := hR.2.1
  have hN := hR.2.2
  obtain ⟨hk7, ho1, ho5, hi6, hl200, hnx, hkn⟩ := id hc
  have hin0 : ∀ w ∈ u_ws RX0 TX0 7, w ∈ wsX6_votesOf := by decide +kernel
  have hin6 : ∀ w ∈ u_ws RX6 TX6 2, w ∈ wsX6_votesOf := by decide +kernel
  have hf9 := hts (.fieldLink RX6 9 "RegaliaVotes$Vote" "told" "LRegaliaVotes$Council;") (by decide +kernel)
  have hf19 := hts (.fieldLink RX6 19 "RegaliaVotes$Council" "things" "I") (by decide +kernel)
  have hf58 := hts (.fieldLink RX6 58 "RegaliaVotes$Council" "votes" "[I") (by decide +kernel)
  refine wk_enter (n := 4) (Nat.le_of_ble_eq_true rfl) (fun ls hl => ?_)
  have hl : lv_has ls 4 [(0, .ref (a 9)), (1, .int set)] := hl
  refine lv_iconst (v := 0) hx hb dX6_votesOf_0 (by decide) ?_
  refine lv_istore_n (lv' := [(2, .int 0), (0, .ref (a 9)), (1, .int set)]) hx hb dX6_votesOf_1 rfl hl (by decide) rfl (fun ls hl => ?_)
  refine lv_iconst (v := 0) hx hb dX6_votesOf_2 (by decide) ?_
  refine lv_istore_n (lv' := [(3, .int 0), (2, .int 0), (0, .ref (a 9)), (1, .int set)]) hx hb dX6_votesOf_3 rfl hl (by decide) rfl (fun ls hl => ?_)
  refine wk_loop (σ := Nat × Int32) (nL := 4) (fun xσ n => match xσ with | (i, z) => i + n = kT (cK c) ∧ z = pVotesF (cK c) set i) (fun xσ => match xσ with | (i, z) => [(3, .int (nI i)), (2, .int z), (0, .ref (a 9)), (1, .int set)]) (0, 0) (kT (cK c)) (⟨by omega, rfl⟩) hl ?_
  rintro n4 ⟨i, z⟩ ls hI4 hl ih4
  have hl : lv_has ls 4 [(3, .int (nI i)), (2, .int z), (0, .ref (a 9)), (1, .int set)] := hl
  obtain ⟨hi, hz⟩ := hI4
  refine lv_iload_n hx hb dX6_votesOf_4 rfl (lv_at hl 0 rfl) ?_
  refine lv_aload_n hx hb dX6_votesOf_5 rfl (lv_at hl 2 rfl) ?_
  refine va_get (D := G.1) (v := .ref (a 1)) hx hb hts hin6 hown hK hP 9 rfl rfl 0 (by decide) hf9 (fun _ h => h) rfl dX6_votesOf_6 ?_
  refine va_get (D := G.1) (v := .int (nI (kT (cK c)))) hx hb hts hin0 hown hK hP 1 rfl rfl 0 (by decide) hf19 (fun _ h => h) rfl dX6_votesOf_9 ?_
  refine wk_ge (x := i) (y := (kT (cK c))) (tgt := 42) hx hb (by omega) (by omega) dX6_votesOf_12 (by decide) (fun c12 => ?_) (fun c12 => ?_)
  · refine lv_iload_n hx hb dX6_votesOf_42 rfl (lv_at hl 1 rfl) ?_
    exact wk_ret hx hb hr hlocks dX6_votesOf_43 (by rw [hz, show i = kT (cK c) by omega]; rfl)
  · refine lv_iload_n hx hb dX6_votesOf_15 rfl (lv_at hl 3 rfl) ?_
    refine lv_iload_n hx hb dX6_votesOf_16 rfl (lv_at hl 0 rfl) ?_
    refine wk_read (va_runSN (As := [.int set, .int (nI i)]) (rest := []) ⟨hx, hb, hml, hown, hts⟩ (c_X7_bit l set (nI i)) ⟨va_cnB 2 hts gX6_votesOf_X7_bit_n40 rfl rfl rfl hN.1 (hts (.initialized RX7) (by decide +kernel)) hdS_X7_bit ⟨Nat.le_of_ble_eq_true rfl, Nat.le_of_ble_eq_true rfl⟩, hts (.static yX7_bit) (by decide +kernel), trivial⟩ preEq rfl rfl hl.1 rfl (lv_room (Nat.le_of_ble_eq_true rfl)) dX6_votesOf_17 ⟨hrc, hrs⟩) ?_
    refine lv_iconst (v := 1) hx hb dX6_votesOf_20 (by decide) ?_
    refine lv_icmp_ne (tgt := 36) hx hb dX6_votesOf_21 (by decide) (fun c21 => ?_) (fun c21 => ?_)
    · refine lv_iinc (v := (nI (i + 1))) (lv' := [(3, .int (nI (i + 1))), (2, .int z), (0, .ref (a 9)), (1, .int set)]) hx hb dX6_votesOf_36 hl (k := 0) rfl (wk_i1 i) (by decide) rfl (fun ls hl => ?_)
      refine lv_goto (tgt := 4) hx hb dX6_votesOf_39 (by decide) ?_
      exact ih4 (i + 1, z) (n4 - 1) ls (by omega) (⟨by omega, by rw [hz]; simp [pVotesF, fo_s, c12, c21]⟩) (lv_sub hl [0, 1, 2, 3] rfl)
    · refine lv_iload_n hx hb dX6_votesOf_24 rfl (lv_at hl 1 rfl) ?_
      refine lv_aload_n hx hb dX6_votesOf_25 rfl (lv_at hl 2 rfl) ?_
      refine va_get (D := G.1) (v := .ref (a 1)) hx hb hts hin6 hown hK hP 9 rfl rfl 0 (by decide) hf9 (fun _ h => h) rfl dX6_votesOf_26 ?_
      refine va_get (D := G.1) (v := .ref (a 3)) hx hb hts hin0 hown hK hP 1 rfl rfl 4 (by decide) hf58 (fun _ h => h) rfl dX6_votesOf_29 ?_
      refine lv_iload_n hx hb dX6_votesOf_32 rfl (lv_at hl 0 rfl) ?_
      refine wk_iald (i := i) hx hb hK hP 3 1 rfl rfl (by omega) (Nat.le_of_ble_eq_true rfl) dX6_votesOf_33 ?_
      refine lv_iadd hx hb dX6_votesOf_34 ?_
      refine lv_istore_n (lv' := [(2, .int (z + (kV (cK c) i))), (3, .int (nI i)), (0, .ref (a 9)), (1, .int set)]) hx hb dX6_votesOf_35 rfl hl (by decide) rfl (fun ls hl => ?_)
      refine lv_iinc (v := (nI (i + 1))) (lv' := [(3, .int (nI (i + 1))), (2, .int (z + (kV (cK c) i))), (0, .ref (a 9)), (1, .int set)]) hx hb dX6_votesOf_36 hl (k := 1) rfl (wk_i1 i) (by decide) rfl (fun ls hl => ?_)
      refine lv_goto (tgt := 4) hx hb dX6_votesOf_39 (by decide) ?_
      exact ih4 (i + 1, (z + (kV (cK c) i))) (n4 - 1) ls (by omega) (⟨by omega, by rw [hz]; simp [pVotesF, fo_s, c12, c21]⟩) (lv_sub hl [0, 1, 2, 3] rfl)
theorem hdV_X6_yesOf : yX6_yesOf.cls = RX6 ∧ yX6_yesOf.cls ≠ "java/lang/invoke/MethodHandle" ∧ yX6_yesOf.cls ≠ "java/lang/invoke/VarHandle" ∧ (parseMethodDescriptor yX6_yesOf.desc).map (fun d => d.parameters.length) = some 1 := by decide +kernel
set_option maxHeartbeats 4000000 in
set_option maxRecDepth 100000 in
theorem c_X6_yesOf (l : Launch) (G : GG) (a : Nat → Nat) (c : CX) (hc : OkR c) (b : Int32) : Met l yX6_yesOf wsX6_yesOf ({ frames := 1, cells := 0, slots := 0, locals := 21 }) (va_Pc [.ref (a 9), .int b] (fun U => PreW G (WR G a c) U U.heap)) (QcRead (pYes (cK c) (cM c) b)) 0 0 (fun _ => False) := by
  refine Met.ofW (cc := cX6_yesOf) (maxL := 4) (ret := (some .int)) (by decide) rfl ?_
  intro p e s m args below meth cd s₁ BB hml hv
  obtain ⟨rfl, hR⟩ := hv
  have hx := BB.exec
  have hb := BB.bytes
  have hr := BB.returns
  have hts := atoms_spec (ws := wsX6_yesOf) BB.pre
  have hown : s.vm.findClass RX6 = some m.cls := findClass_of_methodNamed BB.named
  have hlocks := BB.notSynchronized
  have hrc : 0 + 0 ≤ (headSpec wsX6_yesOf ({ frames := 1, cells := 0, slots := 0, locals := 21 })).room.cells := Nat.le_refl _
  have hrs : 0 + 0 ≤ (headSpec wsX6_yesOf ({ frames := 1, cells := 0, slots := 0, locals := 21 })).room.slots := Nat.le_refl _
  have hP := hR.1
  have hK := hR.2.1
  have hN := hR.2.2
  obtain ⟨hk7, ho1, ho5, hi6, hl200, hnx, hkn⟩ := id hc
  have hin0 : ∀ w ∈ u_ws RX0 TX0 7, w ∈ wsX6_yesOf := by decide +kernel
  have hin2 : ∀ w ∈ u_ws RX2 TX2 7, w ∈ wsX6_yesOf := by decide +kernel
  have hin6 : ∀ w ∈ u_ws RX6 TX6 2, w ∈ wsX6_yesOf := by decide +kernel
  have hf9 := hts (.fieldLink RX6 9 "RegaliaVotes$Vote" "told" "LRegaliaVotes$Council;") (by decide +kernel)
  have hf15 := hts (.fieldLink RX6 15 "RegaliaVotes$Vote" "moment" "LRegaliaVotes$Moment;") (by decide +kernel)
  have hf19 := hts (.fieldLink RX6 19 "RegaliaVotes$Council" "things" "I") (by decide +kernel)
  have hf61 := hts (.fieldLink RX6 61 "RegaliaVotes$Council" "forBills" "[I") (by decide +kernel)
  have hf64 := hts (.fieldLink RX6 64 "RegaliaVotes$Moment" "turned" "I") (by decide +kernel)
  refine wk_enter (n := 4) (Nat.le_of_ble_eq_true rfl) (fun ls hl => ?_)
  have hl : lv_has ls 4 [(0, .ref (a 9)), (1, .int b)] := hl
  refine lv_iconst (v := 0) hx hb dX6_yesOf_0 (by decide) ?_
  refine lv_istore_n (lv' := [(2, .int 0), (0, .ref (a 9)), (1, .int b)]) hx hb dX6_yesOf_1 rfl hl (by decide) rfl (fun ls hl => ?_)
  refine lv_iconst (v := 0) hx hb dX6_yesOf_2 (by decide) ?_
  refine lv_istore_n (lv' := [(3, .int 0), (2, .int 0), (0, .ref (a 9)), (1, .int b)]) hx hb dX6_yesOf_3 rfl hl (by decide) rfl (fun ls hl => ?_)
  refine wk_loop (σ := Nat × Int32) (nL := 4) (fun xσ n => match xσ with | (i, z) => i + n = kT (cK c) ∧ z = pYesF (cK c) b i) (fun xσ => match xσ with | (i, z) => [(3, .int (nI i)), (2, .int z), (0, .ref (a 9)), (1, .int b)]) (0, 0) (kT (cK c)) (⟨by omega, rfl⟩) hl ?_
  rintro n4 ⟨i, z⟩ ls hI4 hl ih4
  have hl : lv_has ls 4 [(3, .int (nI i)), (2, .int z), (0, .ref (a 9)), (1, .int b)] := hl
  obtain ⟨hi, hz⟩ := hI4
  refine lv_iload_n hx hb dX6_yesOf_4 rfl (lv_at hl 0 rfl) ?_
  refine lv_aload_n hx hb dX6_yesOf_5 rfl (lv_at hl 2 rfl) ?_
  refine va_get (D := G.1) (v := .ref (a 1)) hx hb hts hin6 hown hK hP 9 rfl rfl 0 (by decide) hf9 (fun _ h => h) rfl dX6_yesOf_6 ?_
  refine va_get (D := G.1) (v := .int (nI (kT (cK c)))) hx hb hts hin0 hown hK hP 1 rfl rfl 0 (by decide) hf19 (fun _ h => h) rfl dX6_yesOf_9 ?_
  refine wk_ge (x := i) (y := (kT (cK c))) (tgt := 39) hx hb (by omega) (by omega) dX6_yesOf_12 (by decide) (fun c12 => ?_) (fun c12 => ?_)
  · refine lv_iload_n hx hb dX6_yesOf_39 rfl (lv_at hl 1 rfl) ?_
    refine lv_aload_n hx hb dX6_yesOf_40 rfl (lv_at hl 2 rfl) ?_
    refine va_get (D := G.1) (v := .ref (a 6)) hx hb hts hin6 hown hK hP 9 rfl rfl 1 (by decide) hf15 (fun _ h => h) rfl dX6_yesOf_41 ?_
    refine va_get (D := G.1) (v := .int (mTu (cM c))) hx hb hts hin2 hown hK hP 6 rfl rfl 3 (by decide) hf64 (fun _ h => h) rfl dX6_yesOf_44 ?_
    refine lv_ixor hx hb dX6_yesOf_47 ?_
    exact wk_ret hx hb hr hlocks dX6_yesOf_48 (by rw [hz, show i = kT (cK c) by omega]; rfl)
  · refine lv_iload_n hx hb dX6_yesOf_15 rfl (lv_at hl 1 rfl) ?_
    refine lv_aload_n hx hb dX6_yesOf_16 rfl (lv_at hl 2 rfl) ?_
    refine va_get (D := G.1) (v := .ref (a 1)) hx hb hts hin6 hown hK hP 9 rfl rfl 0 (by decide) hf9 (fun _ h => h) rfl dX6_yesOf_17 ?_
    refine va_get (D := G.1) (v := .ref (a 4)) hx hb hts hin0 hown hK hP 1 rfl rfl 5 (by decide) hf61 (fun _ h => h) rfl dX6_yesOf_20 ?_
    refine lv_iload_n hx hb dX6_yesOf_23 rfl (lv_at hl 0 rfl) ?_
    refine wk_iald (i := i) hx hb hK hP 4 1 rfl rfl (by omega) (Nat.le_of_ble_eq_true rfl) dX6_yesOf_24 ?_
    refine lv_iload_n hx hb dX6_yesOf_25 rfl (lv_at hl 3 rfl) ?_
    refine wk_read (va_runSN (As := [.int (kB (cK c) i), .int b]) (rest := [.int z]) ⟨hx, hb, hml, hown, hts⟩ (c_X7_bit l (kB (cK c) i) b) ⟨va_cnB 2 hts gX6_yesOf_X7_bit_n40 rfl rfl rfl hN.1 (hts (.initialized RX7) (by decide +kernel)) hdS_X7_bit ⟨Nat.le_of_ble_eq_true rfl, Nat.le_of_ble_eq_true rfl⟩, hts (.static yX7_bit) (by decide +kernel), trivial⟩ preEq rfl rfl hl.1 rfl (lv_room (Nat.le_of_ble_eq_true rfl)) dX6_yesOf_26 ⟨hrc, hrs⟩) ?_
    refine lv_iload_n hx hb dX6_yesOf_29 rfl (lv_at hl 0 rfl) ?_
    refine lv_ishl hx hb dX6_yesOf_30 ?_
    refine lv_ior hx hb dX6_yesOf_31 ?_
    refine lv_istore_n (lv' := [(2, .int (z ||| ((bitI (kB (cK c) i) b) <<< ((nI i) &&& 31)))), (3, .int (nI i)), (0, .ref (a 9)), (1, .int b)]) hx hb dX6_yesOf_32 rfl hl (by decide) rfl (fun ls hl => ?_)
    refine lv_iinc (v := (nI (i + 1))) (lv' := [(3, .int (nI (i + 1))), (2, .int (z ||| ((bitI (kB (cK c) i) b) <<< ((nI i) &&& 31)))), (0, .ref (a 9)), (1, .int b)]) hx hb dX6_yesOf_33 hl (k := 1) rfl (wk_i1 i) (by decide) rfl (fun ls hl => ?_)
    refine lv_goto (tgt := 4) hx hb dX6_yesOf_36 (by decide) ?_
    exact ih4 (i + 1, (z ||| ((bitI (kB (cK c) i) b) <<< ((nI i) &&& 31)))) (n4 - 1) ls (by omega) (⟨by omega, by rw [hz]; rfl⟩) (lv_sub hl [0, 1, 2, 3] rfl)
theorem hdV_X6_yesIfFor : yX6_yesIfFor.cls = RX6 ∧ yX6_yesIfFor.cls ≠ "java/lang/invoke/MethodHandle" ∧ yX6_yesIfFor.cls ≠ "java/lang/invoke/VarHandle" ∧ (parseMethodDescriptor yX6_yesIfFor.desc).map (fun d => d.parameters.length) = some 3 := by decide +kernel
set_option maxHeartbeats 4000000 in
set_option maxRecDepth 100000 in
theorem c_X6_yesIfFor (l : Launch) (G : GG) (a : Nat → Nat) (c : CX) (hc : OkR c) (b : Int32) (t : Int32) (bills : Int32) : Met l yX6_yesIfFor wsX6_yesIfFor ({ frames := 2, cells := 0, slots := 0, locals := 44 }) (va_Pc [.ref (a 9), .int b, .int t, .int bills] (fun U => PreW G (WR G a c) U U.heap)) (QcRead (pYesIf (cK c) (cM c) b t bills)) 0 0 (fun _ => False) := by
  refine Met.ofW (cc := cX6_yesIfFor) (maxL := 5) (ret := (some .int)) (by decide) rfl ?_
  intro p e s m args below meth cd s₁ BB hml hv
  obtain ⟨rfl, hR⟩ := hv
  have hx := BB.exec
  have hb := BB.bytes
  have hr := BB.returns
  have hts := atoms_spec (ws := wsX6_yesIfFor) BB.pre
  have hown : s.vm.findClass RX6 = some m.cls := findClass_of_methodNamed BB.named
  have hlocks := BB.notSynchronized
  have hrc : 0 + 0 ≤ (headSpec wsX6_yesIfFor ({ frames := 2, cells := 0, slots := 0, locals := 44 })).room.cells := Nat.le_refl _
  have hrs : 0 + 0 ≤ (headSpec wsX6_yesIfFor ({ frames := 2, cells := 0, slots := 0, locals := 44 })).room.slots := Nat.le_refl _
  have hP := hR.1
  have hK := hR.2.1
  have hN := hR.2.2
  obtain ⟨hk7, ho1, ho5, hi6, hl200, hnx, hkn⟩ := id hc
  have hin2 : ∀ w ∈ u_ws RX2 TX2 7, w ∈ wsX6_yesIfFor := by decide +kernel
  have hin6 : ∀ w ∈ u_ws RX6 TX6 2, w ∈ wsX6_yesIfFor := by decide +kernel
  have hf15 := hts (.fieldLink RX6 15 "RegaliaVotes$Vote" "moment" "LRegaliaVotes$Moment;") (by decide +kernel)
  have hf64 := hts (.fieldLink RX6 64 "RegaliaVotes$Moment" "turned" "I") (by decide +kernel)
  refine wk_enter (n := 5) (Nat.le_of_ble_eq_true rfl) (fun ls hl => ?_)
  have hl : lv_has ls 5 [(0, .ref (a 9)), (1, .int b), (2, .int t), (3, .int bills)] := hl
  refine lv_iload_n hx hb dX6_yesIfFor_0 rfl (lv_at hl 3 rfl) ?_
  refine lv_iload_n hx hb dX6_yesIfFor_1 rfl (lv_at hl 1 rfl) ?_
  refine wk_read (va_runSN (As := [.int bills, .int b]) (rest := []) ⟨hx, hb, hml, hown, hts⟩ (c_X7_bit l bills b) ⟨va_cnB 2 hts gX6_yesIfFor_X7_bit_n40 rfl rfl rfl hN.1 (hts (.initialized RX7) (by decide +kernel)) hdS_X7_bit ⟨Nat.le_of_ble_eq_true rfl, Nat.le_of_ble_eq_true rfl⟩, hts (.static yX7_bit) (by decide +kernel), trivial⟩ preEq rfl rfl hl.1 rfl (lv_room (Nat.le_of_ble_eq_true rfl)) dX6_yesIfFor_2 ⟨hrc, hrs⟩) ?_
  refine lv_aload_n hx hb dX6_yesIfFor_5 rfl (lv_at hl 0 rfl) ?_
  refine va_get (D := G.1) (v := .ref (a 6)) hx hb hts hin6 hown hK hP 9 rfl rfl 1 (by decide) hf15 (fun _ h => h) rfl dX6_yesIfFor_6 ?_
  refine va_get (D := G.1) (v := .int (mTu (cM c))) hx hb hts hin2 hown hK hP 6 rfl rfl 3 (by decide) hf64 (fun _ h => h) rfl dX6_yesIfFor_9 ?_
  refine lv_iload_n hx hb dX6_yesIfFor_12 rfl (lv_at hl 2 rfl) ?_
  refine wk_read (va_runSN (As := [.int (mTu (cM c)), .int t]) (rest := [.int (bitI bills b)]) ⟨hx, hb, hml, hown, hts⟩ (c_X7_bit l (mTu (cM c)) t) ⟨va_cnB 2 hts gX6_yesIfFor_X7_bit_n40 rfl rfl rfl hN.1 (hts (.initialized RX7) (by decide +kernel)) hdS_X7_bit ⟨Nat.le_of_ble_eq_true rfl, Nat.le_of_ble_eq_true rfl⟩, hts (.static yX7_bit) (by decide +kernel), trivial⟩ preEq rfl rfl hl.1 rfl (lv_room (Nat.le_of_ble_eq_true rfl)) dX6_yesIfFor_13 ⟨hrc, hrs⟩) ?_
  refine lv_ixor hx hb dX6_yesIfFor_16 ?_
  refine lv_istore (lv' := [(4, .int ((bitI bills b) ^^^ (bitI (mTu (cM c)) t))), (0, .ref (a 9)), (1, .int b), (2, .int t), (3, .int bills)]) hx hb dX6_yesIfFor_17 hl (by decide) rfl (fun ls hl => ?_)
  refine lv_aload_n hx hb dX6_yesIfFor_19 rfl (lv_at hl 1 rfl) ?_
  refine lv_iload_n hx hb dX6_yesIfFor_20 rfl (lv_at hl 2 rfl) ?_
  refine wk_read (va_runV (As := [.int b]) (rest := []) ⟨hx, hb, hml, hown, hts⟩ (c_X6_yesOf l G a c hc b) (cwV 1 hts gX6_yesIfFor_X6_yesOf rfl rfl rfl hdV_X6_yesOf ⟨Nat.le_of_ble_eq_true rfl, Nat.le_of_ble_eq_true rfl⟩) (hR.pre (ci := 6) (q0 := 9) rfl rfl) rfl rfl hl.1 rfl (lv_room (Nat.le_of_ble_eq_true rfl)) dX6_yesIfFor_21 ⟨hrc, hrs⟩) ?_
  refine lv_iconst (v := 1) hx hb dX6_yesIfFor_24 (by decide) ?_
  refine lv_iload_n hx hb dX6_yesIfFor_25 rfl (lv_at hl 3 rfl) ?_
  refine lv_ishl hx hb dX6_yesIfFor_26 ?_
  show W _ _ _ _ _ _ _ _ _ _ _ _ _ _ _ (F0 _ _ _ (.int (sh1 t) :: _))
  refine lv_iconst (v := -1) hx hb dX6_yesIfFor_27 (by decide) ?_
  refine lv_ixor hx hb dX6_yesIfFor_28 ?_
  show W _ _ _ _ _ _ _ _ _ _ _ _ _ _ _ (F0 _ _ _ (.int (iv (sh1 t)) :: _))
  refine lv_iand hx hb dX6_yesIfFor_29 ?_
  refine lv_iload hx hb dX6_yesIfFor_30 (lv_at hl 0 rfl) ?_
  refine lv_iload_n hx hb dX6_yesIfFor_32 rfl (lv_at hl 3 rfl) ?_
  refine lv_ishl hx hb dX6_yesIfFor_33 ?_
  refine lv_ior hx hb dX6_yesIfFor_34 ?_
  exact wk_ret hx hb hr hlocks dX6_yesIfFor_35 (rfl)
theorem hdV_X6_passesBy : yX6_passesBy.cls = RX6 ∧ yX6_passesBy.cls ≠ "java/lang/invoke/MethodHandle" ∧ yX6_passesBy.cls ≠ "java/lang/invoke/VarHandle" ∧ (parseMethodDescriptor yX6_passesBy.desc).map (fun d => d.parameters.length) = some 2 := by decide +kernel
set_option maxHeartbeats 4000000 in
set_option maxRecDepth 100000 in
theorem c_X6_passesBy (l : Launch) (G : GG) (a : Nat → Nat) (c : CX) (hc : OkR c) (voices : Int32) (yes : Int32) : Met l yX6_passesBy wsX6_passesBy ({ frames := 2, cells := 0, slots := 0, locals := 44 }) (va_Pc [.ref (a 9), .int voices, .int yes] (fun U => PreW G (WR G a c) U U.heap)) (QcRead (b2i (pPassBy (cK c) voices yes))) 0 0 (fun _ => False) := by
  refine Met.ofW (cc := cX6_passesBy) (maxL := 3) (ret := (some .boolean)) (by decide) rfl ?_
  intro p e s m args below meth cd s₁ BB hml hv
  obtain ⟨rfl, hR⟩ := hv
  have hx := BB.exec
  have hb := BB.bytes
  have hr := BB.returns
  have hts := atoms_spec (ws := wsX6_passesBy) BB.pre
  have hown : s.vm.findClass RX6 = some m.cls := findClass_of_methodNamed BB.named
  have hlocks := BB.notSynchronized
  have hrc : 0 + 0 ≤ (headSpec wsX6_passesBy ({ frames := 2, cells := 0, slots := 0, locals := 44 })).room.cells := Nat.le_refl _
  have hrs : 0 + 0 ≤ (headSpec wsX6_passesBy ({ frames := 2, cells := 0, slots := 0, locals := 44 })).room.slots := Nat.le_refl _
  have hP := hR.1
  have hK := hR.2.1
  have hN := hR.2.2
  obtain ⟨hk7, ho1, ho5, hi6, hl200, hnx, hkn⟩ := id hc
  refine wk_enter (n := 3) (Nat.le_of_ble_eq_true rfl) (fun ls hl => ?_)
  have hl : lv_has ls 3 [(0, .ref (a 9)), (1, .int voices), (2, .int yes)] := hl
  refine lv_aload_n hx hb dX6_passesBy_0 rfl (lv_at hl 0 rfl) ?_
  refine lv_iload_n hx hb dX6_passesBy_1 rfl (lv_at hl 1 rfl) ?_
  refine lv_iload_n hx hb dX6_passesBy_2 rfl (lv_at hl 2 rfl) ?_
  refine lv_iand hx hb dX6_passesBy_3 ?_
  refine wk_read (va_runV (As := [.int (voices &&& yes)]) (rest := []) ⟨hx, hb, hml, hown, hts⟩ (c_X6_votesOf l G a c hc (voices &&& yes)) (cwV 1 hts gX6_passesBy_X6_votesOf rfl rfl rfl hdV_X6_votesOf ⟨Nat.le_of_ble_eq_true rfl, Nat.le_of_ble_eq_true rfl⟩) (hR.pre (ci := 6) (q0 := 9) rfl rfl) rfl rfl hl.1 rfl (lv_room (Nat.le_of_ble_eq_true rfl)) dX6_passesBy_4 ⟨hrc, hrs⟩) ?_
  refine lv_aload_n hx hb dX6_passesBy_7 rfl (lv_at hl 0 rfl) ?_
  refine lv_iload_n hx hb dX6_passesBy_8 rfl (lv_at hl 1 rfl) ?_
  refine lv_iload_n hx hb dX6_passesBy_9 rfl (lv_at hl 2 rfl) ?_
  refine lv_iconst (v := -1) hx hb dX6_passesBy_10 (by decide) ?_
  refine lv_ixor hx hb dX6_passesBy_11 ?_
  show W _ _ _ _ _ _ _ _ _ _ _ _ _ _ _ (F0 _ _ _ (.int (iv yes) :: _))
  refine lv_iand hx hb dX6_passesBy_12 ?_
  refine wk_read (va_runV (As := [.int (voices &&& (iv yes))]) (rest := [.int (pVotes (cK c) (voices &&& yes))]) ⟨hx, hb, hml, hown, hts⟩ (c_X6_votesOf l G a c hc (voices &&& (iv yes))) (cwV 1 hts gX6_passesBy_X6_votesOf rfl rfl rfl hdV_X6_votesOf ⟨Nat.le_of_ble_eq_true rfl, Nat.le_of_ble_eq_true rfl⟩) (hR.pre (ci := 6) (q0 := 9) rfl rfl) rfl rfl hl.1 rfl (lv_room (Nat.le_of_ble_eq_true rfl)) dX6_passesBy_13 ⟨hrc, hrs⟩) ?_
  refine lv_icmp_le (tgt := 23) hx hb dX6_passesBy_16 (by decide) (fun c16 => ?_) (fun c16 => ?_)
  · refine lv_iconst (v := 0) hx hb dX6_passesBy_23 (by decide) ?_
    exact wk_zret hx hb hr hlocks dX6_passesBy_24 (by rfl) (by simp only [b2i, pPassBy]; simp [Int32.not_lt.mpr c16])
  · refine lv_iconst (v := 1) hx hb dX6_passesBy_19 (by decide) ?_
    refine lv_goto (tgt := 24) hx hb dX6_passesBy_20 (by decide) ?_
    exact wk_zret hx hb hr hlocks dX6_passesBy_24 (by rfl) (by simp only [b2i, pPassBy]; simp [Int32.not_le.mp c16])
theorem hdV_X6_passes : yX6_passes.cls = RX6 ∧ yX6_passes.cls ≠ "java/lang/invoke/MethodHandle" ∧ yX6_passes.cls ≠ "java/lang/invoke/VarHandle" ∧ (parseMethodDescriptor yX6_passes.desc).map (fun d => d.parameters.length) = some 1 := by decide +kernel
set_option maxHeartbeats 4000000 in
set_option maxRecDepth 100000 in
theorem c_X6_passes (l : Launch) (G : GG) (a : Nat → Nat) (c : CX) (hc : OkR c) (b : Int32) : Met l yX6_passes wsX6_passes ({ frames := 4, cells := 0, slots := 0, locals := 85 }) (va_Pc [.ref (a 9), .int b] (fun U => PreW G (WR G a c) U U.heap)) (QcRead (b2i (pPasses (cK c) (cM c) b))) 0 0 (fun _ => False) := by
  refine Met.ofW (cc := cX6_passes) (maxL := 2) (ret := (some .boolean)) (by decide) rfl ?_
  intro p e s m args below meth cd s₁ BB hml hv
  obtain ⟨rfl, hR⟩ := hv
  have hx := BB.exec
  have hb := BB.bytes
  have hr := BB.returns
  have hts := atoms_spec (ws := wsX6_passes) BB.pre
  have hown : s.vm.findClass RX6 = some m.cls := findClass_of_methodNamed BB.named
  have hlocks := BB.notSynchronized
  have hrc : 0 + 0 ≤ (headSpec wsX6_passes ({ frames := 4, cells := 0, slots := 0, locals := 85 })).room.cells := Nat.le_refl _
  have hrs : 0 + 0 ≤ (headSpec wsX6_passes ({ frames := 4, cells := 0, slots := 0, locals := 85 })).room.slots := Nat.le_refl _
  have hP := hR.1
  have hK := hR.2.1
  have hN := hR.2.2
  obtain ⟨hk7, ho1, ho5, hi6, hl200, hnx, hkn⟩ := id hc
  refine wk_enter (n := 2) (Nat.le_of_ble_eq_true rfl) (fun ls hl => ?_)
  have hl : lv_has ls 2 [(0, .ref (a 9)), (1, .int b)] := hl
  refine lv_aload_n hx hb dX6_passes_0 rfl (lv_at hl 0 rfl) ?_
  refine lv_aload_n hx hb dX6_passes_1 rfl (lv_at hl 0 rfl) ?_
  refine wk_read (va_runV (As := []) (rest := [.ref (a 9)]) ⟨hx, hb, hml, hown, hts⟩ (c_X6_voices l G a c hc) (cwV 0 hts gX6_passes_X6_voices rfl rfl rfl hdV_X6_voices ⟨Nat.le_of_ble_eq_true rfl, Nat.le_of_ble_eq_true rfl⟩) (hR.pre (ci := 6) (q0 := 9) rfl rfl) rfl rfl hl.1 rfl (lv_room (Nat.le_of_ble_eq_true rfl)) dX6_passes_2 ⟨hrc, hrs⟩) ?_
  refine lv_aload_n hx hb dX6_passes_5 rfl (lv_at hl 0 rfl) ?_
  refine lv_iload_n hx hb dX6_passes_6 rfl (lv_at hl 1 rfl) ?_
  refine wk_read (va_runV (As := [.int b]) (rest := [.int (pVoices (cK c) (cM c)), .ref (a 9)]) ⟨hx, hb, hml, hown, hts⟩ (c_X6_yesOf l G a c hc b) (cwV 1 hts gX6_passes_X6_yesOf rfl rfl rfl hdV_X6_yesOf ⟨Nat.le_of_ble_eq_true rfl, Nat.le_of_ble_eq_true rfl⟩) (hR.pre (ci := 6) (q0 := 9) rfl rfl) rfl rfl hl.1 rfl (lv_room (Nat.le_of_ble_eq_true rfl)) dX6_passes_7 ⟨hrc, hrs⟩) ?_
  refine wk_read (va_runV (As := [.int (pVoices (cK c) (cM c)), .int (pYes (cK c) (cM c) b)]) (rest := []) ⟨hx, hb, hml, hown, hts⟩ (c_X6_passesBy l G a c hc (pVoices (cK c) (cM c)) (pYes (cK c) (cM c) b)) (cwV 2 hts gX6_passes_X6_passesBy rfl rfl rfl hdV_X6_passesBy ⟨Nat.le_of_ble_eq_true rfl, Nat.le_of_ble_eq_true rfl⟩) (hR.pre (ci := 6) (q0 := 9) rfl rfl) rfl rfl hl.1 rfl (lv_room (Nat.le_of_ble_eq_true rfl)) dX6_passes_10 ⟨hrc, hrs⟩) ?_
  exact wk_zret hx hb hr hlocks dX6_passes_13 (b2i_nar _) (rfl)
theorem hdV_X6_votesHeldBy : yX6_votesHeldBy.cls = RX6 ∧ yX6_votesHeldBy.cls ≠ "java/lang/invoke/MethodHandle" ∧ yX6_votesHeldBy.cls ≠ "java/lang/invoke/VarHandle" ∧ (parseMethodDescriptor yX6_votesHeldBy.desc).map (fun d => d.parameters.length) = some 1 := by decide +kernel
set_option maxHeartbeats 4000000 in
set_option maxRecDepth 100000 in
theorem c_X6_votesHeldBy (l : Launch) (G : GG) (a : Nat → Nat) (c : CX) (hc : OkR c) (f : Int32) : Met l yX6_votesHeldBy wsX6_votesHeldBy ({ frames := 4, cells := 0, slots := 0, locals := 85 }) (va_Pc [.ref (a 9), .int f] (fun U => PreW G (WR G a c) U U.heap)) (QcRead (pVHeld (cK c) (cM c) f)) 0 0 (fun _ => False) := by
  refine Met.ofW (cc := cX6_votesHeldBy) (maxL := 2) (ret := (some .int)) (by decide) rfl ?_
  intro p e s m args below meth cd s₁ BB hml hv
  obtain ⟨rfl, hR⟩ := hv
  have hx := BB.exec
  have hb := BB.bytes
  have hr := BB.returns
  have hts := atoms_spec (ws := wsX6_votesHeldBy) BB.pre
  have hown : s.vm.findClass RX6 = some m.cls := findClass_of_methodNamed BB.named
  have hlocks := BB.notSynchronized
  have hrc : 0 + 0 ≤ (headSpec wsX6_votesHeldBy ({ frames := 4, cells := 0, slots := 0, locals := 85 })).room.cells := Nat.le_refl _
  have hrs : 0 + 0 ≤ (headSpec wsX6_votesHeldBy ({ frames := 4, cells := 0, slots := 0, locals := 85 })).room.slots := Nat.le_refl _
  have hP := hR.1
  have hK := hR.2.1
  have hN := hR.2.2
  obtain ⟨hk7, ho1, ho5, hi6, hl200, hnx, hkn⟩ := id hc
  refine wk_enter (n := 2) (Nat.le_of_ble_eq_true rfl) (fun ls hl => ?_)
  have hl : lv_has ls 2 [(0, .ref (a 9)), (1, .int f)] := hl
  refine lv_aload_n hx hb dX6_votesHeldBy_0 rfl (lv_at hl 0 rfl) ?_
  refine lv_aload_n hx hb dX6_votesHeldBy_1 rfl (lv_at hl 0 rfl) ?_
  refine wk_read (va_runV (As := []) (rest := [.ref (a 9)]) ⟨hx, hb, hml, hown, hts⟩ (c_X6_voices l G a c hc) (cwV 0 hts gX6_votesHeldBy_X6_voices rfl rfl rfl hdV_X6_voices ⟨Nat.le_of_ble_eq_true rfl, Nat.le_of_ble_eq_true rfl⟩) (hR.pre (ci := 6) (q0 := 9) rfl rfl) rfl rfl hl.1 rfl (lv_room (Nat.le_of_ble_eq_true rfl)) dX6_votesHeldBy_2 ⟨hrc, hrs⟩) ?_
  refine lv_aload_n hx hb dX6_votesHeldBy_5 rfl (lv_at hl 0 rfl) ?_
  refine lv_iconst (v := 1) hx hb dX6_votesHeldBy_6 (by decide) ?_
  refine lv_iload_n hx hb dX6_votesHeldBy_7 rfl (lv_at hl 1 rfl) ?_
  refine lv_ishl hx hb dX6_votesHeldBy_8 ?_
  show W _ _ _ _ _ _ _ _ _ _ _ _ _ _ _ (F0 _ _ _ (.int (sh1 f) :: _))
  refine wk_read (va_runV (As := [.int (sh1 f)]) (rest := [.int (pVoices (cK c) (cM c)), .ref (a 9)]) ⟨hx, hb, hml, hown, hts⟩ (c_X6_heldBy l G a c hc (sh1 f)) (cwV 1 hts gX6_votesHeldBy_X6_heldBy rfl rfl rfl hdV_X6_heldBy ⟨Nat.le_of_ble_eq_true rfl, Nat.le_of_ble_eq_true rfl⟩) (hR.pre (ci := 6) (q0 := 9) rfl rfl) rfl rfl hl.1 rfl (lv_room (Nat.le_of_ble_eq_true rfl)) dX6_votesHeldBy_9 ⟨hrc, hrs⟩) ?_
  refine lv_iand hx hb dX6_votesHeldBy_12 ?_
  refine wk_read (va_runV (As := [.int ((pVoices (cK c) (cM c)) &&& (pHeld (cK c) (cM c) (sh1 f)))]) (rest := []) ⟨hx, hb, hml, hown, hts⟩ (c_X6_votesOf l G a c hc ((pVoices (cK c) (cM c)) &&& (pHeld (cK c) (cM c) (sh1 f)))) (cwV 1 hts gX6_votesHeldBy_X6_votesOf rfl rfl rfl hdV_X6_votesOf ⟨Nat.le_of_ble_eq_true rfl, Nat.le_of_ble_eq_true rfl⟩) (hR.pre (ci := 6) (q0 := 9) rfl rfl) rfl rfl hl.1 rfl (lv_room (Nat.le_of_ble_eq_true rfl)) dX6_votesHeldBy_13 ⟨hrc, hrs⟩) ?_
  exact wk_ret hx hb hr hlocks dX6_votesHeldBy_16 (rfl)
theorem hdV_X6_mostHolder : yX6_mostHolder.cls = RX6 ∧ yX6_mostHolder.cls ≠ "java/lang/invoke/MethodHandle" ∧ yX6_mostHolder.cls ≠ "java/lang/invoke/VarHandle" ∧ (parseMethodDescriptor yX6_mostHolder.desc).map (fun d => d.parameters.length) = some 0 := by decide +kernel
set_option maxHeartbeats 4000000 in
set_option maxRecDepth 100000 in
theorem c_X6_mostHolder (l : Launch) (G : GG) (a : Nat → Nat) (c : CX) (hc : OkR c) : Met l yX6_mostHolder wsX6_mostHolder ({ frames := 5, cells := 0, slots := 0, locals := 106 }) (va_Pc [.ref (a 9)] (fun U => PreW G (WR G a c) U U.heap)) (QcRead (pMost (cK c) (cM c))) 0 0 (fun _ => False) := by
  refine Met.ofW (cc := cX6_mostHolder) (maxL := 5) (ret := (some .int)) (by decide) rfl ?_
  intro p e s m args below meth cd s₁ BB hml hv
  obtain ⟨rfl, hR⟩ := hv
  have hx := BB.exec
  have hb := BB.bytes
  have hr := BB.returns
  have hts := atoms_spec (ws := wsX6_mostHolder) BB.pre
  have hown : s.vm.findClass RX6 = some m.cls := findClass_of_methodNamed BB.named
  have hlocks := BB.notSynchronized
  have hrc : 0 + 0 ≤ (headSpec wsX6_mostHolder ({ frames := 5, cells := 0, slots := 0, locals := 106 })).room.cells := Nat.le_refl _
  have hrs : 0 + 0 ≤ (headSpec wsX6_mostHolder ({ frames := 5, cells := 0, slots := 0, locals := 106 })).room.slots := Nat.le_refl _
  have hP := hR.1
  have hK := hR.2.1
  have hN := hR.2.2
  obtain ⟨hk7, ho1, ho5, hi6, hl200, hnx, hkn⟩ := id hc
  have hin0 : ∀ w ∈ u_ws RX0 TX0 7, w ∈ wsX6_mostHolder := by decide +kernel
  have hin6 : ∀ w ∈ u_ws RX6 TX6 2, w ∈ wsX6_mostHolder := by decide +kernel
  have hf9 := hts (.fieldLink RX6 9 "RegaliaVotes$Vote" "told" "LRegaliaVotes$Council;") (by decide +kernel)
  have hf83 := hts (.fieldLink RX6 83 "RegaliaVotes$Council" "officers" "I") (by decide +kernel)
  refine wk_enter (n := 5) (Nat.le_of_ble_eq_true rfl) (fun ls hl => ?_)
  have hl : lv_has ls 5 [(0, .ref (a 9))] := hl
  refine lv_iconst (v := 0) hx hb dX6_mostHolder_0 (by decide) ?_
  refine lv_istore_n (lv' := [(1, .int 0), (0, .ref (a 9))]) hx hb dX6_mostHolder_1 rfl hl (by decide) rfl (fun ls hl => ?_)
  refine lv_aload_n hx hb dX6_mostHolder_2 rfl (lv_at hl 1 rfl) ?_
  refine lv_iconst (v := 0) hx hb dX6_mostHolder_3 (by decide) ?_
  refine wk_read (va_runV (As := [.int 0]) (rest := []) ⟨hx, hb, hml, hown, hts⟩ (c_X6_votesHeldBy l G a c hc 0) (cwV 1 hts gX6_mostHolder_X6_votesHeldBy rfl rfl rfl hdV_X6_votesHeldBy ⟨Nat.le_of_ble_eq_true rfl, Nat.le_of_ble_eq_true rfl⟩) (hR.pre (ci := 6) (q0 := 9) rfl rfl) rfl rfl hl.1 rfl (lv_room (Nat.le_of_ble_eq_true rfl)) dX6_mostHolder_4 ⟨hrc, hrs⟩) ?_
  refine lv_istore_n (lv' := [(2, .int (pVHeld (cK c) (cM c) 0)), (1, .int 0), (0, .ref (a 9))]) hx hb dX6_mostHolder_7 rfl hl (by decide) rfl (fun ls hl => ?_)
  refine lv_iconst (v := 1) hx hb dX6_mostHolder_8 (by decide) ?_
  refine lv_istore_n (lv' := [(3, .int 1), (2, .int (pVHeld (cK c) (cM c) 0)), (1, .int 0), (0, .ref (a 9))]) hx hb dX6_mostHolder_9 rfl hl (by decide) rfl (fun ls hl => ?_)
  refine wk_loop (σ := Nat × Int32 × Int32) (nL := 5) (fun xσ n => match xσ with | (i, z, w) => i + n = kO (cK c) - 1 ∧ (z, w) = pMostF (cK c) (cM c) i) (fun xσ => match xσ with | (i, z, w) => [(3, .int (nI (i + 1))), (2, .int w), (1, .int z), (0, .ref (a 9))]) (0, 0, pVHeld (cK c) (cM c) 0) (kO (cK c) - 1) (⟨by omega, rfl⟩) hl ?_
  rintro n10 ⟨i, z, w⟩ ls hI10 hl ih10
  have hl : lv_has ls 5 [(3, .int (nI (i + 1))), (2, .int w), (1, .int z), (0, .ref (a 9))] := hl
  obtain ⟨hi, hz⟩ := hI10
  refine lv_iload_n hx hb dX6_mostHolder_10 rfl (lv_at hl 0 rfl) ?_
  refine lv_aload_n hx hb dX6_mostHolder_11 rfl (lv_at hl 3 rfl) ?_
  refine va_get (D := G.1) (v := .ref (a 1)) hx hb hts hin6 hown hK hP 9 rfl rfl 0 (by decide) hf9 (fun _ h => h) rfl dX6_mostHolder_12 ?_
  refine va_get (D := G.1) (v := .int (nI (kO (cK c)))) hx hb hts hin0 hown hK hP 1 rfl rfl 1 (by decide) hf83 (fun _ h => h) rfl dX6_mostHolder_15 ?_
  refine wk_ge (x := (i + 1)) (y := (kO (cK c))) (tgt := 45) hx hb (by omega) (by omega) dX6_mostHolder_18 (by decide) (fun c18 => ?_) (fun c18 => ?_)
  · refine lv_iload_n hx hb dX6_mostHolder_45 rfl (lv_at hl 2 rfl) ?_
    exact wk_ret hx hb hr hlocks dX6_mostHolder_46 (by rw [pMost, show kO (cK c) - 1 = i by omega, ← hz])
  · refine lv_aload_n hx hb dX6_mostHolder_21 rfl (lv_at hl 3 rfl) ?_
    refine lv_iload_n hx hb dX6_mostHolder_22 rfl (lv_at hl 0 rfl) ?_
    refine wk_read (va_runV (As := [.int (nI (i + 1))]) (rest := []) ⟨hx, hb, hml, hown, hts⟩ (c_X6_votesHeldBy l G a c hc (nI (i + 1))) (cwV 1 hts gX6_mostHolder_X6_votesHeldBy rfl rfl rfl hdV_X6_votesHeldBy ⟨Nat.le_of_ble_eq_true rfl, Nat.le_of_ble_eq_true rfl⟩) (hR.pre (ci := 6) (q0 := 9) rfl rfl) rfl rfl hl.1 rfl (lv_room (Nat.le_of_ble_eq_true rfl)) dX6_mostHolder_23 ⟨hrc, hrs⟩) ?_
    refine lv_istore (lv' := [(4, .int (pVHeld (cK c) (cM c) (nI (i + 1)))), (3, .int (nI (i + 1))), (2, .int w), (1, .int z), (0, .ref (a 9))]) hx hb dX6_mostHolder_26 hl (by decide) rfl (fun ls hl => ?_)
    refine lv_iload hx hb dX6_mostHolder_28 (lv_at hl 0 rfl) ?_
    refine lv_iload_n hx hb dX6_mostHolder_30 rfl (lv_at hl 2 rfl) ?_
    refine lv_icmp_le (tgt := 39) hx hb dX6_mostHolder_31 (by decide) (fun c31 => ?_) (fun c31 => ?_)
    · refine lv_iinc (v := (nI ((i + 1) + 1))) (lv' := [(3, .int (nI ((i + 1) + 1))), (4, .int (pVHeld (cK c) (cM c) (nI (i + 1)))), (2, .int w), (1, .int z), (0, .ref (a 9))]) hx hb dX6_mostHolder_39 hl (k := 1) rfl (wk_i1 (i + 1)) (by decide) rfl (fun ls hl => ?_)
      refine lv_goto (tgt := 10) hx hb dX6_mostHolder_42 (by decide) ?_
      exact ih10 (i + 1, z, w) (n10 - 1) ls (by omega) (⟨by omega, by rw [pMostF, fo_s, ← pMostF, ← hz]; simp [Int32.not_lt.mpr c31]⟩) (lv_sub hl [0, 2, 3, 4] rfl)
    · refine lv_iload_n hx hb dX6_mostHolder_34 rfl (lv_at hl 1 rfl) ?_
      refine lv_istore_n (lv' := [(1, .int (nI (i + 1))), (4, .int (pVHeld (cK c) (cM c) (nI (i + 1)))), (3, .int (nI (i + 1))), (2, .int w), (0, .ref (a 9))]) hx hb dX6_mostHolder_35 rfl hl (by decide) rfl (fun ls hl => ?_)
      refine lv_iload hx hb dX6_mostHolder_36 (lv_at hl 1 rfl) ?_
      refine lv_istore_n (lv' := [(2, .int (pVHeld (cK c) (cM c) (nI (i + 1)))), (1, .int (nI (i + 1))), (4, .int (pVHeld (cK c) (cM c) (nI (i + 1)))), (3, .int (nI (i + 1))), (0, .ref (a 9))]) hx hb dX6_mostHolder_38 rfl hl (by decide) rfl (fun ls hl => ?_)
      refine lv_iinc (v := (nI ((i + 1) + 1))) (lv' := [(3, .int (nI ((i + 1) + 1))), (2, .int (pVHeld (cK c) (cM c) (nI (i + 1)))), (1, .int (nI (i + 1))), (4, .int (pVHeld (cK c) (cM c) (nI (i + 1)))), (0, .ref (a 9))]) hx hb dX6_mostHolder_39 hl (k := 3) rfl (wk_i1 (i + 1)) (by decide) rfl (fun ls hl => ?_)
      refine lv_goto (tgt := 10) hx hb dX6_mostHolder_42 (by decide) ?_
      exact ih10 (i + 1, (nI (i + 1)), (pVHeld (cK c) (cM c) (nI (i + 1)))) (n10 - 1) ls (by omega) (⟨by omega, by rw [pMostF, fo_s, ← pMostF, ← hz]; simp [Int32.not_le.mp c31]⟩) (lv_sub hl [0, 1, 2, 4] rfl)
theorem hdV_X6_swayers : yX6_swayers.cls = RX6 ∧ yX6_swayers.cls ≠ "java/lang/invoke/MethodHandle" ∧ yX6_swayers.cls ≠ "java/lang/invoke/VarHandle" ∧ (parseMethodDescriptor yX6_swayers.desc).map (fun d => d.parameters.length) = some 1 := by decide +kernel
set_option maxHeartbeats 4000000 in
set_option maxRecDepth 100000 in
theorem c_X6_swayers (l : Launch) (G : GG) (a : Nat → Nat) (c : CX) (hc : OkR c) (b : Int32) : Met l yX6_swayers wsX6_swayers ({ frames := 4, cells := 0, slots := 0, locals := 85 }) (va_Pc [.ref (a 9), .int b] (fun U => PreW G (WR G a c) U U.heap)) (QcRead (pSway (cK c) (cM c) b)) 0 0 (fun _ => False) := by
  refine Met.ofW (cc := cX6_swayers) (maxL := 8) (ret := (some .int)) (by decide) rfl ?_
  intro p e s m args below meth cd s₁ BB hml hv
  obtain ⟨rfl, hR⟩ := hv
  have hx := BB.exec
  have hb := BB.bytes
  have hr := BB.returns
  have hts := atoms_spec (ws := wsX6_swayers) BB.pre
  have hown : s.vm.findClass RX6 = some m.cls := findClass_of_methodNamed BB.named
  have hlocks := BB.notSynchronized
  have hrc : 0 + 0 ≤ (headSpec wsX6_swayers ({ frames := 4, cells := 0, slots := 0, locals := 85 })).room.cells := Nat.le_refl _
  have hrs : 0 + 0 ≤ (headSpec wsX6_swayers ({ frames := 4, cells := 0, slots := 0, locals := 85 })).room.slots := Nat.le_refl _
  have hP := hR.1
  have hK := hR.2.1
  have hN := hR.2.2
  obtain ⟨hk7, ho1, ho5, hi6, hl200, hnx, hkn⟩ := id hc
  have hin0 : ∀ w ∈ u_ws RX0 TX0 7, w ∈ wsX6_swayers := by decide +kernel
  have hin6 : ∀ w ∈ u_ws RX6 TX6 2, w ∈ wsX6_swayers := by decide +kernel
  have hf9 := hts (.fieldLink RX6 9 "RegaliaVotes$Vote" "told" "LRegaliaVotes$Council;") (by decide +kernel)
  have hf19 := hts (.fieldLink RX6 19 "RegaliaVotes$Council" "things" "I") (by decide +kernel)
  refine wk_enter (n := 8) (Nat.le_of_ble_eq_true rfl) (fun ls hl => ?_)
  have hl : lv_has ls 8 [(0, .ref (a 9)), (1, .int b)] := hl
  refine lv_aload_n hx hb dX6_swayers_0 rfl (lv_at hl 0 rfl) ?_
  refine wk_read (va_runV (As := []) (rest := []) ⟨hx, hb, hml, hown, hts⟩ (c_X6_voices l G a c hc) (cwV 0 hts gX6_swayers_X6_voices rfl rfl rfl hdV_X6_voices ⟨Nat.le_of_ble_eq_true rfl, Nat.le_of_ble_eq_true rfl⟩) (hR.pre (ci := 6) (q0 := 9) rfl rfl) rfl rfl hl.1 rfl (lv_room (Nat.le_of_ble_eq_true rfl)) dX6_swayers_1 ⟨hrc, hrs⟩) ?_
  refine lv_istore_n (lv' := [(2, .int (pVoices (cK c) (cM c))), (0, .ref (a 9)), (1, .int b)]) hx hb dX6_swayers_4 rfl hl (by decide) rfl (fun ls hl => ?_)
  refine lv_aload_n hx hb dX6_swayers_5 rfl (lv_at hl 1 rfl) ?_
  refine lv_iload_n hx hb dX6_swayers_6 rfl (lv_at hl 2 rfl) ?_
  refine wk_read (va_runV (As := [.int b]) (rest := []) ⟨hx, hb, hml, hown, hts⟩ (c_X6_yesOf l G a c hc b) (cwV 1 hts gX6_swayers_X6_yesOf rfl rfl rfl hdV_X6_yesOf ⟨Nat.le_of_ble_eq_true rfl, Nat.le_of_ble_eq_true rfl⟩) (hR.pre (ci := 6) (q0 := 9) rfl rfl) rfl rfl hl.1 rfl (lv_room (Nat.le_of_ble_eq_true rfl)) dX6_swayers_7 ⟨hrc, hrs⟩) ?_
  refine lv_istore_n (lv' := [(3, .int (pYes (cK c) (cM c) b)), (2, .int (pVoices (cK c) (cM c))), (0, .ref (a 9)), (1, .int b)]) hx hb dX6_swayers_10 rfl hl (by decide) rfl (fun ls hl => ?_)
  refine lv_aload_n hx hb dX6_swayers_11 rfl (lv_at hl 2 rfl) ?_
  refine lv_iload_n hx hb dX6_swayers_12 rfl (lv_at hl 1 rfl) ?_
  refine lv_iload_n hx hb dX6_swayers_13 rfl (lv_at hl 0 rfl) ?_
  refine wk_read (va_runV (As := [.int (pVoices (cK c) (cM c)), .int (pYes (cK c) (cM c) b)]) (rest := []) ⟨hx, hb, hml, hown, hts⟩ (c_X6_passesBy l G a c hc (pVoices (cK c) (cM c)) (pYes (cK c) (cM c) b)) (cwV 2 hts gX6_swayers_X6_passesBy rfl rfl rfl hdV_X6_passesBy ⟨Nat.le_of_ble_eq_true rfl, Nat.le_of_ble_eq_true rfl⟩) (hR.pre (ci := 6) (q0 := 9) rfl rfl) rfl rfl hl.1 rfl (lv_room (Nat.le_of_ble_eq_true rfl)) dX6_swayers_14 ⟨hrc, hrs⟩) ?_
  refine lv_istore (lv' := [(4, .int (b2i (pPassBy (cK c) (pVoices (cK c) (cM c)) (pYes (cK c) (cM c) b)))), (3, .int (pYes (cK c) (cM c) b)), (2, .int (pVoices (cK c) (cM c))), (0, .ref (a 9)), (1, .int b)]) hx hb dX6_swayers_17 hl (by decide) rfl (fun ls hl => ?_)
  refine lv_iconst (v := 0) hx hb dX6_swayers_19 (by decide) ?_
  refine lv_istore (lv' := [(5, .int 0), (4, .int (b2i (pPassBy (cK c) (pVoices (cK c) (cM c)) (pYes (cK c) (cM c) b)))), (3, .int (pYes (cK c) (cM c) b)), (2, .int (pVoices (cK c) (cM c))), (0, .ref (a 9)), (1, .int b)]) hx hb dX6_swayers_20 hl (by decide) rfl (fun ls hl => ?_)
  refine lv_iconst (v := 0) hx hb dX6_swayers_22 (by decide) ?_
  refine lv_istore (lv' := [(6, .int 0), (5, .int 0), (4, .int (b2i (pPassBy (cK c) (pVoices (cK c) (cM c)) (pYes (cK c) (cM c) b)))), (3, .int (pYes (cK c) (cM c) b)), (2, .int (pVoices (cK c) (cM c))), (0, .ref (a 9)), (1, .int b)]) hx hb dX6_swayers_23 hl (by decide) rfl (fun ls hl => ?_)
  refine wk_loop (σ := Nat × Int32) (nL := 8) (fun xσ n => match xσ with | (i, z) => i + n = kT (cK c) ∧ z = pSwayF (cK c) (cM c) b i) (fun xσ => match xσ with | (i, z) => [(6, .int (nI i)), (5, .int z), (4, .int (b2i (pPassBy (cK c) (pVoices (cK c) (cM c)) (pYes (cK c) (cM c) b)))), (3, .int (pYes (cK c) (cM c) b)), (2, .int (pVoices (cK c) (cM c))), (0, .ref (a 9)), (1, .int b)]) (0, 0) (kT (cK c)) (⟨by omega, rfl⟩) hl ?_
  rintro n25 ⟨i, z⟩ ls hI25 hl ih25
  have hl : lv_has ls 8 [(6, .int (nI i)), (5, .int z), (4, .int (b2i (pPassBy (cK c) (pVoices (cK c) (cM c)) (pYes (cK c) (cM c) b)))), (3, .int (pYes (cK c) (cM c) b)), (2, .int (pVoices (cK c) (cM c))), (0, .ref (a 9)), (1, .int b)] := hl
  obtain ⟨hi, hz⟩ := hI25
  refine lv_iload hx hb dX6_swayers_25 (lv_at hl 0 rfl) ?_
  refine lv_aload_n hx hb dX6_swayers_27 rfl (lv_at hl 5 rfl) ?_
  refine va_get (D := G.1) (v := .ref (a 1)) hx hb hts hin6 hown hK hP 9 rfl rfl 0 (by decide) hf9 (fun _ h => h) rfl dX6_swayers_28 ?_
  refine va_get (D := G.1) (v := .int (nI (kT (cK c)))) hx hb hts hin0 hown hK hP 1 rfl rfl 0 (by decide) hf19 (fun _ h => h) rfl dX6_swayers_31 ?_
  refine wk_ge (x := i) (y := (kT (cK c))) (tgt := 79) hx hb (by omega) (by omega) dX6_swayers_34 (by decide) (fun c34 => ?_) (fun c34 => ?_)
  · refine lv_iload hx hb dX6_swayers_79 (lv_at hl 1 rfl) ?_
    exact wk_ret hx hb hr hlocks dX6_swayers_81 (by rw [hz, show i = kT (cK c) by omega]; rfl)
  · refine lv_iconst (v := 1) hx hb dX6_swayers_37 (by decide) ?_
    refine lv_iload hx hb dX6_swayers_38 (lv_at hl 0 rfl) ?_
    refine lv_ishl hx hb dX6_swayers_40 ?_
    show W _ _ _ _ _ _ _ _ _ _ _ _ _ _ _ (F0 _ _ _ (.int (sh1 (nI i)) :: _))
    refine lv_istore (lv' := [(7, .int (sh1 (nI i))), (6, .int (nI i)), (5, .int z), (4, .int (b2i (pPassBy (cK c) (pVoices (cK c) (cM c)) (pYes (cK c) (cM c) b)))), (3, .int (pYes (cK c) (cM c) b)), (2, .int (pVoices (cK c) (cM c))), (0, .ref (a 9)), (1, .int b)]) hx hb dX6_swayers_41 hl (by decide) rfl (fun ls hl => ?_)
    refine lv_iload_n hx hb dX6_swayers_43 rfl (lv_at hl 5 rfl) ?_
    refine lv_iload hx hb dX6_swayers_44 (lv_at hl 0 rfl) ?_
    refine lv_iand hx hb dX6_swayers_46 ?_
    refine lv_if_eq (tgt := 73) hx hb dX6_swayers_47 (by decide) (fun c47 => ?_) (fun c47 => ?_)
    · refine lv_iinc (v := (nI (i + 1))) (lv' := [(6, .int (nI (i + 1))), (7, .int (sh1 (nI i))), (5, .int z), (4, .int (b2i (pPassBy (cK c) (pVoices (cK c) (cM c)) (pYes (cK c) (cM c) b)))), (3, .int (pYes (cK c) (cM c) b)), (2, .int (pVoices (cK c) (cM c))), (0, .ref (a 9)), (1, .int b)]) hx hb dX6_swayers_73 hl (k := 1) rfl (wk_i1 i) (by decide) rfl (fun ls hl => ?_)
      refine lv_goto (tgt := 25) hx hb dX6_swayers_76 (by decide) ?_
      exact ih25 (i + 1, z) (n25 - 1) ls (by omega) (⟨by omega, by rw [hz]; simp [pSwayF, fo_s, c34, c47]⟩) (lv_sub hl [0, 2, 3, 4, 5, 6, 7] rfl)
    · refine lv_aload_n hx hb dX6_swayers_50 rfl (lv_at hl 6 rfl) ?_
      refine lv_iload_n hx hb dX6_swayers_51 rfl (lv_at hl 5 rfl) ?_
      refine lv_iload hx hb dX6_swayers_52 (lv_at hl 0 rfl) ?_
      refine lv_iconst (v := -1) hx hb dX6_swayers_54 (by decide) ?_
      refine lv_ixor hx hb dX6_swayers_55 ?_
      show W _ _ _ _ _ _ _ _ _ _ _ _ _ _ _ (F0 _ _ _ (.int (iv (sh1 (nI i))) :: _))
      refine lv_iand hx hb dX6_swayers_56 ?_
      refine lv_iload_n hx hb dX6_swayers_57 rfl (lv_at hl 4 rfl) ?_
      refine wk_read (va_runV (As := [.int ((pVoices (cK c) (cM c)) &&& (iv (sh1 (nI i)))), .int (pYes (cK c) (cM c) b)]) (rest := []) ⟨hx, hb, hml, hown, hts⟩ (c_X6_passesBy l G a c hc ((pVoices (cK c) (cM c)) &&& (iv (sh1 (nI i)))) (pYes (cK c) (cM c) b)) (cwV 2 hts gX6_swayers_X6_passesBy rfl rfl rfl hdV_X6_passesBy ⟨Nat.le_of_ble_eq_true rfl, Nat.le_of_ble_eq_true rfl⟩) (hR.pre (ci := 6) (q0 := 9) rfl rfl) rfl rfl hl.1 rfl (lv_room (Nat.le_of_ble_eq_true rfl)) dX6_swayers_58 ⟨hrc, hrs⟩) ?_
      refine lv_iload hx hb dX6_swayers_61 (lv_at hl 3 rfl) ?_
      refine lv_icmp_eq (tgt := 73) hx hb dX6_swayers_63 (by decide) (fun c63 => ?_) (fun c63 => ?_)
      · have c63 := b2i_inj c63
        refine lv_iinc (v := (nI (i + 1))) (lv' := [(6, .int (nI (i + 1))), (7, .int (sh1 (nI i))), (5, .int z), (4, .int (b2i (pPassBy (cK c) (pVoices (cK c) (cM c)) (pYes (cK c) (cM c) b)))), (3, .int (pYes (cK c) (cM c) b)), (2, .int (pVoices (cK c) (cM c))), (0, .ref (a 9)), (1, .int b)]) hx hb dX6_swayers_73 hl (k := 1) rfl (wk_i1 i) (by decide) rfl (fun ls hl => ?_)
        refine lv_goto (tgt := 25) hx hb dX6_swayers_76 (by decide) ?_
        exact ih25 (i + 1, z) (n25 - 1) ls (by omega) (⟨by omega, by rw [hz]; simp [pSwayF, fo_s, c34, c47, c63]⟩) (lv_sub hl [0, 2, 3, 4, 5, 6, 7] rfl)
      · have c63 := b2i_ninj c63
        refine lv_iload hx hb dX6_swayers_66 (lv_at hl 2 rfl) ?_
        refine lv_iload hx hb dX6_swayers_68 (lv_at hl 0 rfl) ?_
        refine lv_ior hx hb dX6_swayers_70 ?_
        refine lv_istore (lv' := [(5, .int (z ||| (sh1 (nI i)))), (7, .int (sh1 (nI i))), (6, .int (nI i)), (4, .int (b2i (pPassBy (cK c) (pVoices (cK c) (cM c)) (pYes (cK c) (cM c) b)))), (3, .int (pYes (cK c) (cM c) b)), (2, .int (pVoices (cK c) (cM c))), (0, .ref (a 9)), (1, .int b)]) hx hb dX6_swayers_71 hl (by decide) rfl (fun ls hl => ?_)
        refine lv_iinc (v := (nI (i + 1))) (lv' := [(6, .int (nI (i + 1))), (5, .int (z ||| (sh1 (nI i)))), (7, .int (sh1 (nI i))), (4, .int (b2i (pPassBy (cK c) (pVoices (cK c) (cM c)) (pYes (cK c) (cM c) b)))), (3, .int (pYes (cK c) (cM c) b)), (2, .int (pVoices (cK c) (cM c))), (0, .ref (a 9)), (1, .int b)]) hx hb dX6_swayers_73 hl (k := 2) rfl (wk_i1 i) (by decide) rfl (fun ls hl => ?_)
        refine lv_goto (tgt := 25) hx hb dX6_swayers_76 (by decide) ?_
        exact ih25 (i + 1, (z ||| (sh1 (nI i)))) (n25 - 1) ls (by omega) (⟨by omega, by rw [hz]; simp [pSwayF, fo_s, c34, c47, c63]⟩) (lv_sub hl [0, 1, 3, 4, 5, 6, 7] rfl)
theorem hdS_X6_isFewer : yX6_isFewer.cls ≠ "java/lang/invoke/MethodHandle" ∧ yX6_isFewer.cls ≠ "java/lang/invoke/VarHandle" ∧ (parseMethodDescriptor yX6_isFewer.desc).map (fun d => d.parameters.length) = some 2 := by decide +kernel
set_option maxHeartbeats 4000000 in
set_option maxRecDepth 100000 in
theorem c_X6_isFewer (l : Launch) (x : Int32) (y : Int32) : Met l yX6_isFewer wsX6_isFewer ({ frames := 1, cells := 0, slots := 0, locals := 20 }) (fun v _ => v = ([.int x, .int y] : List Value).toArray) (QcRead (b2i (pFewer x y))) 0 0 (fun _ => False) := by
  refine Met.ofW (cc := cX6_isFewer) (maxL := 2) (ret := (some .boolean)) (by decide) rfl ?_
  intro p e s m args below meth cd s₁ BB hml hv
  subst hv
  have hx := BB.exec
  have hb := BB.bytes
  have hr := BB.returns
  have hts := atoms_spec (ws := wsX6_isFewer) BB.pre
  have hown : s.vm.findClass RX6 = some m.cls := findClass_of_methodNamed BB.named
  have hlocks := BB.notSynchronized
  have hrc : 0 + 0 ≤ (headSpec wsX6_isFewer ({ frames := 1, cells := 0, slots := 0, locals := 20 })).room.cells := Nat.le_refl _
  have hrs : 0 + 0 ≤ (headSpec wsX6_isFewer ({ frames := 1, cells := 0, slots := 0, locals := 20 })).room.slots := Nat.le_refl _
  refine wk_enter (n := 2) (Nat.le_of_ble_eq_true rfl) (fun ls hl => ?_)
  have hl : lv_has ls 2 [(0, .int x), (1, .int y)] := hl
  refine lv_iload_n hx hb dX6_isFewer_0 rfl (lv_at hl 1 rfl) ?_
  refine lv_bipush (v := -9) hx hb dX6_isFewer_1 (by decide) ?_
  refine lv_icmp_eq (tgt := 17) hx hb dX6_isFewer_3 (by decide) (fun c3 => ?_) (fun c3 => ?_)
  · refine lv_iconst (v := 1) hx hb dX6_isFewer_17 (by decide) ?_
    refine lv_goto (tgt := 22) hx hb dX6_isFewer_18 (by decide) ?_
    exact wk_zret hx hb hr hlocks dX6_isFewer_22 (by rfl) (by simp [b2i, pFewer, c3])
  · refine lv_iload_n hx hb dX6_isFewer_6 rfl (lv_at hl 0 rfl) ?_
    refine wk_read (va_runS (As := [.int x]) (rest := []) ⟨hx, hb, hml, hown, hts⟩ (c_J6_bitCount_0f7a4 l x) (va_cwS 1 hts gX6_isFewer_J6_bitCount_0f7a4 rfl rfl rfl hdS_J6_bitCount_0f7a4 ⟨Nat.le_of_ble_eq_true rfl, Nat.le_of_ble_eq_true rfl⟩) preEq rfl rfl hl.1 rfl (lv_room (Nat.le_of_ble_eq_true rfl)) dX6_isFewer_7 ⟨hrc, hrs⟩) ?_
    refine lv_iload_n hx hb dX6_isFewer_10 rfl (lv_at hl 1 rfl) ?_
    refine wk_read (va_runS (As := [.int y]) (rest := [.int (pPop x)]) ⟨hx, hb, hml, hown, hts⟩ (c_J6_bitCount_0f7a4 l y) (va_cwS 1 hts gX6_isFewer_J6_bitCount_0f7a4 rfl rfl rfl hdS_J6_bitCount_0f7a4 ⟨Nat.le_of_ble_eq_true rfl, Nat.le_of_ble_eq_true rfl⟩) preEq rfl rfl hl.1 rfl (lv_room (Nat.le_of_ble_eq_true rfl)) dX6_isFewer_11 ⟨hrc, hrs⟩) ?_
    refine lv_icmp_ge (tgt := 21) hx hb dX6_isFewer_14 (by decide) (fun c14 => ?_) (fun c14 => ?_)
    · refine lv_iconst (v := 0) hx hb dX6_isFewer_21 (by decide) ?_
      exact wk_zret hx hb hr hlocks dX6_isFewer_22 (by rfl) (by simp [b2i, pFewer, c3, c14])
    · refine lv_iconst (v := 1) hx hb dX6_isFewer_17 (by decide) ?_
      refine lv_goto (tgt := 22) hx hb dX6_isFewer_18 (by decide) ?_
      exact wk_zret hx hb hr hlocks dX6_isFewer_22 (by rfl) (by simp [b2i, pFewer, c3, c14])
theorem hdV_X6_fewestTurned : yX6_fewestTurned.cls = RX6 ∧ yX6_fewestTurned.cls ≠ "java/lang/invoke/MethodHandle" ∧ yX6_fewestTurned.cls ≠ "java/lang/invoke/VarHandle" ∧ (parseMethodDescriptor yX6_fewestTurned.desc).map (fun d => d.parameters.length) = some 1 := by decide +kernel
set_option maxHeartbeats 4000000 in
set_option maxRecDepth 100000 in
theorem c_X6_fewestTurned (l : Launch) (G : GG) (a : Nat → Nat) (c : CX) (hc : OkR c) (b : Int32) : Met l yX6_fewestTurned wsX6_fewestTurned ({ frames := 4, cells := 0, slots := 0, locals := 85 }) (va_Pc [.ref (a 9), .int b] (fun U => PreW G (WR G a c) U U.heap)) (QcRead (pTurn (cK c) (cM c) b)) 0 0 (fun _ => False) := by
  refine Met.ofW (cc := cX6_fewestTurned) (maxL := 6) (ret := (some .int)) (by decide) rfl ?_
  intro p e s m args below meth cd s₁ BB hml hv
  obtain ⟨rfl, hR⟩ := hv
  have hx := BB.exec
  have hb := BB.bytes
  have hr := BB.returns
  have hts := atoms_spec (ws := wsX6_fewestTurned) BB.pre
  have hown : s.vm.findClass RX6 = some m.cls := findClass_of_methodNamed BB.named
  have hlocks := BB.notSynchronized
  have hrc : 0 + 0 ≤ (headSpec wsX6_fewestTurned ({ frames := 4, cells := 0, slots := 0, locals := 85 })).room.cells := Nat.le_refl _
  have hrs : 0 + 0 ≤ (headSpec wsX6_fewestTurned ({ frames := 4, cells := 0, slots := 0, locals := 85 })).room.slots := Nat.le_refl _
  have hP := hR.1
  have hK := hR.2.1
  have hN := hR.2.2
  obtain ⟨hk7, ho1, ho5, hi6, hl200, hnx, hkn⟩ := id hc
  refine wk_enter (n := 6) (Nat.le_of_ble_eq_true rfl) (fun ls hl => ?_)
  have hl : lv_has ls 6 [(0, .ref (a 9)), (1, .int b)] := hl
  refine lv_aload_n hx hb dX6_fewestTurned_0 rfl (lv_at hl 0 rfl) ?_
  refine wk_read (va_runV (As := []) (rest := []) ⟨hx, hb, hml, hown, hts⟩ (c_X6_voices l G a c hc) (cwV 0 hts gX6_fewestTurned_X6_voices rfl rfl rfl hdV_X6_voices ⟨Nat.le_of_ble_eq_true rfl, Nat.le_of_ble_eq_true rfl⟩) (hR.pre (ci := 6) (q0 := 9) rfl rfl) rfl rfl hl.1 rfl (lv_room (Nat.le_of_ble_eq_true rfl)) dX6_fewestTurned_1 ⟨hrc, hrs⟩) ?_
  refine lv_istore_n (lv' := [(2, .int (pVoices (cK c) (cM c))), (0, .ref (a 9)), (1, .int b)]) hx hb dX6_fewestTurned_4 rfl hl (by decide) rfl (fun ls hl => ?_)
  refine lv_aload_n hx hb dX6_fewestTurned_5 rfl (lv_at hl 1 rfl) ?_
  refine lv_iload_n hx hb dX6_fewestTurned_6 rfl (lv_at hl 2 rfl) ?_
  refine wk_read (va_runV (As := [.int b]) (rest := []) ⟨hx, hb, hml, hown, hts⟩ (c_X6_yesOf l G a c hc b) (cwV 1 hts gX6_fewestTurned_X6_yesOf rfl rfl rfl hdV_X6_yesOf ⟨Nat.le_of_ble_eq_true rfl, Nat.le_of_ble_eq_true rfl⟩) (hR.pre (ci := 6) (q0 := 9) rfl rfl) rfl rfl hl.1 rfl (lv_room (Nat.le_of_ble_eq_true rfl)) dX6_fewestTurned_7 ⟨hrc, hrs⟩) ?_
  refine lv_istore_n (lv' := [(3, .int (pYes (cK c) (cM c) b)), (2, .int (pVoices (cK c) (cM c))), (0, .ref (a 9)), (1, .int b)]) hx hb dX6_fewestTurned_10 rfl hl (by decide) rfl (fun ls hl => ?_)
  refine lv_bipush (v := -9) hx hb dX6_fewestTurned_11 (by decide) ?_
  refine lv_istore (lv' := [(4, .int (-9)), (3, .int (pYes (cK c) (cM c) b)), (2, .int (pVoices (cK c) (cM c))), (0, .ref (a 9)), (1, .int b)]) hx hb dX6_fewestTurned_13 hl (by decide) rfl (fun ls hl => ?_)
  refine lv_iconst (v := 0) hx hb dX6_fewestTurned_15 (by decide) ?_
  refine lv_istore (lv' := [(5, .int 0), (4, .int (-9)), (3, .int (pYes (cK c) (cM c) b)), (2, .int (pVoices (cK c) (cM c))), (0, .ref (a 9)), (1, .int b)]) hx hb dX6_fewestTurned_16 hl (by decide) rfl (fun ls hl => ?_)
  refine wk_loop (σ := Nat × Int32) (nL := 6) (fun xσ n => match xσ with | (i, z) => i + n = 128 ∧ z = pTurnF (cK c) (cM c) b i) (fun xσ => match xσ with | (i, z) => [(5, .int (nI i)), (4, .int z), (3, .int (pYes (cK c) (cM c) b)), (2, .int (pVoices (cK c) (cM c))), (0, .ref (a 9)), (1, .int b)]) (0, -9) 128 (⟨by omega, rfl⟩) hl ?_
  rintro n18 ⟨i, z⟩ ls hI18 hl ih18
  have hl : lv_has ls 6 [(5, .int (nI i)), (4, .int z), (3, .int (pYes (cK c) (cM c) b)), (2, .int (pVoices (cK c) (cM c))), (0, .ref (a 9)), (1, .int b)] := hl
  obtain ⟨hi, hz⟩ := hI18
  refine lv_iload hx hb dX6_fewestTurned_18 (lv_at hl 0 rfl) ?_
  refine lv_sipush (v := 128) hx hb dX6_fewestTurned_20 (by decide) ?_
  refine wk_ge (x := i) (y := 128) (tgt := 67) hx hb (by omega) (by omega) dX6_fewestTurned_23 (by decide) (fun c23 => ?_) (fun c23 => ?_)
  · refine lv_iload hx hb dX6_fewestTurned_67 (lv_at hl 1 rfl) ?_
    exact wk_ret hx hb hr hlocks dX6_fewestTurned_69 (by rw [hz, show i = 128 by omega]; rfl)
  · refine lv_iload hx hb dX6_fewestTurned_26 (lv_at hl 0 rfl) ?_
    refine lv_iload_n hx hb dX6_fewestTurned_28 rfl (lv_at hl 3 rfl) ?_
    refine wk_read (va_runSN (As := [.int (nI i), .int (pVoices (cK c) (cM c))]) (rest := []) ⟨hx, hb, hml, hown, hts⟩ (c_X7_isWithin l (nI i) (pVoices (cK c) (cM c))) ⟨va_cnB 2 hts gX6_fewestTurned_X7_isWithin_n86 rfl rfl rfl hN.2.1 (hts (.initialized RX7) (by decide +kernel)) hdS_X7_isWithin ⟨Nat.le_of_ble_eq_true rfl, Nat.le_of_ble_eq_true rfl⟩, hts (.static yX7_isWithin) (by decide +kernel), trivial⟩ preEq rfl rfl hl.1 rfl (lv_room (Nat.le_of_ble_eq_true rfl)) dX6_fewestTurned_29 ⟨hrc, hrs⟩) ?_
    refine lv_if_eq (tgt := 61) hx hb dX6_fewestTurned_32 (by decide) (fun c32 => ?_) (fun c32 => ?_)
    · have c32 := b2i_f c32
      refine lv_iinc (v := (nI (i + 1))) (lv' := [(5, .int (nI (i + 1))), (4, .int z), (3, .int (pYes (cK c) (cM c) b)), (2, .int (pVoices (cK c) (cM c))), (0, .ref (a 9)), (1, .int b)]) hx hb dX6_fewestTurned_61 hl (k := 0) rfl (wk_i1 i) (by decide) rfl (fun ls hl => ?_)
      refine lv_goto (tgt := 18) hx hb dX6_fewestTurned_64 (by decide) ?_
      exact ih18 (i + 1, z) (n18 - 1) ls (by omega) (⟨by omega, by rw [pTurnF, fo_s, ← pTurnF, ← hz]; simp [c23, c32]⟩) (lv_sub hl [0, 1, 2, 3, 4, 5] rfl)
    · have c32 := b2i_t c32
      refine lv_iload hx hb dX6_fewestTurned_35 (lv_at hl 0 rfl) ?_
      refine lv_iload hx hb dX6_fewestTurned_37 (lv_at hl 1 rfl) ?_
      refine wk_read (va_runS (As := [.int (nI i), .int z]) (rest := []) ⟨hx, hb, hml, hown, hts⟩ (c_X6_isFewer l (nI i) z) (va_cwS 2 hts gX6_fewestTurned_X6_isFewer rfl rfl rfl hdS_X6_isFewer ⟨Nat.le_of_ble_eq_true rfl, Nat.le_of_ble_eq_true rfl⟩) preEq rfl rfl hl.1 rfl (lv_room (Nat.le_of_ble_eq_true rfl)) dX6_fewestTurned_39 ⟨hrc, hrs⟩) ?_
      refine lv_if_eq (tgt := 61) hx hb dX6_fewestTurned_42 (by decide) (fun c42 => ?_) (fun c42 => ?_)
      · have c42 := b2i_f c42
        refine lv_iinc (v := (nI (i + 1))) (lv' := [(5, .int (nI (i + 1))), (4, .int z), (3, .int (pYes (cK c) (cM c) b)), (2, .int (pVoices (cK c) (cM c))), (0, .ref (a 9)), (1, .int b)]) hx hb dX6_fewestTurned_61 hl (k := 0) rfl (wk_i1 i) (by decide) rfl (fun ls hl => ?_)
        refine lv_goto (tgt := 18) hx hb dX6_fewestTurned_64 (by decide) ?_
        exact ih18 (i + 1, z) (n18 - 1) ls (by omega) (⟨by omega, by rw [pTurnF, fo_s, ← pTurnF, ← hz]; simp [c23, c32, c42]⟩) (lv_sub hl [0, 1, 2, 3, 4, 5] rfl)
      · have c42 := b2i_t c42
        refine lv_aload_n hx hb dX6_fewestTurned_45 rfl (lv_at hl 4 rfl) ?_
        refine lv_iload_n hx hb dX6_fewestTurned_46 rfl (lv_at hl 3 rfl) ?_
        refine lv_iload_n hx hb dX6_fewestTurned_47 rfl (lv_at hl 2 rfl) ?_
        refine lv_iload hx hb dX6_fewestTurned_48 (lv_at hl 0 rfl) ?_
        refine lv_ixor hx hb dX6_fewestTurned_50 ?_
        refine wk_read (va_runV (As := [.int (pVoices (cK c) (cM c)), .int ((pYes (cK c) (cM c) b) ^^^ (nI i))]) (rest := []) ⟨hx, hb, hml, hown, hts⟩ (c_X6_passesBy l G a c hc (pVoices (cK c) (cM c)) ((pYes (cK c) (cM c) b) ^^^ (nI i))) (cwV 2 hts gX6_fewestTurned_X6_passesBy rfl rfl rfl hdV_X6_passesBy ⟨Nat.le_of_ble_eq_true rfl, Nat.le_of_ble_eq_true rfl⟩) (hR.pre (ci := 6) (q0 := 9) rfl rfl) rfl rfl hl.1 rfl (lv_room (Nat.le_of_ble_eq_true rfl)) dX6_fewestTurned_51 ⟨hrc, hrs⟩) ?_
        refine lv_if_eq (tgt := 61) hx hb dX6_fewestTurned_54 (by decide) (fun c54 => ?_) (fun c54 => ?_)
        · have c54 := b2i_f c54
          refine lv_iinc (v := (nI (i + 1))) (lv' := [(5, .int (nI (i + 1))), (4, .int z), (3, .int (pYes (cK c) (cM c) b)), (2, .int (pVoices (cK c) (cM c))), (0, .ref (a 9)), (1, .int b)]) hx hb dX6_fewestTurned_61 hl (k := 0) rfl (wk_i1 i) (by decide) rfl (fun ls hl => ?_)
          refine lv_goto (tgt := 18) hx hb dX6_fewestTurned_64 (by decide) ?_
          exact ih18 (i + 1, z) (n18 - 1) ls (by omega) (⟨by omega, by rw [pTurnF, fo_s, ← pTurnF, ← hz]; simp [c23, c32, c42, c54]⟩) (lv_sub hl [0, 1, 2, 3, 4, 5] rfl)
        · have c54 := b2i_t c54
          refine lv_iload hx hb dX6_fewestTurned_57 (lv_at hl 0 rfl) ?_
          refine lv_istore (lv' := [(4, .int (nI i)), (5, .int (nI i)), (3, .int (pYes (cK c) (cM c) b)), (2, .int (pVoices (cK c) (cM c))), (0, .ref (a 9)), (1, .int b)]) hx hb dX6_fewestTurned_59 hl (by decide) rfl (fun ls hl => ?_)
          refine lv_iinc (v := (nI (i + 1))) (lv' := [(5, .int (nI (i + 1))), (4, .int (nI i)), (3, .int (pYes (cK c) (cM c) b)), (2, .int (pVoices (cK c) (cM c))), (0, .ref (a 9)), (1, .int b)]) hx hb dX6_fewestTurned_61 hl (k := 1) rfl (wk_i1 i) (by decide) rfl (fun ls hl => ?_)
          refine lv_goto (tgt := 18) hx hb dX6_fewestTurned_64 (by decide) ?_
          exact ih18 (i + 1, (nI i)) (n18 - 1) ls (by omega) (⟨by omega, by rw [pTurnF, fo_s, ← pTurnF, ← hz]; simp [c23, c32, c42, c54]⟩) (lv_sub hl [0, 1, 2, 3, 4, 5] rfl)
theorem hdV_X6_isAnyoneWell : yX6_isAnyoneWell.cls = RX6 ∧ yX6_isAnyoneWell.cls ≠ "java/lang/invoke/MethodHandle" ∧ yX6_isAnyoneWell.cls ≠ "java/lang/invoke/VarHandle" ∧ (parseMethodDescriptor yX6_isAnyoneWell.desc).map (fun d => d.parameters.length) = some 0 := by decide +kernel
set_option maxHeartbeats 4000000 in
set_option maxRecDepth 100000 in
theorem c_X6_isAnyoneWell (l : Launch) (G : GG) (a : Nat → Nat) (c : CX) (hc : OkR c) : Met l yX6_isAnyoneWell wsX6_isAnyoneWell ({ frames := 1, cells := 0, slots := 0, locals := 20 }) (va_Pc [.ref (a 9)] (fun U => PreW G (WR G a c) U U.heap)) (QcRead (b2i (pWell (cK c) (cM c)))) 0 0 (fun _ => False) := by
  refine Met.ofW (cc := cX6_isAnyoneWell) (maxL := 1) (ret := (some .boolean)) (by decide) rfl ?_
  intro p e s m args below meth cd s₁ BB hml hv
  obtain ⟨rfl, hR⟩ := hv
  have hx := BB.exec
  have hb := BB.bytes
  have hr := BB.returns
  have hts := atoms_spec (ws := wsX6_isAnyoneWell) BB.pre
  have hown : s.vm.findClass RX6 = some m.cls := findClass_of_methodNamed BB.named
  have hlocks := BB.notSynchronized
  have hrc : 0 + 0 ≤ (headSpec wsX6_isAnyoneWell ({ frames := 1, cells := 0, slots := 0, locals := 20 })).room.cells := Nat.le_refl _
  have hrs : 0 + 0 ≤ (headSpec wsX6_isAnyoneWell ({ frames := 1, cells := 0, slots := 0, locals := 20 })).room.slots := Nat.le_refl _
  have hP := hR.1
  have hK := hR.2.1
  have hN := hR.2.2
  obtain ⟨hk7, ho1, ho5, hi6, hl200, hnx, hkn⟩ := id hc
  have hin0 : ∀ w ∈ u_ws RX0 TX0 7, w ∈ wsX6_isAnyoneWell := by decide +kernel
  have hin2 : ∀ w ∈ u_ws RX2 TX2 7, w ∈ wsX6_isAnyoneWell := by decide +kernel
  have hin6 : ∀ w ∈ u_ws RX6 TX6 2, w ∈ wsX6_isAnyoneWell := by decide +kernel
  have hf9 := hts (.fieldLink RX6 9 "RegaliaVotes$Vote" "told" "LRegaliaVotes$Council;") (by decide +kernel)
  have hf15 := hts (.fieldLink RX6 15 "RegaliaVotes$Vote" "moment" "LRegaliaVotes$Moment;") (by decide +kernel)
  have hf44 := hts (.fieldLink RX6 44 "RegaliaVotes$Moment" "sick" "I") (by decide +kernel)
  have hf83 := hts (.fieldLink RX6 83 "RegaliaVotes$Council" "officers" "I") (by decide +kernel)
  refine wk_enter (n := 1) (Nat.le_of_ble_eq_true rfl) (fun ls hl => ?_)
  have hl : lv_has ls 1 [(0, .ref (a 9))] := hl
  refine lv_aload_n hx hb dX6_isAnyoneWell_0 rfl (lv_at hl 0 rfl) ?_
  refine va_get (D := G.1) (v := .ref (a 6)) hx hb hts hin6 hown hK hP 9 rfl rfl 1 (by decide) hf15 (fun _ h => h) rfl dX6_isAnyoneWell_1 ?_
  refine va_get (D := G.1) (v := .int (mSi (cM c))) hx hb hts hin2 hown hK hP 6 rfl rfl 4 (by decide) hf44 (fun _ h => h) rfl dX6_isAnyoneWell_4 ?_
  refine wk_read (va_runS (As := [.int (mSi (cM c))]) (rest := []) ⟨hx, hb, hml, hown, hts⟩ (c_J6_bitCount_0f7a4 l (mSi (cM c))) (va_cwS 1 hts gX6_isAnyoneWell_J6_bitCount_0f7a4 rfl rfl rfl hdS_J6_bitCount_0f7a4 ⟨Nat.le_of_ble_eq_true rfl, Nat.le_of_ble_eq_true rfl⟩) preEq rfl rfl hl.1 rfl (lv_room (Nat.le_of_ble_eq_true rfl)) dX6_isAnyoneWell_7 ⟨hrc, hrs⟩) ?_
  refine lv_aload_n hx hb dX6_isAnyoneWell_10 rfl (lv_at hl 0 rfl) ?_
  refine va_get (D := G.1) (v := .ref (a 1)) hx hb hts hin6 hown hK hP 9 rfl rfl 0 (by decide) hf9 (fun _ h => h) rfl dX6_isAnyoneWell_11 ?_
  refine va_get (D := G.1) (v := .int (nI (kO (cK c)))) hx hb hts hin0 hown hK hP 1 rfl rfl 1 (by decide) hf83 (fun _ h => h) rfl dX6_isAnyoneWell_14 ?_
  refine lv_icmp_ge (tgt := 24) hx hb dX6_isAnyoneWell_17 (by decide) (fun c17 => ?_) (fun c17 => ?_)
  · refine lv_iconst (v := 0) hx hb dX6_isAnyoneWell_24 (by decide) ?_
    exact wk_zret hx hb hr hlocks dX6_isAnyoneWell_25 (by rfl) (by simp only [b2i, pWell]; simp [Int32.not_lt.mpr c17])
  · refine lv_iconst (v := 1) hx hb dX6_isAnyoneWell_20 (by decide) ?_
    refine lv_goto (tgt := 25) hx hb dX6_isAnyoneWell_21 (by decide) ?_
    exact wk_zret hx hb hr hlocks dX6_isAnyoneWell_25 (by rfl) (by simp only [b2i, pWell]; simp [Int32.not_le.mp c17])
theorem hdV_X6_fewestHanded : yX6_fewestHanded.cls = RX6 ∧ yX6_fewestHanded.cls ≠ "java/lang/invoke/MethodHandle" ∧ yX6_fewestHanded.cls ≠ "java/lang/invoke/VarHandle" ∧ (parseMethodDescriptor yX6_fewestHanded.desc).map (fun d => d.parameters.length) = some 1 := by decide +kernel
set_option maxHeartbeats 4000000 in
set_option maxRecDepth 100000 in
theorem c_X6_fewestHanded (l : Launch) (G : GG) (a : Nat → Nat) (c : CX) (hc : OkR c) (b : Int32) : Met l yX6_fewestHanded wsX6_fewestHanded ({ frames := 4, cells := 0, slots := 0, locals := 85 }) (va_Pc [.ref (a 9), .int b] (fun U => PreW G (WR G a c) U U.heap)) (QcRead (pHand (cK c) (cM c) b)) 0 0 (fun _ => False) := by
  refine Met.ofW (cc := cX6_fewestHanded) (maxL := 8) (ret := (some .int)) (by decide) rfl ?_
  intro p e s m args below meth cd s₁ BB hml hv
  obtain ⟨rfl, hR⟩ := hv
  have hx := BB.exec
  have hb := BB.bytes
  have hr := BB.returns
  have hts := atoms_spec (ws := wsX6_fewestHanded) BB.pre
  have hown : s.vm.findClass RX6 = some m.cls := findClass_of_methodNamed BB.named
  have hlocks := BB.notSynchronized
  have hrc : 0 + 0 ≤ (headSpec wsX6_fewestHanded ({ frames := 4, cells := 0, slots := 0, locals := 85 })).room.cells := Nat.le_refl _
  have hrs : 0 + 0 ≤ (headSpec wsX6_fewestHanded ({ frames := 4, cells := 0, slots := 0, locals := 85 })).room.slots := Nat.le_refl _
  have hP := hR.1
  have hK := hR.2.1
  have hN := hR.2.2
  obtain ⟨hk7, ho1, ho5, hi6, hl200, hnx, hkn⟩ := id hc
  have hin2 : ∀ w ∈ u_ws RX2 TX2 7, w ∈ wsX6_fewestHanded := by decide +kernel
  have hin6 : ∀ w ∈ u_ws RX6 TX6 2, w ∈ wsX6_fewestHanded := by decide +kernel
  have hf15 := hts (.fieldLink RX6 15 "RegaliaVotes$Vote" "moment" "LRegaliaVotes$Moment;") (by decide +kernel)
  have hf44 := hts (.fieldLink RX6 44 "RegaliaVotes$Moment" "sick" "I") (by decide +kernel)
  refine wk_enter (n := 8) (Nat.le_of_ble_eq_true rfl) (fun ls hl => ?_)
  have hl : lv_has ls 8 [(0, .ref (a 9)), (1, .int b)] := hl
  refine lv_aload_n hx hb dX6_fewestHanded_0 rfl (lv_at hl 0 rfl) ?_
  refine wk_read (va_runV (As := []) (rest := []) ⟨hx, hb, hml, hown, hts⟩ (c_X6_able l G a c hc) (cwV 0 hts gX6_fewestHanded_X6_able rfl rfl rfl hdV_X6_able ⟨Nat.le_of_ble_eq_true rfl, Nat.le_of_ble_eq_true rfl⟩) (hR.pre (ci := 6) (q0 := 9) rfl rfl) rfl rfl hl.1 rfl (lv_room (Nat.le_of_ble_eq_true rfl)) dX6_fewestHanded_1 ⟨hrc, hrs⟩) ?_
  refine lv_istore_n (lv' := [(2, .int (pAble (cK c) (cM c))), (0, .ref (a 9)), (1, .int b)]) hx hb dX6_fewestHanded_4 rfl hl (by decide) rfl (fun ls hl => ?_)
  refine lv_aload_n hx hb dX6_fewestHanded_5 rfl (lv_at hl 1 rfl) ?_
  refine wk_read (va_runV (As := []) (rest := []) ⟨hx, hb, hml, hown, hts⟩ (c_X6_voices l G a c hc) (cwV 0 hts gX6_fewestHanded_X6_voices rfl rfl rfl hdV_X6_voices ⟨Nat.le_of_ble_eq_true rfl, Nat.le_of_ble_eq_true rfl⟩) (hR.pre (ci := 6) (q0 := 9) rfl rfl) rfl rfl hl.1 rfl (lv_room (Nat.le_of_ble_eq_true rfl)) dX6_fewestHanded_6 ⟨hrc, hrs⟩) ?_
  refine lv_istore_n (lv' := [(3, .int (pVoices (cK c) (cM c))), (2, .int (pAble (cK c) (cM c))), (0, .ref (a 9)), (1, .int b)]) hx hb dX6_fewestHanded_9 rfl hl (by decide) rfl (fun ls hl => ?_)
  refine lv_aload_n hx hb dX6_fewestHanded_10 rfl (lv_at hl 2 rfl) ?_
  refine lv_iload_n hx hb dX6_fewestHanded_11 rfl (lv_at hl 3 rfl) ?_
  refine wk_read (va_runV (As := [.int b]) (rest := []) ⟨hx, hb, hml, hown, hts⟩ (c_X6_yesOf l G a c hc b) (cwV 1 hts gX6_fewestHanded_X6_yesOf rfl rfl rfl hdV_X6_yesOf ⟨Nat.le_of_ble_eq_true rfl, Nat.le_of_ble_eq_true rfl⟩) (hR.pre (ci := 6) (q0 := 9) rfl rfl) rfl rfl hl.1 rfl (lv_room (Nat.le_of_ble_eq_true rfl)) dX6_fewestHanded_12 ⟨hrc, hrs⟩) ?_
  refine lv_istore (lv' := [(4, .int (pYes (cK c) (cM c) b)), (3, .int (pVoices (cK c) (cM c))), (2, .int (pAble (cK c) (cM c))), (0, .ref (a 9)), (1, .int b)]) hx hb dX6_fewestHanded_15 hl (by decide) rfl (fun ls hl => ?_)
  refine wk_cut 39 [] (fun z => z = pMov (cK c) (cM c)) (fun x39 hx39 => ?_) (fun k39 => ?_)
  · subst hx39
    refine lv_istore (lv' := [(5, .int (pMov (cK c) (cM c))), (4, .int (pYes (cK c) (cM c) b)), (3, .int (pVoices (cK c) (cM c))), (2, .int (pAble (cK c) (cM c))), (0, .ref (a 9)), (1, .int b)]) hx hb dX6_fewestHanded_39 hl (by decide) rfl (fun ls hl => ?_)
    refine lv_bipush (v := -9) hx hb dX6_fewestHanded_41 (by decide) ?_
    refine lv_istore (lv' := [(6, .int (-9)), (5, .int (pMov (cK c) (cM c))), (4, .int (pYes (cK c) (cM c) b)), (3, .int (pVoices (cK c) (cM c))), (2, .int (pAble (cK c) (cM c))), (0, .ref (a 9)), (1, .int b)]) hx hb dX6_fewestHanded_43 hl (by decide) rfl (fun ls hl => ?_)
    refine lv_iconst (v := 0) hx hb dX6_fewestHanded_45 (by decide) ?_
    refine lv_istore (lv' := [(7, .int 0), (6, .int (-9)), (5, .int (pMov (cK c) (cM c))), (4, .int (pYes (cK c) (cM c) b)), (3, .int (pVoices (cK c) (cM c))), (2, .int (pAble (cK c) (cM c))), (0, .ref (a 9)), (1, .int b)]) hx hb dX6_fewestHanded_46 hl (by decide) rfl (fun ls hl => ?_)
    refine wk_loop (σ := Nat × Int32) (nL := 8) (fun xσ n => match xσ with | (i, z) => i + n = 128 ∧ z = pHandF (cK c) (cM c) b i) (fun xσ => match xσ with | (i, z) => [(7, .int (nI i)), (6, .int z), (5, .int (pMov (cK c) (cM c))), (4, .int (pYes (cK c) (cM c) b)), (3, .int (pVoices (cK c) (cM c))), (2, .int (pAble (cK c) (cM c))), (0, .ref (a 9)), (1, .int b)]) (0, -9) 128 (⟨by omega, rfl⟩) hl ?_
    rintro n48 ⟨i, z⟩ ls hI48 hl ih48
    have hl : lv_has ls 8 [(7, .int (nI i)), (6, .int z), (5, .int (pMov (cK c) (cM c))), (4, .int (pYes (cK c) (cM c) b)), (3, .int (pVoices (cK c) (cM c))), (2, .int (pAble (cK c) (cM c))), (0, .ref (a 9)), (1, .int b)] := hl
    obtain ⟨hi, hz⟩ := hI48
    refine lv_iload hx hb dX6_fewestHanded_48 (lv_at hl 0 rfl) ?_
    refine lv_sipush (v := 128) hx hb dX6_fewestHanded_50 (by decide) ?_
    refine wk_ge (x := i) (y := 128) (tgt := 101) hx hb (by omega) (by omega) dX6_fewestHanded_53 (by decide) (fun c53 => ?_) (fun c53 => ?_)
    · refine lv_iload hx hb dX6_fewestHanded_101 (lv_at hl 1 rfl) ?_
      exact wk_ret hx hb hr hlocks dX6_fewestHanded_103 (by rw [hz, show i = 128 by omega]; rfl)
    · refine lv_iload hx hb dX6_fewestHanded_56 (lv_at hl 0 rfl) ?_
      refine lv_iload hx hb dX6_fewestHanded_58 (lv_at hl 2 rfl) ?_
      refine wk_read (va_runSN (As := [.int (nI i), .int (pMov (cK c) (cM c))]) (rest := []) ⟨hx, hb, hml, hown, hts⟩ (c_X7_isWithin l (nI i) (pMov (cK c) (cM c))) ⟨va_cnB 2 hts gX6_fewestHanded_X7_isWithin_n86 rfl rfl rfl hN.2.1 (hts (.initialized RX7) (by decide +kernel)) hdS_X7_isWithin ⟨Nat.le_of_ble_eq_true rfl, Nat.le_of_ble_eq_true rfl⟩, hts (.static yX7_isWithin) (by decide +kernel), trivial⟩ preEq rfl rfl hl.1 rfl (lv_room (Nat.le_of_ble_eq_true rfl)) dX6_fewestHanded_60 ⟨hrc, hrs⟩) ?_
      refine lv_if_eq (tgt := 95) hx hb dX6_fewestHanded_63 (by decide) (fun c63 => ?_) (fun c63 => ?_)
      · have c63 := b2i_f c63
        refine lv_iinc (v := (nI (i + 1))) (lv' := [(7, .int (nI (i + 1))), (6, .int z), (5, .int (pMov (cK c) (cM c))), (4, .int (pYes (cK c) (cM c) b)), (3, .int (pVoices (cK c) (cM c))), (2, .int (pAble (cK c) (cM c))), (0, .ref (a 9)), (1, .int b)]) hx hb dX6_fewestHanded_95 hl (k := 0) rfl (wk_i1 i) (by decide) rfl (fun ls hl => ?_)
        refine lv_goto (tgt := 48) hx hb dX6_fewestHanded_98 (by decide) ?_
        exact ih48 (i + 1, z) (n48 - 1) ls (by omega) (⟨by omega, by rw [pHandF, fo_s, ← pHandF, ← hz]; simp [c53, c63]⟩) (lv_sub hl [0, 1, 2, 3, 4, 5, 6, 7] rfl)
      · have c63 := b2i_t c63
        refine lv_iload hx hb dX6_fewestHanded_66 (lv_at hl 0 rfl) ?_
        refine lv_iload hx hb dX6_fewestHanded_68 (lv_at hl 1 rfl) ?_
        refine wk_read (va_runS (As := [.int (nI i), .int z]) (rest := []) ⟨hx, hb, hml, hown, hts⟩ (c_X6_isFewer l (nI i) z) (va_cwS 2 hts gX6_fewestHanded_X6_isFewer rfl rfl rfl hdS_X6_isFewer ⟨Nat.le_of_ble_eq_true rfl, Nat.le_of_ble_eq_true rfl⟩) preEq rfl rfl hl.1 rfl (lv_room (Nat.le_of_ble_eq_true rfl)) dX6_fewestHanded_70 ⟨hrc, hrs⟩) ?_
        refine lv_if_eq (tgt := 95) hx hb dX6_fewestHanded_73 (by decide) (fun c73 => ?_) (fun c73 => ?_)
        · have c73 := b2i_f c73
          refine lv_iinc (v := (nI (i + 1))) (lv' := [(7, .int (nI (i + 1))), (6, .int z), (5, .int (pMov (cK c) (cM c))), (4, .int (pYes (cK c) (cM c) b)), (3, .int (pVoices (cK c) (cM c))), (2, .int (pAble (cK c) (cM c))), (0, .ref (a 9)), (1, .int b)]) hx hb dX6_fewestHanded_95 hl (k := 0) rfl (wk_i1 i) (by decide) rfl (fun ls hl => ?_)
          refine lv_goto (tgt := 48) hx hb dX6_fewestHanded_98 (by decide) ?_
          exact ih48 (i + 1, z) (n48 - 1) ls (by omega) (⟨by omega, by rw [pHandF, fo_s, ← pHandF, ← hz]; simp [c53, c63, c73]⟩) (lv_sub hl [0, 1, 2, 3, 4, 5, 6, 7] rfl)
        · have c73 := b2i_t c73
          refine lv_aload_n hx hb dX6_fewestHanded_76 rfl (lv_at hl 6 rfl) ?_
          refine lv_iload_n hx hb dX6_fewestHanded_77 rfl (lv_at hl 4 rfl) ?_
          refine lv_iload hx hb dX6_fewestHanded_78 (lv_at hl 0 rfl) ?_
          refine lv_iload_n hx hb dX6_fewestHanded_80 rfl (lv_at hl 5 rfl) ?_
          refine lv_iand hx hb dX6_fewestHanded_81 ?_
          refine lv_ior hx hb dX6_fewestHanded_82 ?_
          refine lv_iload hx hb dX6_fewestHanded_83 (lv_at hl 3 rfl) ?_
          refine wk_read (va_runV (As := [.int ((pVoices (cK c) (cM c)) ||| ((nI i) &&& (pAble (cK c) (cM c)))), .int (pYes (cK c) (cM c) b)]) (rest := []) ⟨hx, hb, hml, hown, hts⟩ (c_X6_passesBy l G a c hc ((pVoices (cK c) (cM c)) ||| ((nI i) &&& (pAble (cK c) (cM c)))) (pYes (cK c) (cM c) b)) (cwV 2 hts gX6_fewestHanded_X6_passesBy rfl rfl rfl hdV_X6_passesBy ⟨Nat.le_of_ble_eq_true rfl, Nat.le_of_ble_eq_true rfl⟩) (hR.pre (ci := 6) (q0 := 9) rfl rfl) rfl rfl hl.1 rfl (lv_room (Nat.le_of_ble_eq_true rfl)) dX6_fewestHanded_85 ⟨hrc, hrs⟩) ?_
          refine lv_if_eq (tgt := 95) hx hb dX6_fewestHanded_88 (by decide) (fun c88 => ?_) (fun c88 => ?_)
          · have c88 := b2i_f c88
            refine lv_iinc (v := (nI (i + 1))) (lv' := [(7, .int (nI (i + 1))), (6, .int z), (5, .int (pMov (cK c) (cM c))), (4, .int (pYes (cK c) (cM c) b)), (3, .int (pVoices (cK c) (cM c))), (2, .int (pAble (cK c) (cM c))), (0, .ref (a 9)), (1, .int b)]) hx hb dX6_fewestHanded_95 hl (k := 0) rfl (wk_i1 i) (by decide) rfl (fun ls hl => ?_)
            refine lv_goto (tgt := 48) hx hb dX6_fewestHanded_98 (by decide) ?_
            exact ih48 (i + 1, z) (n48 - 1) ls (by omega) (⟨by omega, by rw [pHandF, fo_s, ← pHandF, ← hz]; simp [c53, c63, c73, c88]⟩) (lv_sub hl [0, 1, 2, 3, 4, 5, 6, 7] rfl)
          · have c88 := b2i_t c88
            refine lv_iload hx hb dX6_fewestHanded_91 (lv_at hl 0 rfl) ?_
            refine lv_istore (lv' := [(6, .int (nI i)), (7, .int (nI i)), (5, .int (pMov (cK c) (cM c))), (4, .int (pYes (cK c) (cM c) b)), (3, .int (pVoices (cK c) (cM c))), (2, .int (pAble (cK c) (cM c))), (0, .ref (a 9)), (1, .int b)]) hx hb dX6_fewestHanded_93 hl (by decide) rfl (fun ls hl => ?_)
            refine lv_iinc (v := (nI (i + 1))) (lv' := [(7, .int (nI (i + 1))), (6, .int (nI i)), (5, .int (pMov (cK c) (cM c))), (4, .int (pYes (cK c) (cM c) b)), (3, .int (pVoices (cK c) (cM c))), (2, .int (pAble (cK c) (cM c))), (0, .ref (a 9)), (1, .int b)]) hx hb dX6_fewestHanded_95 hl (k := 1) rfl (wk_i1 i) (by decide) rfl (fun ls hl => ?_)
            refine lv_goto (tgt := 48) hx hb dX6_fewestHanded_98 (by decide) ?_
            exact ih48 (i + 1, (nI i)) (n48 - 1) ls (by omega) (⟨by omega, by rw [pHandF, fo_s, ← pHandF, ← hz]; simp [c53, c63, c73, c88]⟩) (lv_sub hl [0, 1, 2, 3, 4, 5, 6, 7] rfl)
  · refine lv_aload_n hx hb dX6_fewestHanded_17 rfl (lv_at hl 3 rfl) ?_
    refine wk_read (va_runV (As := []) (rest := []) ⟨hx, hb, hml, hown, hts⟩ (c_X6_isAnyoneWell l G a c hc) (cwV 0 hts gX6_fewestHanded_X6_isAnyoneWell rfl rfl rfl hdV_X6_isAnyoneWell ⟨Nat.le_of_ble_eq_true rfl, Nat.le_of_ble_eq_true rfl⟩) (hR.pre (ci := 6) (q0 := 9) rfl rfl) rfl rfl hl.1 rfl (lv_room (Nat.le_of_ble_eq_true rfl)) dX6_fewestHanded_18 ⟨hrc, hrs⟩) ?_
    refine lv_if_eq (tgt := 38) hx hb dX6_fewestHanded_21 (by decide) (fun c21 => ?_) (fun c21 => ?_)
    · have c21 := b2i_f c21
      refine lv_iconst (v := 0) hx hb dX6_fewestHanded_38 (by decide) ?_
      exact k39 0 (by simp [pMov, c21])
    · have c21 := b2i_t c21
      refine lv_aload_n hx hb dX6_fewestHanded_24 rfl (lv_at hl 3 rfl) ?_
      refine lv_aload_n hx hb dX6_fewestHanded_25 rfl (lv_at hl 3 rfl) ?_
      refine va_get (D := G.1) (v := .ref (a 6)) hx hb hts hin6 hown hK hP 9 rfl rfl 1 (by decide) hf15 (fun _ h => h) rfl dX6_fewestHanded_26 ?_
      refine va_get (D := G.1) (v := .int (mSi (cM c))) hx hb hts hin2 hown hK hP 6 rfl rfl 4 (by decide) hf44 (fun _ h => h) rfl dX6_fewestHanded_29 ?_
      refine wk_read (va_runV (As := [.int (mSi (cM c))]) (rest := []) ⟨hx, hb, hml, hown, hts⟩ (c_X6_heldBy l G a c hc (mSi (cM c))) (cwV 1 hts gX6_fewestHanded_X6_heldBy rfl rfl rfl hdV_X6_heldBy ⟨Nat.le_of_ble_eq_true rfl, Nat.le_of_ble_eq_true rfl⟩) (hR.pre (ci := 6) (q0 := 9) rfl rfl) rfl rfl hl.1 rfl (lv_room (Nat.le_of_ble_eq_true rfl)) dX6_fewestHanded_32 ⟨hrc, hrs⟩) ?_
      refine lv_goto (tgt := 39) hx hb dX6_fewestHanded_35 (by decide) ?_
      exact k39 (pHeld (cK c) (cM c) (mSi (cM c))) (by simp [pMov, c21])
theorem hdS_X6_exchanged : yX6_exchanged.cls ≠ "java/lang/invoke/MethodHandle" ∧ yX6_exchanged.cls ≠ "java/lang/invoke/VarHandle" ∧ (parseMethodDescriptor yX6_exchanged.desc).map (fun d => d.parameters.length) = some 3 := by decide +kernel
set_option maxHeartbeats 4000000 in
set_option maxRecDepth 100000 in
theorem c_X6_exchanged (l : Launch) (G : GG) (a : Nat → Nat) (c : CX) (hc : OkR c) (x : Int32) (t : Int32) (u : Int32) : Met l yX6_exchanged wsX6_exchanged ({ frames := 1, cells := 0, slots := 0, locals := 21 }) (va_Pc [.int x, .int t, .int u] (fun U => PreW G (WR G a c) U U.heap)) (QcRead (pExch x t u)) 0 0 (fun _ => False) := by
  refine Met.ofW (cc := cX6_exchanged) (maxL := 4) (ret := (some .int)) (by decide) rfl ?_
  intro p e s m args below meth cd s₁ BB hml hv
  obtain ⟨rfl, hR⟩ := hv
  have hx := BB.exec
  have hb := BB.bytes
  have hr := BB.returns
  have hts := atoms_spec (ws := wsX6_exchanged) BB.pre
  have hown : s.vm.findClass RX6 = some m.cls := findClass_of_methodNamed BB.named
  have hlocks := BB.notSynchronized
  have hrc : 0 + 0 ≤ (headSpec wsX6_exchanged ({ frames := 1, cells := 0, slots := 0, locals := 21 })).room.cells := Nat.le_refl _
  have hrs : 0 + 0 ≤ (headSpec wsX6_exchanged ({ frames := 1, cells := 0, slots := 0, locals := 21 })).room.slots := Nat.le_refl _
  have hP := hR.1
  have hK := hR.2.1
  have hN := hR.2.2
  obtain ⟨hk7, ho1, ho5, hi6, hl200, hnx, hkn⟩ := id hc
  refine wk_enter (n := 4) (Nat.le_of_ble_eq_true rfl) (fun ls hl => ?_)
  have hl : lv_has ls 4 [(0, .int x), (1, .int t), (2, .int u)] := hl
  refine lv_iload_n hx hb dX6_exchanged_0 rfl (lv_at hl 0 rfl) ?_
  refine lv_iload_n hx hb dX6_exchanged_1 rfl (lv_at hl 1 rfl) ?_
  refine wk_read (va_runSN (As := [.int x, .int t]) (rest := []) ⟨hx, hb, hml, hown, hts⟩ (c_X7_bit l x t) ⟨va_cnB 2 hts gX6_exchanged_X7_bit_n40 rfl rfl rfl hN.1 (hts (.initialized RX7) (by decide +kernel)) hdS_X7_bit ⟨Nat.le_of_ble_eq_true rfl, Nat.le_of_ble_eq_true rfl⟩, hts (.static yX7_bit) (by decide +kernel), trivial⟩ preEq rfl rfl hl.1 rfl (lv_room (Nat.le_of_ble_eq_true rfl)) dX6_exchanged_2 ⟨hrc, hrs⟩) ?_
  refine lv_iload_n hx hb dX6_exchanged_5 rfl (lv_at hl 0 rfl) ?_
  refine lv_iload_n hx hb dX6_exchanged_6 rfl (lv_at hl 2 rfl) ?_
  refine wk_read (va_runSN (As := [.int x, .int u]) (rest := [.int (bitI x t)]) ⟨hx, hb, hml, hown, hts⟩ (c_X7_bit l x u) ⟨va_cnB 2 hts gX6_exchanged_X7_bit_n40 rfl rfl rfl hN.1 (hts (.initialized RX7) (by decide +kernel)) hdS_X7_bit ⟨Nat.le_of_ble_eq_true rfl, Nat.le_of_ble_eq_true rfl⟩, hts (.static yX7_bit) (by decide +kernel), trivial⟩ preEq rfl rfl hl.1 rfl (lv_room (Nat.le_of_ble_eq_true rfl)) dX6_exchanged_7 ⟨hrc, hrs⟩) ?_
  refine lv_ixor hx hb dX6_exchanged_10 ?_
  refine lv_istore_n (lv' := [(3, .int ((bitI x t) ^^^ (bitI x u))), (0, .int x), (1, .int t), (2, .int u)]) hx hb dX6_exchanged_11 rfl hl (by decide) rfl (fun ls hl => ?_)
  refine lv_iload_n hx hb dX6_exchanged_12 rfl (lv_at hl 1 rfl) ?_
  refine lv_iload_n hx hb dX6_exchanged_13 rfl (lv_at hl 0 rfl) ?_
  refine lv_iload_n hx hb dX6_exchanged_14 rfl (lv_at hl 2 rfl) ?_
  refine lv_ishl hx hb dX6_exchanged_15 ?_
  refine lv_ixor hx hb dX6_exchanged_16 ?_
  refine lv_iload_n hx hb dX6_exchanged_17 rfl (lv_at hl 0 rfl) ?_
  refine lv_iload_n hx hb dX6_exchanged_18 rfl (lv_at hl 3 rfl) ?_
  refine lv_ishl hx hb dX6_exchanged_19 ?_
  refine lv_ixor hx hb dX6_exchanged_20 ?_
  exact wk_ret hx hb hr hlocks dX6_exchanged_21 (rfl)
theorem hdV_X6_changingSwaps : yX6_changingSwaps.cls = RX6 ∧ yX6_changingSwaps.cls ≠ "java/lang/invoke/MethodHandle" ∧ yX6_changingSwaps.cls ≠ "java/lang/invoke/VarHandle" ∧ (parseMethodDescriptor yX6_changingSwaps.desc).map (fun d => d.parameters.length) = some 1 := by decide +kernel
set_option maxHeartbeats 4000000 in
set_option maxRecDepth 100000 in
theorem c_X6_changingSwaps (l : Launch) (G : GG) (a : Nat → Nat) (c : CX) (hc : OkR c) (b : Int32) : Met l yX6_changingSwaps wsX6_changingSwaps ({ frames := 3, cells := 0, slots := 0, locals := 66 }) (va_Pc [.ref (a 9), .int b] (fun U => PreW G (WR G a c) U U.heap)) (QcRead (pSwap (cK c) (cM c) b)) 0 0 (fun _ => False) := by
  refine Met.ofW (cc := cX6_changingSwaps) (maxL := 10) (ret := (some .int)) (by decide) rfl ?_
  intro p e s m args below meth cd s₁ BB hml hv
  obtain ⟨rfl, hR⟩ := hv
  have hx := BB.exec
  have hb := BB.bytes
  have hr := BB.returns
  have hts := atoms_spec (ws := wsX6_changingSwaps) BB.pre
  have hown : s.vm.findClass RX6 = some m.cls := findClass_of_methodNamed BB.named
  have hlocks := BB.notSynchronized
  have hrc : 0 + 0 ≤ (headSpec wsX6_changingSwaps ({ frames := 3, cells := 0, slots := 0, locals := 66 })).room.cells := Nat.le_refl _
  have hrs : 0 + 0 ≤ (headSpec wsX6_changingSwaps ({ frames := 3, cells := 0, slots := 0, locals := 66 })).room.slots := Nat.le_refl _
  have hP := hR.1
  have hK := hR.2.1
  have hN := hR.2.2
  obtain ⟨hk7, ho1, ho5, hi6, hl200, hnx, hkn⟩ := id hc
  have hin0 : ∀ w ∈ u_ws RX0 TX0 7, w ∈ wsX6_changingSwaps := by decide +kernel
  have hin2 : ∀ w ∈ u_ws RX2 TX2 7, w ∈ wsX6_changingSwaps := by decide +kernel
  have hin6 : ∀ w ∈ u_ws RX6 TX6 2, w ∈ wsX6_changingSwaps := by decide +kernel
  have hf9 := hts (.fieldLink RX6 9 "RegaliaVotes$Vote" "told" "LRegaliaVotes$Council;") (by decide +kernel)
  have hf15 := hts (.fieldLink RX6 15 "RegaliaVotes$Vote" "moment" "LRegaliaVotes$Moment;") (by decide +kernel)
  have hf19 := hts (.fieldLink RX6 19 "RegaliaVotes$Council" "things" "I") (by decide +kernel)
  have hf37 := hts (.fieldLink RX6 37 "RegaliaVotes$Moment" "holder" "[I") (by decide +kernel)
  have hf44 := hts (.fieldLink RX6 44 "RegaliaVotes$Moment" "sick" "I") (by decide +kernel)
  refine wk_enter (n := 10) (Nat.le_of_ble_eq_true rfl) (fun ls hl => ?_)
  have hl : lv_has ls 10 [(0, .ref (a 9)), (1, .int b)] := hl
  refine lv_aload_n hx hb dX6_changingSwaps_0 rfl (lv_at hl 0 rfl) ?_
  refine wk_read (va_runV (As := []) (rest := []) ⟨hx, hb, hml, hown, hts⟩ (c_X6_able l G a c hc) (cwV 0 hts gX6_changingSwaps_X6_able rfl rfl rfl hdV_X6_able ⟨Nat.le_of_ble_eq_true rfl, Nat.le_of_ble_eq_true rfl⟩) (hR.pre (ci := 6) (q0 := 9) rfl rfl) rfl rfl hl.1 rfl (lv_room (Nat.le_of_ble_eq_true rfl)) dX6_changingSwaps_1 ⟨hrc, hrs⟩) ?_
  refine lv_istore_n (lv' := [(2, .int (pAble (cK c) (cM c))), (0, .ref (a 9)), (1, .int b)]) hx hb dX6_changingSwaps_4 rfl hl (by decide) rfl (fun ls hl => ?_)
  refine lv_aload_n hx hb dX6_changingSwaps_5 rfl (lv_at hl 1 rfl) ?_
  refine lv_aload_n hx hb dX6_changingSwaps_6 rfl (lv_at hl 1 rfl) ?_
  refine va_get (D := G.1) (v := .ref (a 6)) hx hb hts hin6 hown hK hP 9 rfl rfl 1 (by decide) hf15 (fun _ h => h) rfl dX6_changingSwaps_7 ?_
  refine va_get (D := G.1) (v := .int (mSi (cM c))) hx hb hts hin2 hown hK hP 6 rfl rfl 4 (by decide) hf44 (fun _ h => h) rfl dX6_changingSwaps_10 ?_
  refine wk_read (va_runV (As := [.int (mSi (cM c))]) (rest := []) ⟨hx, hb, hml, hown, hts⟩ (c_X6_heldBy l G a c hc (mSi (cM c))) (cwV 1 hts gX6_changingSwaps_X6_heldBy rfl rfl rfl hdV_X6_heldBy ⟨Nat.le_of_ble_eq_true rfl, Nat.le_of_ble_eq_true rfl⟩) (hR.pre (ci := 6) (q0 := 9) rfl rfl) rfl rfl hl.1 rfl (lv_room (Nat.le_of_ble_eq_true rfl)) dX6_changingSwaps_13 ⟨hrc, hrs⟩) ?_
  refine lv_iconst (v := -1) hx hb dX6_changingSwaps_16 (by decide) ?_
  refine lv_ixor hx hb dX6_changingSwaps_17 ?_
  show W _ _ _ _ _ _ _ _ _ _ _ _ _ _ _ (F0 _ _ _ (.int (iv (pHeld (cK c) (cM c) (mSi (cM c)))) :: _))
  refine lv_istore_n (lv' := [(3, .int (iv (pHeld (cK c) (cM c) (mSi (cM c))))), (2, .int (pAble (cK c) (cM c))), (0, .ref (a 9)), (1, .int b)]) hx hb dX6_changingSwaps_18 rfl hl (by decide) rfl (fun ls hl => ?_)
  refine lv_aload_n hx hb dX6_changingSwaps_19 rfl (lv_at hl 2 rfl) ?_
  refine lv_iload_n hx hb dX6_changingSwaps_20 rfl (lv_at hl 3 rfl) ?_
  refine wk_read (va_runV (As := [.int b]) (rest := []) ⟨hx, hb, hml, hown, hts⟩ (c_X6_yesOf l G a c hc b) (cwV 1 hts gX6_changingSwaps_X6_yesOf rfl rfl rfl hdV_X6_yesOf ⟨Nat.le_of_ble_eq_true rfl, Nat.le_of_ble_eq_true rfl⟩) (hR.pre (ci := 6) (q0 := 9) rfl rfl) rfl rfl hl.1 rfl (lv_room (Nat.le_of_ble_eq_true rfl)) dX6_changingSwaps_21 ⟨hrc, hrs⟩) ?_
  refine lv_istore (lv' := [(4, .int (pYes (cK c) (cM c) b)), (3, .int (iv (pHeld (cK c) (cM c) (mSi (cM c))))), (2, .int (pAble (cK c) (cM c))), (0, .ref (a 9)), (1, .int b)]) hx hb dX6_changingSwaps_24 hl (by decide) rfl (fun ls hl => ?_)
  refine lv_aload_n hx hb dX6_changingSwaps_26 rfl (lv_at hl 3 rfl) ?_
  refine lv_iload_n hx hb dX6_changingSwaps_27 rfl (lv_at hl 2 rfl) ?_
  refine lv_iload_n hx hb dX6_changingSwaps_28 rfl (lv_at hl 1 rfl) ?_
  refine lv_iand hx hb dX6_changingSwaps_29 ?_
  refine lv_iload hx hb dX6_changingSwaps_30 (lv_at hl 0 rfl) ?_
  refine wk_read (va_runV (As := [.int ((pAble (cK c) (cM c)) &&& (iv (pHeld (cK c) (cM c) (mSi (cM c))))), .int (pYes (cK c) (cM c) b)]) (rest := []) ⟨hx, hb, hml, hown, hts⟩ (c_X6_passesBy l G a c hc ((pAble (cK c) (cM c)) &&& (iv (pHeld (cK c) (cM c) (mSi (cM c))))) (pYes (cK c) (cM c) b)) (cwV 2 hts gX6_changingSwaps_X6_passesBy rfl rfl rfl hdV_X6_passesBy ⟨Nat.le_of_ble_eq_true rfl, Nat.le_of_ble_eq_true rfl⟩) (hR.pre (ci := 6) (q0 := 9) rfl rfl) rfl rfl hl.1 rfl (lv_room (Nat.le_of_ble_eq_true rfl)) dX6_changingSwaps_32 ⟨hrc, hrs⟩) ?_
  refine lv_istore (lv' := [(5, .int (b2i (pPassBy (cK c) ((pAble (cK c) (cM c)) &&& (iv (pHeld (cK c) (cM c) (mSi (cM c))))) (pYes (cK c) (cM c) b)))), (4, .int (pYes (cK c) (cM c) b)), (3, .int (iv (pHeld (cK c) (cM c) (mSi (cM c))))), (2, .int (pAble (cK c) (cM c))), (0, .ref (a 9)), (1, .int b)]) hx hb dX6_changingSwaps_35 hl (by decide) rfl (fun ls hl => ?_)
  refine lv_iconst (v := 0) hx hb dX6_changingSwaps_37 (by decide) ?_
  refine lv_istore (lv' := [(6, .int 0), (5, .int (b2i (pPassBy (cK c) ((pAble (cK c) (cM c)) &&& (iv (pHeld (cK c) (cM c) (mSi (cM c))))) (pYes (cK c) (cM c) b)))), (4, .int (pYes (cK c) (cM c) b)), (3, .int (iv (pHeld (cK c) (cM c) (mSi (cM c))))), (2, .int (pAble (cK c) (cM c))), (0, .ref (a 9)), (1, .int b)]) hx hb dX6_changingSwaps_38 hl (by decide) rfl (fun ls hl => ?_)
  refine lv_iconst (v := 0) hx hb dX6_changingSwaps_40 (by decide) ?_
  refine lv_istore (lv' := [(7, .int 0), (6, .int 0), (5, .int (b2i (pPassBy (cK c) ((pAble (cK c) (cM c)) &&& (iv (pHeld (cK c) (cM c) (mSi (cM c))))) (pYes (cK c) (cM c) b)))), (4, .int (pYes (cK c) (cM c) b)), (3, .int (iv (pHeld (cK c) (cM c) (mSi (cM c))))), (2, .int (pAble (cK c) (cM c))), (0, .ref (a 9)), (1, .int b)]) hx hb dX6_changingSwaps_41 hl (by decide) rfl (fun ls hl => ?_)
  refine wk_loop (σ := Nat × Int32) (nL := 10) (fun xσ n => match xσ with | (t, z) => t + n = kT (cK c) ∧ z = pSwapF (cK c) (cM c) b t) (fun xσ => match xσ with | (t, z) => [(7, .int (nI t)), (6, .int z), (5, .int (b2i (pPassBy (cK c) ((pAble (cK c) (cM c)) &&& (iv (pHeld (cK c) (cM c) (mSi (cM c))))) (pYes (cK c) (cM c) b)))), (4, .int (pYes (cK c) (cM c) b)), (3, .int (iv (pHeld (cK c) (cM c) (mSi (cM c))))), (2, .int (pAble (cK c) (cM c))), (0, .ref (a 9)), (1, .int b)]) (0, 0) (kT (cK c)) (⟨by omega, rfl⟩) hl ?_
  rintro n43 ⟨t, z⟩ ls hI43 hl ih43
  have hl : lv_has ls 10 [(7, .int (nI t)), (6, .int z), (5, .int (b2i (pPassBy (cK c) ((pAble (cK c) (cM c)) &&& (iv (pHeld (cK c) (cM c) (mSi (cM c))))) (pYes (cK c) (cM c) b)))), (4, .int (pYes (cK c) (cM c) b)), (3, .int (iv (pHeld (cK c) (cM c) (mSi (cM c))))), (2, .int (pAble (cK c) (cM c))), (0, .ref (a 9)), (1, .int b)] := hl
  obtain ⟨ht, hz⟩ := hI43
  refine lv_iload hx hb dX6_changingSwaps_43 (lv_at hl 0 rfl) ?_
  refine lv_aload_n hx hb dX6_changingSwaps_45 rfl (lv_at hl 6 rfl) ?_
  refine va_get (D := G.1) (v := .ref (a 1)) hx hb hts hin6 hown hK hP 9 rfl rfl 0 (by decide) hf9 (fun _ h => h) rfl dX6_changingSwaps_46 ?_
  refine va_get (D := G.1) (v := .int (nI (kT (cK c)))) hx hb hts hin0 hown hK hP 1 rfl rfl 0 (by decide) hf19 (fun _ h => h) rfl dX6_changingSwaps_49 ?_
  refine wk_ge (x := t) (y := (kT (cK c))) (tgt := 136) hx hb (by omega) (by omega) dX6_changingSwaps_52 (by decide) (fun c52 => ?_) (fun c52 => ?_)
  · refine lv_iload hx hb dX6_changingSwaps_136 (lv_at hl 1 rfl) ?_
    exact wk_ret hx hb hr hlocks dX6_changingSwaps_138 (by rw [hz, show t = kT (cK c) by omega]; rfl)
  · refine lv_iload hx hb dX6_changingSwaps_55 (lv_at hl 0 rfl) ?_
    refine lv_iconst (v := 1) hx hb dX6_changingSwaps_57 (by decide) ?_
    refine wk_iadd (x := t) (y := 1) hx hb dX6_changingSwaps_58 ?_
    refine lv_istore (lv' := [(8, .int (nI (t + 1))), (7, .int (nI t)), (6, .int z), (5, .int (b2i (pPassBy (cK c) ((pAble (cK c) (cM c)) &&& (iv (pHeld (cK c) (cM c) (mSi (cM c))))) (pYes (cK c) (cM c) b)))), (4, .int (pYes (cK c) (cM c) b)), (3, .int (iv (pHeld (cK c) (cM c) (mSi (cM c))))), (2, .int (pAble (cK c) (cM c))), (0, .ref (a 9)), (1, .int b)]) hx hb dX6_changingSwaps_59 hl (by decide) rfl (fun ls hl => ?_)
    refine wk_loop (σ := Nat × Int32) (nL := 10) (fun xσ n => match xσ with | (j, y) => t + 1 + j + n = kT (cK c) ∧ y = pSwapG (cK c) (cM c) b t z j) (fun xσ => match xσ with | (j, y) => [(8, .int (nI (t + 1 + j))), (7, .int (nI t)), (6, .int y), (5, .int (b2i (pPassBy (cK c) ((pAble (cK c) (cM c)) &&& (iv (pHeld (cK c) (cM c) (mSi (cM c))))) (pYes (cK c) (cM c) b)))), (4, .int (pYes (cK c) (cM c) b)), (3, .int (iv (pHeld (cK c) (cM c) (mSi (cM c))))), (2, .int (pAble (cK c) (cM c))), (0, .ref (a 9)), (1, .int b)]) (0, z) (kT (cK c) - (t + 1)) (⟨by omega, rfl⟩) hl ?_
    rintro n61 ⟨j, y⟩ ls hI61 hl ih61
    have hl : lv_has ls 10 [(8, .int (nI (t + 1 + j))), (7, .int (nI t)), (6, .int y), (5, .int (b2i (pPassBy (cK c) ((pAble (cK c) (cM c)) &&& (iv (pHeld (cK c) (cM c) (mSi (cM c))))) (pYes (cK c) (cM c) b)))), (4, .int (pYes (cK c) (cM c) b)), (3, .int (iv (pHeld (cK c) (cM c) (mSi (cM c))))), (2, .int (pAble (cK c) (cM c))), (0, .ref (a 9)), (1, .int b)] := hl
    obtain ⟨hj, hy⟩ := hI61
    refine lv_iload hx hb dX6_changingSwaps_61 (lv_at hl 0 rfl) ?_
    refine lv_aload_n hx hb dX6_changingSwaps_63 rfl (lv_at hl 7 rfl) ?_
    refine va_get (D := G.1) (v := .ref (a 1)) hx hb hts hin6 hown hK hP 9 rfl rfl 0 (by decide) hf9 (fun _ h => h) rfl dX6_changingSwaps_64 ?_
    refine va_get (D := G.1) (v := .int (nI (kT (cK c)))) hx hb hts hin0 hown hK hP 1 rfl rfl 0 (by decide) hf19 (fun _ h => h) rfl dX6_changingSwaps_67 ?_
    refine wk_ge (x := (t + 1 + j)) (y := (kT (cK c))) (tgt := 130) hx hb (by omega) (by omega) dX6_changingSwaps_70 (by decide) (fun c70 => ?_) (fun c70 => ?_)
    · refine lv_iinc (v := (nI (t + 1))) (lv' := [(7, .int (nI (t + 1))), (8, .int (nI (t + 1 + j))), (6, .int y), (5, .int (b2i (pPassBy (cK c) ((pAble (cK c) (cM c)) &&& (iv (pHeld (cK c) (cM c) (mSi (cM c))))) (pYes (cK c) (cM c) b)))), (4, .int (pYes (cK c) (cM c) b)), (3, .int (iv (pHeld (cK c) (cM c) (mSi (cM c))))), (2, .int (pAble (cK c) (cM c))), (0, .ref (a 9)), (1, .int b)]) hx hb dX6_changingSwaps_130 hl (k := 1) rfl (wk_i1 t) (by decide) rfl (fun ls hl => ?_)
      refine lv_goto (tgt := 43) hx hb dX6_changingSwaps_133 (by decide) ?_
      exact ih43 (t + 1, y) (n43 - 1) ls (by omega) (⟨by omega, by rw [hy, hz, show j = kT (cK c) - (t + 1) by omega]; rfl⟩) (lv_sub hl [0, 2, 3, 4, 5, 6, 7, 8] rfl)
    · refine lv_iload_n hx hb dX6_changingSwaps_73 rfl (lv_at hl 5 rfl) ?_
      refine lv_iload hx hb dX6_changingSwaps_74 (lv_at hl 1 rfl) ?_
      refine lv_iload hx hb dX6_changingSwaps_76 (lv_at hl 0 rfl) ?_
      refine wk_read (va_runS (As := [.int (iv (pHeld (cK c) (cM c) (mSi (cM c)))), .int (nI t), .int (nI (t + 1 + j))]) (rest := []) ⟨hx, hb, hml, hown, hts⟩ (c_X6_exchanged l G a c hc (iv (pHeld (cK c) (cM c) (mSi (cM c)))) (nI t) (nI (t + 1 + j))) (va_cwS 3 hts gX6_changingSwaps_X6_exchanged rfl rfl rfl hdS_X6_exchanged ⟨Nat.le_of_ble_eq_true rfl, Nat.le_of_ble_eq_true rfl⟩) hR.preS rfl rfl hl.1 rfl (lv_room (Nat.le_of_ble_eq_true rfl)) dX6_changingSwaps_78 ⟨hrc, hrs⟩) ?_
      refine lv_istore (lv' := [(9, .int (pExch (iv (pHeld (cK c) (cM c) (mSi (cM c)))) (nI t) (nI (t + 1 + j)))), (8, .int (nI (t + 1 + j))), (7, .int (nI t)), (6, .int y), (5, .int (b2i (pPassBy (cK c) ((pAble (cK c) (cM c)) &&& (iv (pHeld (cK c) (cM c) (mSi (cM c))))) (pYes (cK c) (cM c) b)))), (4, .int (pYes (cK c) (cM c) b)), (3, .int (iv (pHeld (cK c) (cM c) (mSi (cM c))))), (2, .int (pAble (cK c) (cM c))), (0, .ref (a 9)), (1, .int b)]) hx hb dX6_changingSwaps_81 hl (by decide) rfl (fun ls hl => ?_)
      refine lv_aload_n hx hb dX6_changingSwaps_83 rfl (lv_at hl 8 rfl) ?_
      refine va_get (D := G.1) (v := .ref (a 6)) hx hb hts hin6 hown hK hP 9 rfl rfl 1 (by decide) hf15 (fun _ h => h) rfl dX6_changingSwaps_84 ?_
      refine va_get (D := G.1) (v := .ref (a 7)) hx hb hts hin2 hown hK hP 6 rfl rfl 0 (by decide) hf37 (fun _ h => h) rfl dX6_changingSwaps_87 ?_
      refine lv_iload hx hb dX6_changingSwaps_90 (lv_at hl 2 rfl) ?_
      refine wk_iald (i := t) hx hb hK hP 7 1 rfl rfl (by omega) (Nat.le_of_ble_eq_true rfl) dX6_changingSwaps_92 ?_
      refine lv_aload_n hx hb dX6_changingSwaps_93 rfl (lv_at hl 8 rfl) ?_
      refine va_get (D := G.1) (v := .ref (a 6)) hx hb hts hin6 hown hK hP 9 rfl rfl 1 (by decide) hf15 (fun _ h => h) rfl dX6_changingSwaps_94 ?_
      refine va_get (D := G.1) (v := .ref (a 7)) hx hb hts hin2 hown hK hP 6 rfl rfl 0 (by decide) hf37 (fun _ h => h) rfl dX6_changingSwaps_97 ?_
      refine lv_iload hx hb dX6_changingSwaps_100 (lv_at hl 1 rfl) ?_
      refine wk_iald (i := (t + 1 + j)) hx hb hK hP 7 1 rfl rfl (by omega) (Nat.le_of_ble_eq_true rfl) dX6_changingSwaps_102 ?_
      refine lv_icmp_eq (tgt := 124) hx hb dX6_changingSwaps_103 (by decide) (fun c103 => ?_) (fun c103 => ?_)
      · refine lv_iinc (v := (nI ((t + 1 + j) + 1))) (lv' := [(8, .int (nI ((t + 1 + j) + 1))), (9, .int (pExch (iv (pHeld (cK c) (cM c) (mSi (cM c)))) (nI t) (nI (t + 1 + j)))), (7, .int (nI t)), (6, .int y), (5, .int (b2i (pPassBy (cK c) ((pAble (cK c) (cM c)) &&& (iv (pHeld (cK c) (cM c) (mSi (cM c))))) (pYes (cK c) (cM c) b)))), (4, .int (pYes (cK c) (cM c) b)), (3, .int (iv (pHeld (cK c) (cM c) (mSi (cM c))))), (2, .int (pAble (cK c) (cM c))), (0, .ref (a 9)), (1, .int b)]) hx hb dX6_changingSwaps_124 hl (k := 1) rfl (wk_i1 (t + 1 + j)) (by decide) rfl (fun ls hl => ?_)
        refine lv_goto (tgt := 61) hx hb dX6_changingSwaps_127 (by decide) ?_
        exact ih61 (j + 1, y) (n61 - 1) ls (by omega) (⟨by omega, by rw [hy]; simp [pSwapG, fo_s, pSwapP, c103]⟩) (lv_sub hl [0, 2, 3, 4, 5, 6, 7, 8, 9] rfl)
      · refine lv_aload_n hx hb dX6_changingSwaps_106 rfl (lv_at hl 8 rfl) ?_
        refine lv_iload_n hx hb dX6_changingSwaps_107 rfl (lv_at hl 7 rfl) ?_
        refine lv_iload hx hb dX6_changingSwaps_108 (lv_at hl 0 rfl) ?_
        refine lv_iand hx hb dX6_changingSwaps_110 ?_
        refine lv_iload hx hb dX6_changingSwaps_111 (lv_at hl 5 rfl) ?_
        refine wk_read (va_runV (As := [.int ((pAble (cK c) (cM c)) &&& (pExch (iv (pHeld (cK c) (cM c) (mSi (cM c)))) (nI t) (nI (t + 1 + j)))), .int (pYes (cK c) (cM c) b)]) (rest := []) ⟨hx, hb, hml, hown, hts⟩ (c_X6_passesBy l G a c hc ((pAble (cK c) (cM c)) &&& (pExch (iv (pHeld (cK c) (cM c) (mSi (cM c)))) (nI t) (nI (t + 1 + j)))) (pYes (cK c) (cM c) b)) (cwV 2 hts gX6_changingSwaps_X6_passesBy rfl rfl rfl hdV_X6_passesBy ⟨Nat.le_of_ble_eq_true rfl, Nat.le_of_ble_eq_true rfl⟩) (hR.pre (ci := 6) (q0 := 9) rfl rfl) rfl rfl hl.1 rfl (lv_room (Nat.le_of_ble_eq_true rfl)) dX6_changingSwaps_113 ⟨hrc, hrs⟩) ?_
        refine lv_iload hx hb dX6_changingSwaps_116 (lv_at hl 4 rfl) ?_
        refine lv_icmp_eq (tgt := 124) hx hb dX6_changingSwaps_118 (by decide) (fun c118 => ?_) (fun c118 => ?_)
        · have c118 := b2i_inj c118
          refine lv_iinc (v := (nI ((t + 1 + j) + 1))) (lv' := [(8, .int (nI ((t + 1 + j) + 1))), (9, .int (pExch (iv (pHeld (cK c) (cM c) (mSi (cM c)))) (nI t) (nI (t + 1 + j)))), (7, .int (nI t)), (6, .int y), (5, .int (b2i (pPassBy (cK c) ((pAble (cK c) (cM c)) &&& (iv (pHeld (cK c) (cM c) (mSi (cM c))))) (pYes (cK c) (cM c) b)))), (4, .int (pYes (cK c) (cM c) b)), (3, .int (iv (pHeld (cK c) (cM c) (mSi (cM c))))), (2, .int (pAble (cK c) (cM c))), (0, .ref (a 9)), (1, .int b)]) hx hb dX6_changingSwaps_124 hl (k := 1) rfl (wk_i1 (t + 1 + j)) (by decide) rfl (fun ls hl => ?_)
          refine lv_goto (tgt := 61) hx hb dX6_changingSwaps_127 (by decide) ?_
          exact ih61 (j + 1, y) (n61 - 1) ls (by omega) (⟨by omega, by rw [hy]; simp [pSwapG, fo_s, pSwapP, c103, c118]⟩) (lv_sub hl [0, 2, 3, 4, 5, 6, 7, 8, 9] rfl)
        · have c118 := b2i_ninj c118
          refine lv_iinc (v := (y + 1)) (lv' := [(6, .int (y + 1)), (9, .int (pExch (iv (pHeld (cK c) (cM c) (mSi (cM c)))) (nI t) (nI (t + 1 + j)))), (8, .int (nI (t + 1 + j))), (7, .int (nI t)), (5, .int (b2i (pPassBy (cK c) ((pAble (cK c) (cM c)) &&& (iv (pHeld (cK c) (cM c) (mSi (cM c))))) (pYes (cK c) (cM c) b)))), (4, .int (pYes (cK c) (cM c) b)), (3, .int (iv (pHeld (cK c) (cM c) (mSi (cM c))))), (2, .int (pAble (cK c) (cM c))), (0, .ref (a 9)), (1, .int b)]) hx hb dX6_changingSwaps_121 hl (k := 3) rfl (by rfl) (by decide) rfl (fun ls hl => ?_)
          refine lv_iinc (v := (nI ((t + 1 + j) + 1))) (lv' := [(8, .int (nI ((t + 1 + j) + 1))), (6, .int (y + 1)), (9, .int (pExch (iv (pHeld (cK c) (cM c) (mSi (cM c)))) (nI t) (nI (t + 1 + j)))), (7, .int (nI t)), (5, .int (b2i (pPassBy (cK c) ((pAble (cK c) (cM c)) &&& (iv (pHeld (cK c) (cM c) (mSi (cM c))))) (pYes (cK c) (cM c) b)))), (4, .int (pYes (cK c) (cM c) b)), (3, .int (iv (pHeld (cK c) (cM c) (mSi (cM c))))), (2, .int (pAble (cK c) (cM c))), (0, .ref (a 9)), (1, .int b)]) hx hb dX6_changingSwaps_124 hl (k := 2) rfl (wk_i1 (t + 1 + j)) (by decide) rfl (fun ls hl => ?_)
          refine lv_goto (tgt := 61) hx hb dX6_changingSwaps_127 (by decide) ?_
          exact ih61 (j + 1, (y + 1)) (n61 - 1) ls (by omega) (⟨by omega, by rw [hy]; simp [pSwapG, fo_s, pSwapP, c103, c118]⟩) (lv_sub hl [0, 3, 1, 4, 5, 6, 7, 8, 9] rfl)
theorem hdV_X6_chances : yX6_chances.cls = RX6 ∧ yX6_chances.cls ≠ "java/lang/invoke/MethodHandle" ∧ yX6_chances.cls ≠ "java/lang/invoke/VarHandle" ∧ (parseMethodDescriptor yX6_chances.desc).map (fun d => d.parameters.length) = some 0 := by decide +kernel
set_option maxHeartbeats 4000000 in
set_option maxRecDepth 100000 in
theorem c_X6_chances (l : Launch) (G : GG) (a : Nat → Nat) (c : CX) (hc : OkR c) : Met l yX6_chances wsX6_chances ({ frames := 0, cells := 0, slots := 0, locals := 0 }) (va_Pc [.ref (a 9)] (fun U => PreW G (WR G a c) U U.heap)) (QcRead (pChan (cK c))) 0 0 (fun _ => False) := by
  refine Met.ofW (cc := cX6_chances) (maxL := 3) (ret := (some .int)) (by decide) rfl ?_
  intro p e s m args below meth cd s₁ BB hml hv
  obtain ⟨rfl, hR⟩ := hv
  have hx := BB.exec
  have hb := BB.bytes
  have hr := BB.returns
  have hts := atoms_spec (ws := wsX6_chances) BB.pre
  have hown : s.vm.findClass RX6 = some m.cls := findClass_of_methodNamed BB.named
  have hlocks := BB.notSynchronized
  have hrc : 0 + 0 ≤ (headSpec wsX6_chances ({ frames := 0, cells := 0, slots := 0, locals := 0 })).room.cells := Nat.le_refl _
  have hrs : 0 + 0 ≤ (headSpec wsX6_chances ({ frames := 0, cells := 0, slots := 0, locals := 0 })).room.slots := Nat.le_refl _
  have hP := hR.1
  have hK := hR.2.1
  have hN := hR.2.2
  obtain ⟨hk7, ho1, ho5, hi6, hl200, hnx, hkn⟩ := id hc
  have hin0 : ∀ w ∈ u_ws RX0 TX0 7, w ∈ wsX6_chances := by decide +kernel
  have hin6 : ∀ w ∈ u_ws RX6 TX6 2, w ∈ wsX6_chances := by decide +kernel
  have hf9 := hts (.fieldLink RX6 9 "RegaliaVotes$Vote" "told" "LRegaliaVotes$Council;") (by decide +kernel)
  have hf83 := hts (.fieldLink RX6 83 "RegaliaVotes$Council" "officers" "I") (by decide +kernel)
  refine wk_enter (n := 3) (Nat.le_of_ble_eq_true rfl) (fun ls hl => ?_)
  have hl : lv_has ls 3 [(0, .ref (a 9))] := hl
  refine lv_iconst (v := 1) hx hb dX6_chances_0 (by decide) ?_
  refine lv_istore_n (lv' := [(1, .int 1), (0, .ref (a 9))]) hx hb dX6_chances_1 rfl hl (by decide) rfl (fun ls hl => ?_)
  refine lv_iconst (v := 0) hx hb dX6_chances_2 (by decide) ?_
  refine lv_istore_n (lv' := [(2, .int 0), (1, .int 1), (0, .ref (a 9))]) hx hb dX6_chances_3 rfl hl (by decide) rfl (fun ls hl => ?_)
  refine wk_loop (σ := Nat × Int32) (nL := 3) (fun xσ n => match xσ with | (i, z) => i + n = kO (cK c) ∧ z = pChanF i) (fun xσ => match xσ with | (i, z) => [(2, .int (nI i)), (1, .int z), (0, .ref (a 9))]) (0, 1) (kO (cK c)) (⟨by omega, rfl⟩) hl ?_
  rintro n4 ⟨i, z⟩ ls hI4 hl ih4
  have hl : lv_has ls 3 [(2, .int (nI i)), (1, .int z), (0, .ref (a 9))] := hl
  obtain ⟨hi, hz⟩ := hI4
  refine lv_iload_n hx hb dX6_chances_4 rfl (lv_at hl 0 rfl) ?_
  refine lv_aload_n hx hb dX6_chances_5 rfl (lv_at hl 2 rfl) ?_
  refine va_get (D := G.1) (v := .ref (a 1)) hx hb hts hin6 hown hK hP 9 rfl rfl 0 (by decide) hf9 (fun _ h => h) rfl dX6_chances_6 ?_
  refine va_get (D := G.1) (v := .int (nI (kO (cK c)))) hx hb hts hin0 hown hK hP 1 rfl rfl 1 (by decide) hf83 (fun _ h => h) rfl dX6_chances_9 ?_
  refine wk_ge (x := i) (y := (kO (cK c))) (tgt := 26) hx hb (by omega) (by omega) dX6_chances_12 (by decide) (fun c12 => ?_) (fun c12 => ?_)
  · refine lv_iload_n hx hb dX6_chances_26 rfl (lv_at hl 1 rfl) ?_
    exact wk_ret hx hb hr hlocks dX6_chances_27 (by rw [hz, show i = kO (cK c) by omega]; rfl)
  · refine lv_iload_n hx hb dX6_chances_15 rfl (lv_at hl 1 rfl) ?_
    refine lv_bipush (v := 10) hx hb dX6_chances_16 (by decide) ?_
    refine lv_imul hx hb dX6_chances_18 ?_
    refine lv_istore_n (lv' := [(1, .int (z * 10)), (2, .int (nI i)), (0, .ref (a 9))]) hx hb dX6_chances_19 rfl hl (by decide) rfl (fun ls hl => ?_)
    refine lv_iinc (v := (nI (i + 1))) (lv' := [(2, .int (nI (i + 1))), (1, .int (z * 10)), (0, .ref (a 9))]) hx hb dX6_chances_20 hl (k := 1) rfl (wk_i1 i) (by decide) rfl (fun ls hl => ?_)
    refine lv_goto (tgt := 4) hx hb dX6_chances_23 (by decide) ?_
    exact ih4 (i + 1, (z * 10)) (n4 - 1) ls (by omega) (⟨by omega, by rw [hz]; rfl⟩) (lv_sub hl [0, 1, 2] rfl)
theorem hdV_X6_chancesOfSick : yX6_chancesOfSick.cls = RX6 ∧ yX6_chancesOfSick.cls ≠ "java/lang/invoke/MethodHandle" ∧ yX6_chancesOfSick.cls ≠ "java/lang/invoke/VarHandle" ∧ (parseMethodDescriptor yX6_chancesOfSick.desc).map (fun d => d.parameters.length) = some 2 := by decide +kernel
set_option maxHeartbeats 4000000 in
set_option maxRecDepth 100000 in
theorem c_X6_chancesOfSick (l : Launch) (G : GG) (a : Nat → Nat) (c : CX) (hc : OkR c) (sick : Int32) (p9 : Int32) : Met l yX6_chancesOfSick wsX6_chancesOfSick ({ frames := 1, cells := 0, slots := 0, locals := 21 }) (va_Pc [.ref (a 9), .int sick, .int p9] (fun U => PreW G (WR G a c) U U.heap)) (QcRead (pChS (cK c) sick p9)) 0 0 (fun _ => False) := by
  refine Met.ofW (cc := cX6_chancesOfSick) (maxL := 5) (ret := (some .int)) (by decide) rfl ?_
  intro p e s m args below meth cd s₁ BB hml hv
  obtain ⟨rfl, hR⟩ := hv
  have hx := BB.exec
  have hb := BB.bytes
  have hr := BB.returns
  have hts := atoms_spec (ws := wsX6_chancesOfSick) BB.pre
  have hown : s.vm.findClass RX6 = some m.cls := findClass_of_methodNamed BB.named
  have hlocks := BB.notSynchronized
  have hrc : 0 + 0 ≤ (headSpec wsX6_chancesOfSick ({ frames := 1, cells := 0, slots := 0, locals := 21 })).room.cells := Nat.le_refl _
  have hrs : 0 + 0 ≤ (headSpec wsX6_chancesOfSick ({ frames := 1, cells := 0, slots := 0, locals := 21 })).room.slots := Nat.le_refl _
  have hP := hR.1
  have hK := hR.2.1
  have hN := hR.2.2
  obtain ⟨hk7, ho1, ho5, hi6, hl200, hnx, hkn⟩ := id hc
  have hin0 : ∀ w ∈ u_ws RX0 TX0 7, w ∈ wsX6_chancesOfSick := by decide +kernel
  have hin6 : ∀ w ∈ u_ws RX6 TX6 2, w ∈ wsX6_chancesOfSick := by decide +kernel
  have hf9 := hts (.fieldLink RX6 9 "RegaliaVotes$Vote" "told" "LRegaliaVotes$Council;") (by decide +kernel)
  have hf83 := hts (.fieldLink RX6 83 "RegaliaVotes$Council" "officers" "I") (by decide +kernel)
  refine wk_enter (n := 5) (Nat.le_of_ble_eq_true rfl) (fun ls hl => ?_)
  have hl : lv_has ls 5 [(0, .ref (a 9)), (1, .int sick), (2, .int p9)] := hl
  refine lv_iconst (v := 1) hx hb dX6_chancesOfSick_0 (by decide) ?_
  refine lv_istore_n (lv' := [(3, .int 1), (0, .ref (a 9)), (1, .int sick), (2, .int p9)]) hx hb dX6_chancesOfSick_1 rfl hl (by decide) rfl (fun ls hl => ?_)
  refine lv_iconst (v := 0) hx hb dX6_chancesOfSick_2 (by decide) ?_
  refine lv_istore (lv' := [(4, .int 0), (3, .int 1), (0, .ref (a 9)), (1, .int sick), (2, .int p9)]) hx hb dX6_chancesOfSick_3 hl (by decide) rfl (fun ls hl => ?_)
  refine wk_loop (σ := Nat × Int32) (nL := 5) (fun xσ n => match xσ with | (i, z) => i + n = kO (cK c) ∧ z = pChSF sick p9 i) (fun xσ => match xσ with | (i, z) => [(4, .int (nI i)), (3, .int z), (0, .ref (a 9)), (1, .int sick), (2, .int p9)]) (0, 1) (kO (cK c)) (⟨by omega, rfl⟩) hl ?_
  rintro n5 ⟨i, z⟩ ls hI5 hl ih5
  have hl : lv_has ls 5 [(4, .int (nI i)), (3, .int z), (0, .ref (a 9)), (1, .int sick), (2, .int p9)] := hl
  obtain ⟨hi, hz⟩ := hI5
  refine lv_iload hx hb dX6_chancesOfSick_5 (lv_at hl 0 rfl) ?_
  refine lv_aload_n hx hb dX6_chancesOfSick_7 rfl (lv_at hl 2 rfl) ?_
  refine va_get (D := G.1) (v := .ref (a 1)) hx hb hts hin6 hown hK hP 9 rfl rfl 0 (by decide) hf9 (fun _ h => h) rfl dX6_chancesOfSick_8 ?_
  refine va_get (D := G.1) (v := .int (nI (kO (cK c)))) hx hb hts hin0 hown hK hP 1 rfl rfl 1 (by decide) hf83 (fun _ h => h) rfl dX6_chancesOfSick_11 ?_
  refine wk_ge (x := i) (y := (kO (cK c))) (tgt := 44) hx hb (by omega) (by omega) dX6_chancesOfSick_14 (by decide) (fun c14 => ?_) (fun c14 => ?_)
  · refine lv_iload_n hx hb dX6_chancesOfSick_44 rfl (lv_at hl 1 rfl) ?_
    exact wk_ret hx hb hr hlocks dX6_chancesOfSick_45 (by rw [hz, show i = kO (cK c) by omega]; rfl)
  · refine lv_iload_n hx hb dX6_chancesOfSick_17 rfl (lv_at hl 1 rfl) ?_
    refine lv_iload_n hx hb dX6_chancesOfSick_18 rfl (lv_at hl 3 rfl) ?_
    refine lv_iload hx hb dX6_chancesOfSick_19 (lv_at hl 0 rfl) ?_
    refine wk_read (va_runSN (As := [.int sick, .int (nI i)]) (rest := [.int z]) ⟨hx, hb, hml, hown, hts⟩ (c_X7_bit l sick (nI i)) ⟨va_cnB 2 hts gX6_chancesOfSick_X7_bit_n40 rfl rfl rfl hN.1 (hts (.initialized RX7) (by decide +kernel)) hdS_X7_bit ⟨Nat.le_of_ble_eq_true rfl, Nat.le_of_ble_eq_true rfl⟩, hts (.static yX7_bit) (by decide +kernel), trivial⟩ preEq rfl rfl hl.1 rfl (lv_room (Nat.le_of_ble_eq_true rfl)) dX6_chancesOfSick_21 ⟨hrc, hrs⟩) ?_
    refine lv_iconst (v := 1) hx hb dX6_chancesOfSick_24 (by decide) ?_
    refine lv_icmp_ne (tgt := 32) hx hb dX6_chancesOfSick_25 (by decide) (fun c25 => ?_) (fun c25 => ?_)
    · refine lv_bipush (v := 10) hx hb dX6_chancesOfSick_32 (by decide) ?_
      refine lv_iload_n hx hb dX6_chancesOfSick_34 rfl (lv_at hl 4 rfl) ?_
      refine lv_isub hx hb dX6_chancesOfSick_35 ?_
      refine lv_imul hx hb dX6_chancesOfSick_36 ?_
      refine lv_istore_n (lv' := [(3, .int (z * (10 - p9))), (4, .int (nI i)), (0, .ref (a 9)), (1, .int sick), (2, .int p9)]) hx hb dX6_chancesOfSick_37 rfl hl (by decide) rfl (fun ls hl => ?_)
      refine lv_iinc (v := (nI (i + 1))) (lv' := [(4, .int (nI (i + 1))), (3, .int (z * (10 - p9))), (0, .ref (a 9)), (1, .int sick), (2, .int p9)]) hx hb dX6_chancesOfSick_38 hl (k := 1) rfl (wk_i1 i) (by decide) rfl (fun ls hl => ?_)
      refine lv_goto (tgt := 5) hx hb dX6_chancesOfSick_41 (by decide) ?_
      exact ih5 (i + 1, (z * (10 - p9))) (n5 - 1) ls (by omega) (⟨by omega, by rw [hz]; simp [pChSF, fo_s, c14, c25]⟩) (lv_sub hl [0, 1, 2, 3, 4] rfl)
    · refine lv_iload_n hx hb dX6_chancesOfSick_28 rfl (lv_at hl 4 rfl) ?_
      refine lv_goto (tgt := 36) hx hb dX6_chancesOfSick_29 (by decide) ?_
      refine lv_imul hx hb dX6_chancesOfSick_36 ?_
      refine lv_istore_n (lv' := [(3, .int (z * p9)), (4, .int (nI i)), (0, .ref (a 9)), (1, .int sick), (2, .int p9)]) hx hb dX6_chancesOfSick_37 rfl hl (by decide) rfl (fun ls hl => ?_)
      refine lv_iinc (v := (nI (i + 1))) (lv' := [(4, .int (nI (i + 1))), (3, .int (z * p9)), (0, .ref (a 9)), (1, .int sick), (2, .int p9)]) hx hb dX6_chancesOfSick_38 hl (k := 1) rfl (wk_i1 i) (by decide) rfl (fun ls hl => ?_)
      refine lv_goto (tgt := 5) hx hb dX6_chancesOfSick_41 (by decide) ?_
      exact ih5 (i + 1, (z * p9)) (n5 - 1) ls (by omega) (⟨by omega, by rw [hz]; simp [pChSF, fo_s, c14, c25]⟩) (lv_sub hl [0, 1, 2, 3, 4] rfl)
theorem hdV_X6_chancesToPass : yX6_chancesToPass.cls = RX6 ∧ yX6_chancesToPass.cls ≠ "java/lang/invoke/MethodHandle" ∧ yX6_chancesToPass.cls ≠ "java/lang/invoke/VarHandle" ∧ (parseMethodDescriptor yX6_chancesToPass.desc).map (fun d => d.parameters.length) = some 2 := by decide +kernel
set_option maxHeartbeats 4000000 in
set_option maxRecDepth 100000 in
theorem c_X6_chancesToPass (l : Launch) (G : GG) (a : Nat → Nat) (c : CX) (hc : OkR c) (b : Int32) (p9 : Int32) : Met l yX6_chancesToPass wsX6_chancesToPass ({ frames := 3, cells := 0, slots := 0, locals := 66 }) (va_Pc [.ref (a 9), .int b, .int p9] (fun U => PreW G (WR G a c) U U.heap)) (QcRead (pChP (cK c) (cM c) b p9)) 0 0 (fun _ => False) := by
  refine Met.ofW (cc := cX6_chancesToPass) (maxL := 6) (ret := (some .int)) (by decide) rfl ?_
  intro p e s m args below meth cd s₁ BB hml hv
  obtain ⟨rfl, hR⟩ := hv
  have hx := BB.exec
  have hb := BB.bytes
  have hr := BB.returns
  have hts := atoms_spec (ws := wsX6_chancesToPass) BB.pre
  have hown : s.vm.findClass RX6 = some m.cls := findClass_of_methodNamed BB.named
  have hlocks := BB.notSynchronized
  have hrc : 0 + 0 ≤ (headSpec wsX6_chancesToPass ({ frames := 3, cells := 0, slots := 0, locals := 66 })).room.cells := Nat.le_refl _
  have hrs : 0 + 0 ≤ (headSpec wsX6_chancesToPass ({ frames := 3, cells := 0, slots := 0, locals := 66 })).room.slots := Nat.le_refl _
  have hP := hR.1
  have hK := hR.2.1
  have hN := hR.2.2
  obtain ⟨hk7, ho1, ho5, hi6, hl200, hnx, hkn⟩ := id hc
  have hin0 : ∀ w ∈ u_ws RX0 TX0 7, w ∈ wsX6_chancesToPass := by decide +kernel
  have hin6 : ∀ w ∈ u_ws RX6 TX6 2, w ∈ wsX6_chancesToPass := by decide +kernel
  have hf9 := hts (.fieldLink RX6 9 "RegaliaVotes$Vote" "told" "LRegaliaVotes$Council;") (by decide +kernel)
  have hf83 := hts (.fieldLink RX6 83 "RegaliaVotes$Council" "officers" "I") (by decide +kernel)
  have hpw := pw_le ho5
  refine wk_enter (n := 6) (Nat.le_of_ble_eq_true rfl) (fun ls hl => ?_)
  have hl : lv_has ls 6 [(0, .ref (a 9)), (1, .int b), (2, .int p9)] := hl
  refine lv_aload_n hx hb dX6_chancesToPass_0 rfl (lv_at hl 0 rfl) ?_
  refine lv_iload_n hx hb dX6_chancesToPass_1 rfl (lv_at hl 1 rfl) ?_
  refine wk_read (va_runV (As := [.int b]) (rest := []) ⟨hx, hb, hml, hown, hts⟩ (c_X6_yesOf l G a c hc b) (cwV 1 hts gX6_chancesToPass_X6_yesOf rfl rfl rfl hdV_X6_yesOf ⟨Nat.le_of_ble_eq_true rfl, Nat.le_of_ble_eq_true rfl⟩) (hR.pre (ci := 6) (q0 := 9) rfl rfl) rfl rfl hl.1 rfl (lv_room (Nat.le_of_ble_eq_true rfl)) dX6_chancesToPass_2 ⟨hrc, hrs⟩) ?_
  refine lv_istore_n (lv' := [(3, .int (pYes (cK c) (cM c) b)), (0, .ref (a 9)), (1, .int b), (2, .int p9)]) hx hb dX6_chancesToPass_5 rfl hl (by decide) rfl (fun ls hl => ?_)
  refine lv_iconst (v := 0) hx hb dX6_chancesToPass_6 (by decide) ?_
  refine lv_istore (lv' := [(4, .int 0), (3, .int (pYes (cK c) (cM c) b)), (0, .ref (a 9)), (1, .int b), (2, .int p9)]) hx hb dX6_chancesToPass_7 hl (by decide) rfl (fun ls hl => ?_)
  refine lv_iconst (v := 0) hx hb dX6_chancesToPass_9 (by decide) ?_
  refine lv_istore (lv' := [(5, .int 0), (4, .int 0), (3, .int (pYes (cK c) (cM c) b)), (0, .ref (a 9)), (1, .int b), (2, .int p9)]) hx hb dX6_chancesToPass_10 hl (by decide) rfl (fun ls hl => ?_)
  refine wk_loop (σ := Nat × Int32) (nL := 6) (fun xσ n => match xσ with | (i, z) => i + n = 2 ^ kO (cK c) ∧ z = pChPF (cK c) (cM c) b p9 i) (fun xσ => match xσ with | (i, z) => [(5, .int (nI i)), (4, .int z), (3, .int (pYes (cK c) (cM c) b)), (0, .ref (a 9)), (1, .int b), (2, .int p9)]) (0, 0) (2 ^ kO (cK c)) (⟨by omega, rfl⟩) hl ?_
  rintro n12 ⟨i, z⟩ ls hI12 hl ih12
  have hl : lv_has ls 6 [(5, .int (nI i)), (4, .int z), (3, .int (pYes (cK c) (cM c) b)), (0, .ref (a 9)), (1, .int b), (2, .int p9)] := hl
  obtain ⟨hi, hz⟩ := hI12
  refine lv_iload hx hb dX6_chancesToPass_12 (lv_at hl 0 rfl) ?_
  refine lv_iconst (v := 1) hx hb dX6_chancesToPass_14 (by decide) ?_
  refine lv_aload_n hx hb dX6_chancesToPass_15 rfl (lv_at hl 3 rfl) ?_
  refine va_get (D := G.1) (v := .ref (a 1)) hx hb hts hin6 hown hK hP 9 rfl rfl 0 (by decide) hf9 (fun _ h => h) rfl dX6_chancesToPass_16 ?_
  refine va_get (D := G.1) (v := .int (nI (kO (cK c)))) hx hb hts hin0 hown hK hP 1 rfl rfl 1 (by decide) hf83 (fun _ h => h) rfl dX6_chancesToPass_19 ?_
  refine lv_ishl hx hb dX6_chancesToPass_22 ?_
  show W _ _ _ _ _ _ _ _ _ _ _ _ _ _ _ (F0 _ _ _ (.int (sh1 (nI (kO (cK c)))) :: _))
  rw [sh1_pow ho5]
  refine wk_ge (x := i) (y := (2 ^ kO (cK c))) (tgt := 58) hx hb (by omega) (by omega) dX6_chancesToPass_23 (by decide) (fun c23 => ?_) (fun c23 => ?_)
  · refine lv_iload hx hb dX6_chancesToPass_58 (lv_at hl 1 rfl) ?_
    exact wk_ret hx hb hr hlocks dX6_chancesToPass_60 (by rw [hz, show i = 2 ^ kO (cK c) by omega]; rfl)
  · refine lv_aload_n hx hb dX6_chancesToPass_26 rfl (lv_at hl 3 rfl) ?_
    refine lv_aload_n hx hb dX6_chancesToPass_27 rfl (lv_at hl 3 rfl) ?_
    refine lv_iload hx hb dX6_chancesToPass_28 (lv_at hl 0 rfl) ?_
    refine wk_read (va_runV (As := [.int (nI i)]) (rest := [.ref (a 9)]) ⟨hx, hb, hml, hown, hts⟩ (c_X6_voicesIfSick l G a c hc (nI i)) (cwV 1 hts gX6_chancesToPass_X6_voicesIfSick rfl rfl rfl hdV_X6_voicesIfSick ⟨Nat.le_of_ble_eq_true rfl, Nat.le_of_ble_eq_true rfl⟩) (hR.pre (ci := 6) (q0 := 9) rfl rfl) rfl rfl hl.1 rfl (lv_room (Nat.le_of_ble_eq_true rfl)) dX6_chancesToPass_30 ⟨hrc, hrs⟩) ?_
    refine lv_iload_n hx hb dX6_chancesToPass_33 rfl (lv_at hl 2 rfl) ?_
    refine wk_read (va_runV (As := [.int (pVoicesIf (cK c) (cM c) (nI i)), .int (pYes (cK c) (cM c) b)]) (rest := []) ⟨hx, hb, hml, hown, hts⟩ (c_X6_passesBy l G a c hc (pVoicesIf (cK c) (cM c) (nI i)) (pYes (cK c) (cM c) b)) (cwV 2 hts gX6_chancesToPass_X6_passesBy rfl rfl rfl hdV_X6_passesBy ⟨Nat.le_of_ble_eq_true rfl, Nat.le_of_ble_eq_true rfl⟩) (hR.pre (ci := 6) (q0 := 9) rfl rfl) rfl rfl hl.1 rfl (lv_room (Nat.le_of_ble_eq_true rfl)) dX6_chancesToPass_34 ⟨hrc, hrs⟩) ?_
    refine lv_if_eq (tgt := 52) hx hb dX6_chancesToPass_37 (by decide) (fun c37 => ?_) (fun c37 => ?_)
    · have c37 := b2i_f c37
      refine lv_iinc (v := (nI (i + 1))) (lv' := [(5, .int (nI (i + 1))), (4, .int z), (3, .int (pYes (cK c) (cM c) b)), (0, .ref (a 9)), (1, .int b), (2, .int p9)]) hx hb dX6_chancesToPass_52 hl (k := 0) rfl (wk_i1 i) (by decide) rfl (fun ls hl => ?_)
      refine lv_goto (tgt := 12) hx hb dX6_chancesToPass_55 (by decide) ?_
      exact ih12 (i + 1, z) (n12 - 1) ls (by omega) (⟨by omega, by rw [hz]; simp [pChPF, fo_s, c23, c37]⟩) (lv_sub hl [0, 1, 2, 3, 4, 5] rfl)
    · have c37 := b2i_t c37
      refine lv_iload hx hb dX6_chancesToPass_40 (lv_at hl 1 rfl) ?_
      refine lv_aload_n hx hb dX6_chancesToPass_42 rfl (lv_at hl 3 rfl) ?_
      refine lv_iload hx hb dX6_chancesToPass_43 (lv_at hl 0 rfl) ?_
      refine lv_iload_n hx hb dX6_chancesToPass_45 rfl (lv_at hl 5 rfl) ?_
      refine wk_read (va_runV (As := [.int (nI i), .int p9]) (rest := [.int z]) ⟨hx, hb, hml, hown, hts⟩ (c_X6_chancesOfSick l G a c hc (nI i) p9) (cwV 2 hts gX6_chancesToPass_X6_chancesOfSick rfl rfl rfl hdV_X6_chancesOfSick ⟨Nat.le_of_ble_eq_true rfl, Nat.le_of_ble_eq_true rfl⟩) (hR.pre (ci := 6) (q0 := 9) rfl rfl) rfl rfl hl.1 rfl (lv_room (Nat.le_of_ble_eq_true rfl)) dX6_chancesToPass_46 ⟨hrc, hrs⟩) ?_
      refine lv_iadd hx hb dX6_chancesToPass_49 ?_
      refine lv_istore (lv' := [(4, .int (z + (pChS (cK c) (nI i) p9))), (5, .int (nI i)), (3, .int (pYes (cK c) (cM c) b)), (0, .ref (a 9)), (1, .int b), (2, .int p9)]) hx hb dX6_chancesToPass_50 hl (by decide) rfl (fun ls hl => ?_)
      refine lv_iinc (v := (nI (i + 1))) (lv' := [(5, .int (nI (i + 1))), (4, .int (z + (pChS (cK c) (nI i) p9))), (3, .int (pYes (cK c) (cM c) b)), (0, .ref (a 9)), (1, .int b), (2, .int p9)]) hx hb dX6_chancesToPass_52 hl (k := 1) rfl (wk_i1 i) (by decide) rfl (fun ls hl => ?_)
      refine lv_goto (tgt := 12) hx hb dX6_chancesToPass_55 (by decide) ?_
      exact ih12 (i + 1, (z + (pChS (cK c) (nI i) p9))) (n12 - 1) ls (by omega) (⟨by omega, by rw [hz]; simp [pChPF, fo_s, c23, c37]⟩) (lv_sub hl [0, 1, 2, 3, 4, 5] rfl)
theorem hdS_X4_ordersOf : yX4_ordersOf.cls ≠ "java/lang/invoke/MethodHandle" ∧ yX4_ordersOf.cls ≠ "java/lang/invoke/VarHandle" ∧ (parseMethodDescriptor yX4_ordersOf.desc).map (fun d => d.parameters.length) = some 1 := by decide +kernel
set_option maxHeartbeats 4000000 in
set_option maxRecDepth 100000 in
theorem c_X4_ordersOf (l : Launch) (G : GG) (a : Nat → Nat) (c : CX) (hc : OkR c) (x : Int32) : Met l yX4_ordersOf wsX4_ordersOf ({ frames := 0, cells := 0, slots := 0, locals := 0 }) (va_Pc [.int x] (fun U => PreF G (WR G a c) U U.heap)) (QcRead (pOrd x)) 0 0 (fun _ => False) := by
  refine Met.ofW (cc := cX4_ordersOf) (maxL := 1) (ret := (some .int)) (by decide) rfl ?_
  intro p e s m args below meth cd s₁ BB hml hv
  obtain ⟨rfl, hR, hF⟩ := hv
  have hx := BB.exec
  have hb := BB.bytes
  have hr := BB.returns
  have hts := atoms_spec (ws := wsX4_ordersOf) BB.pre
  have hown : s.vm.findClass RX4 = some m.cls := findClass_of_methodNamed BB.named
  have hlocks := BB.notSynchronized
  have hrc : 0 + 0 ≤ (headSpec wsX4_ordersOf ({ frames := 0, cells := 0, slots := 0, locals := 0 })).room.cells := Nat.le_refl _
  have hrs : 0 + 0 ≤ (headSpec wsX4_ordersOf ({ frames := 0, cells := 0, slots := 0, locals := 0 })).room.slots := Nat.le_refl _
  have hP := hR.1
  have hK := hR.2.1
  have hN := hR.2.2
  obtain ⟨hk7, ho1, ho5, hi6, hl200, hnx, hkn⟩ := id hc
  obtain ⟨tF, hFz, hFt⟩ := hF
  refine wk_enter (n := 1) (Nat.le_of_ble_eq_true rfl) (fun ls hl => ?_)
  have hl : lv_has ls 1 [(0, .int x)] := hl
  refine lv_iload_n hx hb dX4_ordersOf_0 rfl (lv_at hl 0 rfl) ?_
  refine lv_if_lt (tgt := 12) hx hb dX4_ordersOf_1 (by decide) (fun c1 => ?_) (fun c1 => ?_)
  · refine lv_iconst (v := 0) hx hb dX4_ordersOf_12 (by decide) ?_
    refine lv_goto (tgt := 21) hx hb dX4_ordersOf_13 (by decide) ?_
    exact wk_ret hx hb hr hlocks dX4_ordersOf_21 (by simp [pOrd, c1])
  · refine lv_iload_n hx hb dX4_ordersOf_4 rfl (lv_at hl 0 rfl) ?_
    refine va_gets hx hb hFz va_S.rf hown (hts (.fieldLink RX4 15 "RegaliaVotes$Power" "FACTORIAL" "[I") (by decide +kernel)) (fun _ h => h) dX4_ordersOf_5 ?_
    refine va_tlen (v := 8) hx hb hFt va_S.rf (by decide) dX4_ordersOf_8 ?_
    refine lv_icmp_lt (tgt := 16) hx hb dX4_ordersOf_9 (by decide) (fun c9 => ?_) (fun c9 => ?_)
    · have hin9 : vp_in x 8 := vp_in_iff.mpr ⟨by have := Int32.le_iff_toInt_le.mp (Int32.not_lt.mp c1); simpa using this, by have := Int32.lt_iff_toInt_lt.mp c9; simpa using this⟩
      refine va_gets hx hb hFz va_S.rf hown (hts (.fieldLink RX4 15 "RegaliaVotes$Power" "FACTORIAL" "[I") (by decide +kernel)) (fun _ h => h) dX4_ordersOf_16 ?_
      refine lv_iload_n hx hb dX4_ordersOf_19 rfl (lv_at hl 0 rfl) ?_
      refine va_ti (v := .int (facT x.toNatClampNeg)) hx hb hFt va_S.rf hin9 rfl dX4_ordersOf_20 ?_
      exact wk_ret hx hb hr hlocks dX4_ordersOf_21 (by simp [pOrd, c1, c9])
    · refine lv_iconst (v := 0) hx hb dX4_ordersOf_12 (by decide) ?_
      refine lv_goto (tgt := 21) hx hb dX4_ordersOf_13 (by decide) ?_
      exact wk_ret hx hb hr hlocks dX4_ordersOf_21 (by simp [pOrd, c1, c9])
theorem hdV_X4_carries : yX4_carries.cls = RX4 ∧ yX4_carries.cls ≠ "java/lang/invoke/MethodHandle" ∧ yX4_carries.cls ≠ "java/lang/invoke/VarHandle" ∧ (parseMethodDescriptor yX4_carries.desc).map (fun d => d.parameters.length) = some 2 := by decide +kernel
set_option maxHeartbeats 4000000 in
set_option maxRecDepth 100000 in
theorem c_X4_carries (l : Launch) (G : GG) (a : Nat → Nat) (c : CX) (hc : OkR c) (set : Int32) (voices : Int32) : Met l yX4_carries wsX4_carries ({ frames := 2, cells := 0, slots := 0, locals := 44 }) (va_Pc [.ref (a 10), .int set, .int voices] (fun U => PreW G (WR G a c) U U.heap)) (QcRead (b2i (pCar (cK c) set voices))) 0 0 (fun _ => False) := by
  refine Met.ofW (cc := cX4_carries) (maxL := 3) (ret := (some .boolean)) (by decide) rfl ?_
  intro p e s m args below meth cd s₁ BB hml hv
  obtain ⟨rfl, hR⟩ := hv
  have hx := BB.exec
  have hb := BB.bytes
  have hr := BB.returns
  have hts := atoms_spec (ws := wsX4_carries) BB.pre
  have hown : s.vm.findClass RX4 = some m.cls := findClass_of_methodNamed BB.named
  have hlocks := BB.notSynchronized
  have hrc : 0 + 0 ≤ (headSpec wsX4_carries ({ frames := 2, cells := 0, slots := 0, locals := 44 })).room.cells := Nat.le_refl _
  have hrs : 0 + 0 ≤ (headSpec wsX4_carries ({ frames := 2, cells := 0, slots := 0, locals := 44 })).room.slots := Nat.le_refl _
  have hP := hR.1
  have hK := hR.2.1
  have hN := hR.2.2
  obtain ⟨hk7, ho1, ho5, hi6, hl200, hnx, hkn⟩ := id hc
  have hin4 : ∀ w ∈ u_ws RX4 TX4 1, w ∈ wsX4_carries := by decide +kernel
  have hf9 := hts (.fieldLink RX4 9 "RegaliaVotes$Power" "vote" "LRegaliaVotes$Vote;") (by decide +kernel)
  refine wk_enter (n := 3) (Nat.le_of_ble_eq_true rfl) (fun ls hl => ?_)
  have hl : lv_has ls 3 [(0, .ref (a 10)), (1, .int set), (2, .int voices)] := hl
  refine lv_iconst (v := 2) hx hb dX4_carries_0 (by decide) ?_
  refine lv_aload_n hx hb dX4_carries_1 rfl (lv_at hl 0 rfl) ?_
  refine va_get (D := G.1) (v := .ref (a 9)) hx hb hts hin4 hown hK hP 10 rfl rfl 0 (by decide) hf9 (fun _ h => h) rfl dX4_carries_2 ?_
  refine lv_iload_n hx hb dX4_carries_5 rfl (lv_at hl 1 rfl) ?_
  refine wk_read (va_runV (As := [.int set]) (rest := [.int 2]) ⟨hx, hb, hml, hown, hts⟩ (c_X6_votesOf l G a c hc set) (cwV 1 hts gX4_carries_X6_votesOf rfl rfl rfl hdV_X6_votesOf ⟨Nat.le_of_ble_eq_true rfl, Nat.le_of_ble_eq_true rfl⟩) (hR.pre (ci := 6) (q0 := 9) rfl rfl) rfl rfl hl.1 rfl (lv_room (Nat.le_of_ble_eq_true rfl)) dX4_carries_6 ⟨hrc, hrs⟩) ?_
  refine lv_imul hx hb dX4_carries_9 ?_
  refine lv_aload_n hx hb dX4_carries_10 rfl (lv_at hl 0 rfl) ?_
  refine va_get (D := G.1) (v := .ref (a 9)) hx hb hts hin4 hown hK hP 10 rfl rfl 0 (by decide) hf9 (fun _ h => h) rfl dX4_carries_11 ?_
  refine lv_iload_n hx hb dX4_carries_14 rfl (lv_at hl 2 rfl) ?_
  refine wk_read (va_runV (As := [.int voices]) (rest := [.int (2 * (pVotes (cK c) set))]) ⟨hx, hb, hml, hown, hts⟩ (c_X6_votesOf l G a c hc voices) (cwV 1 hts gX4_carries_X6_votesOf rfl rfl rfl hdV_X6_votesOf ⟨Nat.le_of_ble_eq_true rfl, Nat.le_of_ble_eq_true rfl⟩) (hR.pre (ci := 6) (q0 := 9) rfl rfl) rfl rfl hl.1 rfl (lv_room (Nat.le_of_ble_eq_true rfl)) dX4_carries_15 ⟨hrc, hrs⟩) ?_
  refine lv_icmp_le (tgt := 25) hx hb dX4_carries_18 (by decide) (fun c18 => ?_) (fun c18 => ?_)
  · refine lv_iconst (v := 0) hx hb dX4_carries_25 (by decide) ?_
    exact wk_zret hx hb hr hlocks dX4_carries_26 (by rfl) (by simp only [b2i, pCar]; simp [Int32.not_lt.mpr c18])
  · refine lv_iconst (v := 1) hx hb dX4_carries_21 (by decide) ?_
    refine lv_goto (tgt := 26) hx hb dX4_carries_22 (by decide) ?_
    exact wk_zret hx hb hr hlocks dX4_carries_26 (by rfl) (by simp only [b2i, pCar]; simp [Int32.not_le.mp c18])
theorem hdV_X4_orders : yX4_orders.cls = RX4 ∧ yX4_orders.cls ≠ "java/lang/invoke/MethodHandle" ∧ yX4_orders.cls ≠ "java/lang/invoke/VarHandle" ∧ (parseMethodDescriptor yX4_orders.desc).map (fun d => d.parameters.length) = some 0 := by decide +kernel
set_option maxHeartbeats 4000000 in
set_option maxRecDepth 100000 in
theorem c_X4_orders (l : Launch) (G : GG) (a : Nat → Nat) (c : CX) (hc : OkR c) : Met l yX4_orders wsX4_orders ({ frames := 4, cells := 0, slots := 0, locals := 85 }) (va_Pc [.ref (a 10)] (fun U => PreF G (WR G a c) U U.heap)) (QcRead (pOrders (cK c) (cM c))) 0 0 (fun _ => False) := by
  refine Met.ofW (cc := cX4_orders) (maxL := 1) (ret := (some .int)) (by decide) rfl ?_
  intro p e s m args below meth cd s₁ BB hml hv
  obtain ⟨rfl, hR, hF⟩ := hv
  have hx := BB.exec
  have hb := BB.bytes
  have hr := BB.returns
  have hts := atoms_spec (ws := wsX4_orders) BB.pre
  have hown : s.vm.findClass RX4 = some m.cls := findClass_of_methodNamed BB.named
  have hlocks := BB.notSynchronized
  have hrc : 0 + 0 ≤ (headSpec wsX4_orders ({ frames := 4, cells := 0, slots := 0, locals := 85 })).room.cells := Nat.le_refl _
  have hrs : 0 + 0 ≤ (headSpec wsX4_orders ({ frames := 4, cells := 0, slots := 0, locals := 85 })).room.slots := Nat.le_refl _
  have hP := hR.1
  have hK := hR.2.1
  have hN := hR.2.2
  obtain ⟨hk7, ho1, ho5, hi6, hl200, hnx, hkn⟩ := id hc
  have hin4 : ∀ w ∈ u_ws RX4 TX4 1, w ∈ wsX4_orders := by decide +kernel
  have hf9 := hts (.fieldLink RX4 9 "RegaliaVotes$Power" "vote" "LRegaliaVotes$Vote;") (by decide +kernel)
  refine wk_enter (n := 1) (Nat.le_of_ble_eq_true rfl) (fun ls hl => ?_)
  have hl : lv_has ls 1 [(0, .ref (a 10))] := hl
  refine lv_aload_n hx hb dX4_orders_0 rfl (lv_at hl 0 rfl) ?_
  refine va_get (D := G.1) (v := .ref (a 9)) hx hb hts hin4 hown hK hP 10 rfl rfl 0 (by decide) hf9 (fun _ h => h) rfl dX4_orders_1 ?_
  refine wk_read (va_runV (As := []) (rest := []) ⟨hx, hb, hml, hown, hts⟩ (c_X6_voices l G a c hc) (cwV 0 hts gX4_orders_X6_voices rfl rfl rfl hdV_X6_voices ⟨Nat.le_of_ble_eq_true rfl, Nat.le_of_ble_eq_true rfl⟩) (hR.pre (ci := 6) (q0 := 9) rfl rfl) rfl rfl hl.1 rfl (lv_room (Nat.le_of_ble_eq_true rfl)) dX4_orders_4 ⟨hrc, hrs⟩) ?_
  refine wk_read (va_runS (As := [.int (pVoices (cK c) (cM c))]) (rest := []) ⟨hx, hb, hml, hown, hts⟩ (c_J6_bitCount_0f7a4 l (pVoices (cK c) (cM c))) (va_cwS 1 hts gX4_orders_J6_bitCount_0f7a4 rfl rfl rfl hdS_J6_bitCount_0f7a4 ⟨Nat.le_of_ble_eq_true rfl, Nat.le_of_ble_eq_true rfl⟩) preEq rfl rfl hl.1 rfl (lv_room (Nat.le_of_ble_eq_true rfl)) dX4_orders_7 ⟨hrc, hrs⟩) ?_
  refine wk_read (va_runS (As := [.int (pPop (pVoices (cK c) (cM c)))]) (rest := []) ⟨hx, hb, hml, hown, hts⟩ (c_X4_ordersOf l G a c hc (pPop (pVoices (cK c) (cM c)))) (va_cwS 1 hts gX4_orders_X4_ordersOf rfl rfl rfl hdS_X4_ordersOf ⟨Nat.le_of_ble_eq_true rfl, Nat.le_of_ble_eq_true rfl⟩) (PreF.preS ⟨hR, hF⟩) rfl rfl hl.1 rfl (lv_room (Nat.le_of_ble_eq_true rfl)) dX4_orders_10 ⟨hrc, hrs⟩) ?_
  exact wk_ret hx hb hr hlocks dX4_orders_13 (rfl)
theorem hdV_X4_ordersDecided : yX4_ordersDecided.cls = RX4 ∧ yX4_ordersDecided.cls ≠ "java/lang/invoke/MethodHandle" ∧ yX4_ordersDecided.cls ≠ "java/lang/invoke/VarHandle" ∧ (parseMethodDescriptor yX4_ordersDecided.desc).map (fun d => d.parameters.length) = some 2 := by decide +kernel
set_option maxHeartbeats 4000000 in
set_option maxRecDepth 100000 in
theorem c_X4_ordersDecided (l : Launch) (G : GG) (a : Nat → Nat) (c : CX) (hc : OkR c) (t : Nat) (v : Int32) : Met l yX4_ordersDecided wsX4_ordersDecided ({ frames := 3, cells := 0, slots := 0, locals := 66 }) (va_Pc [.ref (a 10), .int (nI t), .int v] (fun U => PreF G (WR G a c) U U.heap)) (QcRead (pDec (cK c) t v)) 0 0 (fun _ => False) := by
  refine Met.ofW (cc := cX4_ordersDecided) (maxL := 7) (ret := (some .int)) (by decide) rfl ?_
  intro p e s m args below meth cd s₁ BB hml hv
  obtain ⟨rfl, hR, hF⟩ := hv
  have hx := BB.exec
  have hb := BB.bytes
  have hr := BB.returns
  have hts := atoms_spec (ws := wsX4_ordersDecided) BB.pre
  have hown : s.vm.findClass RX4 = some m.cls := findClass_of_methodNamed BB.named
  have hlocks := BB.notSynchronized
  have hrc : 0 + 0 ≤ (headSpec wsX4_ordersDecided ({ frames := 3, cells := 0, slots := 0, locals := 66 })).room.cells := Nat.le_refl _
  have hrs : 0 + 0 ≤ (headSpec wsX4_ordersDecided ({ frames := 3, cells := 0, slots := 0, locals := 66 })).room.slots := Nat.le_refl _
  have hP := hR.1
  have hK := hR.2.1
  have hN := hR.2.2
  obtain ⟨hk7, ho1, ho5, hi6, hl200, hnx, hkn⟩ := id hc
  refine wk_enter (n := 7) (Nat.le_of_ble_eq_true rfl) (fun ls hl => ?_)
  have hl : lv_has ls 7 [(0, .ref (a 10)), (1, .int (nI t)), (2, .int v)] := hl
  refine lv_iconst (v := 1) hx hb dX4_ordersDecided_0 (by decide) ?_
  refine lv_iload_n hx hb dX4_ordersDecided_1 rfl (lv_at hl 1 rfl) ?_
  refine lv_ishl hx hb dX4_ordersDecided_2 ?_
  show W _ _ _ _ _ _ _ _ _ _ _ _ _ _ _ (F0 _ _ _ (.int (sh1 (nI t)) :: _))
  refine lv_istore_n (lv' := [(3, .int (sh1 (nI t))), (0, .ref (a 10)), (1, .int (nI t)), (2, .int v)]) hx hb dX4_ordersDecided_3 rfl hl (by decide) rfl (fun ls hl => ?_)
  refine lv_iload_n hx hb dX4_ordersDecided_4 rfl (lv_at hl 3 rfl) ?_
  refine lv_iload_n hx hb dX4_ordersDecided_5 rfl (lv_at hl 0 rfl) ?_
  refine lv_iconst (v := -1) hx hb dX4_ordersDecided_6 (by decide) ?_
  refine lv_ixor hx hb dX4_ordersDecided_7 ?_
  show W _ _ _ _ _ _ _ _ _ _ _ _ _ _ _ (F0 _ _ _ (.int (iv (sh1 (nI t))) :: _))
  refine lv_iand hx hb dX4_ordersDecided_8 ?_
  refine lv_istore (lv' := [(4, .int (v &&& (iv (sh1 (nI t))))), (3, .int (sh1 (nI t))), (0, .ref (a 10)), (1, .int (nI t)), (2, .int v)]) hx hb dX4_ordersDecided_9 hl (by decide) rfl (fun ls hl => ?_)
  refine lv_iload hx hb dX4_ordersDecided_11 (lv_at hl 0 rfl) ?_
  refine lv_iload_n hx hb dX4_ordersDecided_13 rfl (lv_at hl 4 rfl) ?_
  refine lv_icmp_ne (tgt := 19) hx hb dX4_ordersDecided_14 (by decide) (fun c14 => ?_) (fun c14 => ?_)
  · refine lv_iconst (v := 0) hx hb dX4_ordersDecided_19 (by decide) ?_
    refine lv_istore (lv' := [(5, .int 0), (4, .int (v &&& (iv (sh1 (nI t))))), (3, .int (sh1 (nI t))), (0, .ref (a 10)), (1, .int (nI t)), (2, .int v)]) hx hb dX4_ordersDecided_20 hl (by decide) rfl (fun ls hl => ?_)
    refine lv_iconst (v := 0) hx hb dX4_ordersDecided_22 (by decide) ?_
    refine lv_istore (lv' := [(6, .int 0), (5, .int 0), (4, .int (v &&& (iv (sh1 (nI t))))), (3, .int (sh1 (nI t))), (0, .ref (a 10)), (1, .int (nI t)), (2, .int v)]) hx hb dX4_ordersDecided_23 hl (by decide) rfl (fun ls hl => ?_)
    refine wk_loop (σ := Nat × Int32) (nL := 7) (fun xσ n => match xσ with | (i, z) => i + n = 128 ∧ z = pDecF (cK c) t v i) (fun xσ => match xσ with | (i, z) => [(6, .int (nI i)), (5, .int z), (4, .int (v &&& (iv (sh1 (nI t))))), (3, .int (sh1 (nI t))), (0, .ref (a 10)), (1, .int (nI t)), (2, .int v)]) (0, 0) 128 (⟨by omega, rfl⟩) hl ?_
    rintro n25 ⟨i, z⟩ ls hI25 hl ih25
    have hl : lv_has ls 7 [(6, .int (nI i)), (5, .int z), (4, .int (v &&& (iv (sh1 (nI t))))), (3, .int (sh1 (nI t))), (0, .ref (a 10)), (1, .int (nI t)), (2, .int v)] := hl
    obtain ⟨hi, hz⟩ := hI25
    refine lv_iload hx hb dX4_ordersDecided_25 (lv_at hl 0 rfl) ?_
    refine lv_sipush (v := 128) hx hb dX4_ordersDecided_27 (by decide) ?_
    refine wk_ge (x := i) (y := 128) (tgt := 98) hx hb (by omega) (by omega) dX4_ordersDecided_30 (by decide) (fun c30 => ?_) (fun c30 => ?_)
    · refine lv_iload hx hb dX4_ordersDecided_98 (lv_at hl 1 rfl) ?_
      exact wk_ret hx hb hr hlocks dX4_ordersDecided_100 (by rw [hz, show i = 128 by omega, pDec, if_neg c14])
    · refine lv_iload hx hb dX4_ordersDecided_33 (lv_at hl 0 rfl) ?_
      refine lv_iload hx hb dX4_ordersDecided_35 (lv_at hl 2 rfl) ?_
      refine wk_read (va_runSN (As := [.int (nI i), .int (v &&& (iv (sh1 (nI t))))]) (rest := []) ⟨hx, hb, hml, hown, hts⟩ (c_X7_isWithin l (nI i) (v &&& (iv (sh1 (nI t))))) ⟨va_cnB 2 hts gX4_ordersDecided_X7_isWithin_n37 rfl rfl rfl hN.2.2.1 (hts (.initialized RX7) (by decide +kernel)) hdS_X7_isWithin ⟨Nat.le_of_ble_eq_true rfl, Nat.le_of_ble_eq_true rfl⟩, hts (.static yX7_isWithin) (by decide +kernel), trivial⟩ preEq rfl rfl hl.1 rfl (lv_room (Nat.le_of_ble_eq_true rfl)) dX4_ordersDecided_37 ⟨hrc, hrs⟩) ?_
      refine lv_if_eq (tgt := 92) hx hb dX4_ordersDecided_40 (by decide) (fun c40 => ?_) (fun c40 => ?_)
      · have c40 := b2i_f c40
        refine lv_iinc (v := (nI (i + 1))) (lv' := [(6, .int (nI (i + 1))), (5, .int z), (4, .int (v &&& (iv (sh1 (nI t))))), (3, .int (sh1 (nI t))), (0, .ref (a 10)), (1, .int (nI t)), (2, .int v)]) hx hb dX4_ordersDecided_92 hl (k := 0) rfl (wk_i1 i) (by decide) rfl (fun ls hl => ?_)
        refine lv_goto (tgt := 25) hx hb dX4_ordersDecided_95 (by decide) ?_
        exact ih25 (i + 1, z) (n25 - 1) ls (by omega) (⟨by omega, by rw [hz]; simp [pDecF, fo_s, c14, c30, c40]⟩) (lv_sub hl [0, 1, 2, 3, 4, 5, 6] rfl)
      · have c40 := b2i_t c40
        refine lv_aload_n hx hb dX4_ordersDecided_43 rfl (lv_at hl 4 rfl) ?_
        refine lv_iload hx hb dX4_ordersDecided_44 (lv_at hl 0 rfl) ?_
        refine lv_iload_n hx hb dX4_ordersDecided_46 rfl (lv_at hl 6 rfl) ?_
        refine wk_read (va_runV (As := [.int (nI i), .int v]) (rest := []) ⟨hx, hb, hml, hown, hts⟩ (c_X4_carries l G a c hc (nI i) v) (cwV 2 hts gX4_ordersDecided_X4_carries rfl rfl rfl hdV_X4_carries ⟨Nat.le_of_ble_eq_true rfl, Nat.le_of_ble_eq_true rfl⟩) (hR.pre (ci := 4) (q0 := 10) rfl rfl) rfl rfl hl.1 rfl (lv_room (Nat.le_of_ble_eq_true rfl)) dX4_ordersDecided_47 ⟨hrc, hrs⟩) ?_
        refine lv_if_ne (tgt := 92) hx hb dX4_ordersDecided_50 (by decide) (fun c50 => ?_) (fun c50 => ?_)
        · have c50 := b2i_t c50
          refine lv_iinc (v := (nI (i + 1))) (lv' := [(6, .int (nI (i + 1))), (5, .int z), (4, .int (v &&& (iv (sh1 (nI t))))), (3, .int (sh1 (nI t))), (0, .ref (a 10)), (1, .int (nI t)), (2, .int v)]) hx hb dX4_ordersDecided_92 hl (k := 0) rfl (wk_i1 i) (by decide) rfl (fun ls hl => ?_)
          refine lv_goto (tgt := 25) hx hb dX4_ordersDecided_95 (by decide) ?_
          exact ih25 (i + 1, z) (n25 - 1) ls (by omega) (⟨by omega, by rw [hz]; simp [pDecF, fo_s, c14, c30, c40, c50]⟩) (lv_sub hl [0, 1, 2, 3, 4, 5, 6] rfl)
        · have c50 := b2i_f c50
          refine lv_aload_n hx hb dX4_ordersDecided_53 rfl (lv_at hl 4 rfl) ?_
          refine lv_iload hx hb dX4_ordersDecided_54 (lv_at hl 0 rfl) ?_
          refine lv_iload_n hx hb dX4_ordersDecided_56 rfl (lv_at hl 3 rfl) ?_
          refine lv_ior hx hb dX4_ordersDecided_57 ?_
          refine lv_iload_n hx hb dX4_ordersDecided_58 rfl (lv_at hl 6 rfl) ?_
          refine wk_read (va_runV (As := [.int ((nI i) ||| (sh1 (nI t))), .int v]) (rest := []) ⟨hx, hb, hml, hown, hts⟩ (c_X4_carries l G a c hc ((nI i) ||| (sh1 (nI t))) v) (cwV 2 hts gX4_ordersDecided_X4_carries rfl rfl rfl hdV_X4_carries ⟨Nat.le_of_ble_eq_true rfl, Nat.le_of_ble_eq_true rfl⟩) (hR.pre (ci := 4) (q0 := 10) rfl rfl) rfl rfl hl.1 rfl (lv_room (Nat.le_of_ble_eq_true rfl)) dX4_ordersDecided_59 ⟨hrc, hrs⟩) ?_
          refine lv_if_eq (tgt := 92) hx hb dX4_ordersDecided_62 (by decide) (fun c62 => ?_) (fun c62 => ?_)
          · have c62 := b2i_f c62
            refine lv_iinc (v := (nI (i + 1))) (lv' := [(6, .int (nI (i + 1))), (5, .int z), (4, .int (v &&& (iv (sh1 (nI t))))), (3, .int (sh1 (nI t))), (0, .ref (a 10)), (1, .int (nI t)), (2, .int v)]) hx hb dX4_ordersDecided_92 hl (k := 0) rfl (wk_i1 i) (by decide) rfl (fun ls hl => ?_)
            refine lv_goto (tgt := 25) hx hb dX4_ordersDecided_95 (by decide) ?_
            exact ih25 (i + 1, z) (n25 - 1) ls (by omega) (⟨by omega, by rw [hz]; simp [pDecF, fo_s, c14, c30, c40, c50, c62]⟩) (lv_sub hl [0, 1, 2, 3, 4, 5, 6] rfl)
          · have c62 := b2i_t c62
            refine lv_iload hx hb dX4_ordersDecided_65 (lv_at hl 1 rfl) ?_
            refine lv_iload hx hb dX4_ordersDecided_67 (lv_at hl 0 rfl) ?_
            refine wk_read (va_runS (As := [.int (nI i)]) (rest := [.int z]) ⟨hx, hb, hml, hown, hts⟩ (c_J6_bitCount_0f7a4 l (nI i)) (va_cwS 1 hts gX4_ordersDecided_J6_bitCount_0f7a4 rfl rfl rfl hdS_J6_bitCount_0f7a4 ⟨Nat.le_of_ble_eq_true rfl, Nat.le_of_ble_eq_true rfl⟩) preEq rfl rfl hl.1 rfl (lv_room (Nat.le_of_ble_eq_true rfl)) dX4_ordersDecided_69 ⟨hrc, hrs⟩) ?_
            refine wk_read (va_runS (As := [.int (pPop (nI i))]) (rest := [.int z]) ⟨hx, hb, hml, hown, hts⟩ (c_X4_ordersOf l G a c hc (pPop (nI i))) (va_cwS 1 hts gX4_ordersDecided_X4_ordersOf rfl rfl rfl hdS_X4_ordersOf ⟨Nat.le_of_ble_eq_true rfl, Nat.le_of_ble_eq_true rfl⟩) (PreF.preS ⟨hR, hF⟩) rfl rfl hl.1 rfl (lv_room (Nat.le_of_ble_eq_true rfl)) dX4_ordersDecided_72 ⟨hrc, hrs⟩) ?_
            refine lv_iload hx hb dX4_ordersDecided_75 (lv_at hl 2 rfl) ?_
            refine lv_iload hx hb dX4_ordersDecided_77 (lv_at hl 0 rfl) ?_
            refine lv_iconst (v := -1) hx hb dX4_ordersDecided_79 (by decide) ?_
            refine lv_ixor hx hb dX4_ordersDecided_80 ?_
            show W _ _ _ _ _ _ _ _ _ _ _ _ _ _ _ (F0 _ _ _ (.int (iv (nI i)) :: _))
            refine lv_iand hx hb dX4_ordersDecided_81 ?_
            refine wk_read (va_runS (As := [.int ((v &&& (iv (sh1 (nI t)))) &&& (iv (nI i)))]) (rest := [.int (pOrd (pPop (nI i))), .int z]) ⟨hx, hb, hml, hown, hts⟩ (c_J6_bitCount_0f7a4 l ((v &&& (iv (sh1 (nI t)))) &&& (iv (nI i)))) (va_cwS 1 hts gX4_ordersDecided_J6_bitCount_0f7a4 rfl rfl rfl hdS_J6_bitCount_0f7a4 ⟨Nat.le_of_ble_eq_true rfl, Nat.le_of_ble_eq_true rfl⟩) preEq rfl rfl hl.1 rfl (lv_room (Nat.le_of_ble_eq_true rfl)) dX4_ordersDecided_82 ⟨hrc, hrs⟩) ?_
            refine wk_read (va_runS (As := [.int (pPop ((v &&& (iv (sh1 (nI t)))) &&& (iv (nI i))))]) (rest := [.int (pOrd (pPop (nI i))), .int z]) ⟨hx, hb, hml, hown, hts⟩ (c_X4_ordersOf l G a c hc (pPop ((v &&& (iv (sh1 (nI t)))) &&& (iv (nI i))))) (va_cwS 1 hts gX4_ordersDecided_X4_ordersOf rfl rfl rfl hdS_X4_ordersOf ⟨Nat.le_of_ble_eq_true rfl, Nat.le_of_ble_eq_true rfl⟩) (PreF.preS ⟨hR, hF⟩) rfl rfl hl.1 rfl (lv_room (Nat.le_of_ble_eq_true rfl)) dX4_ordersDecided_85 ⟨hrc, hrs⟩) ?_
            refine lv_imul hx hb dX4_ordersDecided_88 ?_
            refine lv_iadd hx hb dX4_ordersDecided_89 ?_
            refine lv_istore (lv' := [(5, .int (z + ((pOrd (pPop (nI i))) * (pOrd (pPop ((v &&& (iv (sh1 (nI t)))) &&& (iv (nI i)))))))), (6, .int (nI i)), (4, .int (v &&& (iv (sh1 (nI t))))), (3, .int (sh1 (nI t))), (0, .ref (a 10)), (1, .int (nI t)), (2, .int v)]) hx hb dX4_ordersDecided_90 hl (by decide) rfl (fun ls hl => ?_)
            refine lv_iinc (v := (nI (i + 1))) (lv' := [(6, .int (nI (i + 1))), (5, .int (z + ((pOrd (pPop (nI i))) * (pOrd (pPop ((v &&& (iv (sh1 (nI t)))) &&& (iv (nI i)))))))), (4, .int (v &&& (iv (sh1 (nI t))))), (3, .int (sh1 (nI t))), (0, .ref (a 10)), (1, .int (nI t)), (2, .int v)]) hx hb dX4_ordersDecided_92 hl (k := 1) rfl (wk_i1 i) (by decide) rfl (fun ls hl => ?_)
            refine lv_goto (tgt := 25) hx hb dX4_ordersDecided_95 (by decide) ?_
            exact ih25 (i + 1, (z + ((pOrd (pPop (nI i))) * (pOrd (pPop ((v &&& (iv (sh1 (nI t)))) &&& (iv (nI i)))))))) (n25 - 1) ls (by omega) (⟨by omega, by rw [hz]; simp [pDecF, fo_s, c14, c30, c40, c50, c62]⟩) (lv_sub hl [0, 1, 2, 3, 4, 5, 6] rfl)
  · refine lv_iconst (v := 0) hx hb dX4_ordersDecided_17 (by decide) ?_
    exact wk_ret hx hb hr hlocks dX4_ordersDecided_18 (by rw [pDec, if_pos c14])
theorem hdV_X4_powerless : yX4_powerless.cls = RX4 ∧ yX4_powerless.cls ≠ "java/lang/invoke/MethodHandle" ∧ yX4_powerless.cls ≠ "java/lang/invoke/VarHandle" ∧ (parseMethodDescriptor yX4_powerless.desc).map (fun d => d.parameters.length) = some 0 := by decide +kernel
set_option maxHeartbeats 4000000 in
set_option maxRecDepth 100000 in
theorem c_X4_powerless (l : Launch) (G : GG) (a : Nat → Nat) (c : CX) (hc : OkR c) : Met l yX4_powerless wsX4_powerless ({ frames := 4, cells := 0, slots := 0, locals := 92 }) (va_Pc [.ref (a 10)] (fun U => PreF G (WR G a c) U U.heap)) (QcRead (pLess (cK c) (cM c))) 0 0 (fun _ => False) := by
  refine Met.ofW (cc := cX4_powerless) (maxL := 4) (ret := (some .int)) (by decide) rfl ?_
  intro p e s m args below meth cd s₁ BB hml hv
  obtain ⟨rfl, hR, hF⟩ := hv
  have hx := BB.exec
  have hb := BB.bytes
  have hr := BB.returns
  have hts := atoms_spec (ws := wsX4_powerless) BB.pre
  have hown : s.vm.findClass RX4 = some m.cls := findClass_of_methodNamed BB.named
  have hlocks := BB.notSynchronized
  have hrc : 0 + 0 ≤ (headSpec wsX4_powerless ({ frames := 4, cells := 0, slots := 0, locals := 92 })).room.cells := Nat.le_refl _
  have hrs : 0 + 0 ≤ (headSpec wsX4_powerless ({ frames := 4, cells := 0, slots := 0, locals := 92 })).room.slots := Nat.le_refl _
  have hP := hR.1
  have hK := hR.2.1
  have hN := hR.2.2
  obtain ⟨hk7, ho1, ho5, hi6, hl200, hnx, hkn⟩ := id hc
  have hin4 : ∀ w ∈ u_ws RX4 TX4 1, w ∈ wsX4_powerless := by decide +kernel
  have hf9 := hts (.fieldLink RX4 9 "RegaliaVotes$Power" "vote" "LRegaliaVotes$Vote;") (by decide +kernel)
  refine wk_enter (n := 4) (Nat.le_of_ble_eq_true rfl) (fun ls hl => ?_)
  have hl : lv_has ls 4 [(0, .ref (a 10))] := hl
  refine lv_aload_n hx hb dX4_powerless_0 rfl (lv_at hl 0 rfl) ?_
  refine va_get (D := G.1) (v := .ref (a 9)) hx hb hts hin4 hown hK hP 10 rfl rfl 0 (by decide) hf9 (fun _ h => h) rfl dX4_powerless_1 ?_
  refine wk_read (va_runV (As := []) (rest := []) ⟨hx, hb, hml, hown, hts⟩ (c_X6_voices l G a c hc) (cwV 0 hts gX4_powerless_X6_voices rfl rfl rfl hdV_X6_voices ⟨Nat.le_of_ble_eq_true rfl, Nat.le_of_ble_eq_true rfl⟩) (hR.pre (ci := 6) (q0 := 9) rfl rfl) rfl rfl hl.1 rfl (lv_room (Nat.le_of_ble_eq_true rfl)) dX4_powerless_4 ⟨hrc, hrs⟩) ?_
  refine lv_istore_n (lv' := [(1, .int (pVoices (cK c) (cM c))), (0, .ref (a 10))]) hx hb dX4_powerless_7 rfl hl (by decide) rfl (fun ls hl => ?_)
  refine lv_iconst (v := 0) hx hb dX4_powerless_8 (by decide) ?_
  refine lv_istore_n (lv' := [(2, .int 0), (1, .int (pVoices (cK c) (cM c))), (0, .ref (a 10))]) hx hb dX4_powerless_9 rfl hl (by decide) rfl (fun ls hl => ?_)
  refine lv_iconst (v := 0) hx hb dX4_powerless_10 (by decide) ?_
  refine lv_istore_n (lv' := [(3, .int 0), (2, .int 0), (1, .int (pVoices (cK c) (cM c))), (0, .ref (a 10))]) hx hb dX4_powerless_11 rfl hl (by decide) rfl (fun ls hl => ?_)
  refine wk_loop (σ := Nat × Int32) (nL := 4) (fun xσ n => match xσ with | (i, z) => i + n = 7 ∧ z = pLessF (cK c) (cM c) i) (fun xσ => match xσ with | (i, z) => [(3, .int (nI i)), (2, .int z), (1, .int (pVoices (cK c) (cM c))), (0, .ref (a 10))]) (0, 0) 7 (⟨by omega, rfl⟩) hl ?_
  rintro n12 ⟨i, z⟩ ls hI12 hl ih12
  have hl : lv_has ls 4 [(3, .int (nI i)), (2, .int z), (1, .int (pVoices (cK c) (cM c))), (0, .ref (a 10))] := hl
  obtain ⟨hi, hz⟩ := hI12
  refine lv_iload_n hx hb dX4_powerless_12 rfl (lv_at hl 0 rfl) ?_
  refine lv_bipush (v := 7) hx hb dX4_powerless_13 (by decide) ?_
  refine wk_ge (x := i) (y := 7) (tgt := 48) hx hb (by omega) (by omega) dX4_powerless_15 (by decide) (fun c15 => ?_) (fun c15 => ?_)
  · refine lv_iload_n hx hb dX4_powerless_48 rfl (lv_at hl 1 rfl) ?_
    exact wk_ret hx hb hr hlocks dX4_powerless_49 (by rw [hz, show i = 7 by omega]; rfl)
  · refine lv_iload_n hx hb dX4_powerless_18 rfl (lv_at hl 2 rfl) ?_
    refine lv_iload_n hx hb dX4_powerless_19 rfl (lv_at hl 0 rfl) ?_
    refine wk_read (va_runSN (As := [.int (pVoices (cK c) (cM c)), .int (nI i)]) (rest := []) ⟨hx, hb, hml, hown, hts⟩ (c_X7_bit l (pVoices (cK c) (cM c)) (nI i)) ⟨va_cnB 2 hts gX4_powerless_X7_bit_n44 rfl rfl rfl hN.2.2.2.1 (hts (.initialized RX7) (by decide +kernel)) hdS_X7_bit ⟨Nat.le_of_ble_eq_true rfl, Nat.le_of_ble_eq_true rfl⟩, hts (.static yX7_bit) (by decide +kernel), trivial⟩ preEq rfl rfl hl.1 rfl (lv_room (Nat.le_of_ble_eq_true rfl)) dX4_powerless_20 ⟨hrc, hrs⟩) ?_
    refine lv_iconst (v := 1) hx hb dX4_powerless_23 (by decide) ?_
    refine lv_icmp_ne (tgt := 42) hx hb dX4_powerless_24 (by decide) (fun c24 => ?_) (fun c24 => ?_)
    · refine lv_iinc (v := (nI (i + 1))) (lv' := [(3, .int (nI (i + 1))), (2, .int z), (1, .int (pVoices (cK c) (cM c))), (0, .ref (a 10))]) hx hb dX4_powerless_42 hl (k := 0) rfl (wk_i1 i) (by decide) rfl (fun ls hl => ?_)
      refine lv_goto (tgt := 12) hx hb dX4_powerless_45 (by decide) ?_
      exact ih12 (i + 1, z) (n12 - 1) ls (by omega) (⟨by omega, by rw [hz]; simp [pLessF, fo_s, c15, c24]⟩) (lv_sub hl [0, 1, 2, 3] rfl)
    · refine lv_aload_n hx hb dX4_powerless_27 rfl (lv_at hl 3 rfl) ?_
      refine lv_iload_n hx hb dX4_powerless_28 rfl (lv_at hl 0 rfl) ?_
      refine lv_iload_n hx hb dX4_powerless_29 rfl (lv_at hl 2 rfl) ?_
      refine wk_read (va_runV (As := [.int (nI i), .int (pVoices (cK c) (cM c))]) (rest := []) ⟨hx, hb, hml, hown, hts⟩ (c_X4_ordersDecided l G a c hc i (pVoices (cK c) (cM c))) (cwV 2 hts gX4_powerless_X4_ordersDecided rfl rfl rfl hdV_X4_ordersDecided ⟨Nat.le_of_ble_eq_true rfl, Nat.le_of_ble_eq_true rfl⟩) (PreF.pre ⟨hR, hF⟩ (ci := 4) (q0 := 10) rfl rfl) rfl rfl hl.1 rfl (lv_room (Nat.le_of_ble_eq_true rfl)) dX4_powerless_30 ⟨hrc, hrs⟩) ?_
      refine lv_if_ne (tgt := 42) hx hb dX4_powerless_33 (by decide) (fun c33 => ?_) (fun c33 => ?_)
      · refine lv_iinc (v := (nI (i + 1))) (lv' := [(3, .int (nI (i + 1))), (2, .int z), (1, .int (pVoices (cK c) (cM c))), (0, .ref (a 10))]) hx hb dX4_powerless_42 hl (k := 0) rfl (wk_i1 i) (by decide) rfl (fun ls hl => ?_)
        refine lv_goto (tgt := 12) hx hb dX4_powerless_45 (by decide) ?_
        exact ih12 (i + 1, z) (n12 - 1) ls (by omega) (⟨by omega, by rw [hz]; simp [pLessF, fo_s, c15, c24, c33]⟩) (lv_sub hl [0, 1, 2, 3] rfl)
      · refine lv_iload_n hx hb dX4_powerless_36 rfl (lv_at hl 1 rfl) ?_
        refine lv_iconst (v := 1) hx hb dX4_powerless_37 (by decide) ?_
        refine lv_iload_n hx hb dX4_powerless_38 rfl (lv_at hl 0 rfl) ?_
        refine lv_ishl hx hb dX4_powerless_39 ?_
        show W _ _ _ _ _ _ _ _ _ _ _ _ _ _ _ (F0 _ _ _ (.int (sh1 (nI i)) :: _))
        refine lv_ior hx hb dX4_powerless_40 ?_
        refine lv_istore_n (lv' := [(2, .int (z ||| (sh1 (nI i)))), (3, .int (nI i)), (1, .int (pVoices (cK c) (cM c))), (0, .ref (a 10))]) hx hb dX4_powerless_41 rfl hl (by decide) rfl (fun ls hl => ?_)
        refine lv_iinc (v := (nI (i + 1))) (lv' := [(3, .int (nI (i + 1))), (2, .int (z ||| (sh1 (nI i)))), (1, .int (pVoices (cK c) (cM c))), (0, .ref (a 10))]) hx hb dX4_powerless_42 hl (k := 1) rfl (wk_i1 i) (by decide) rfl (fun ls hl => ?_)
        refine lv_goto (tgt := 12) hx hb dX4_powerless_45 (by decide) ?_
        exact ih12 (i + 1, (z ||| (sh1 (nI i)))) (n12 - 1) ls (by omega) (⟨by omega, by rw [hz]; simp [pLessF, fo_s, c15, c24, c33]⟩) (lv_sub hl [0, 1, 2, 3] rfl)
theorem hdV_X4_isLeast : yX4_isLeast.cls = RX4 ∧ yX4_isLeast.cls ≠ "java/lang/invoke/MethodHandle" ∧ yX4_isLeast.cls ≠ "java/lang/invoke/VarHandle" ∧ (parseMethodDescriptor yX4_isLeast.desc).map (fun d => d.parameters.length) = some 2 := by decide +kernel
set_option maxHeartbeats 4000000 in
set_option maxRecDepth 100000 in
theorem c_X4_isLeast (l : Launch) (G : GG) (a : Nat → Nat) (c : CX) (hc : OkR c) (set : Int32) (v : Int32) : Met l yX4_isLeast wsX4_isLeast ({ frames := 3, cells := 0, slots := 0, locals := 66 }) (va_Pc [.ref (a 10), .int set, .int v] (fun U => PreW G (WR G a c) U U.heap)) (QcRead (b2i (pLea (cK c) set v))) 0 0 (fun _ => False) := by
  refine Met.ofW (cc := cX4_isLeast) (maxL := 4) (ret := (some .boolean)) (by decide) rfl ?_
  intro p e s m args below meth cd s₁ BB hml hv
  obtain ⟨rfl, hR⟩ := hv
  have hx := BB.exec
  have hb := BB.bytes
  have hr := BB.returns
  have hts := atoms_spec (ws := wsX4_isLeast) BB.pre
  have hown : s.vm.findClass RX4 = some m.cls := findClass_of_methodNamed BB.named
  have hlocks := BB.notSynchronized
  have hrc : 0 + 0 ≤ (headSpec wsX4_isLeast ({ frames := 3, cells := 0, slots := 0, locals := 66 })).room.cells := Nat.le_refl _
  have hrs : 0 + 0 ≤ (headSpec wsX4_isLeast ({ frames := 3, cells := 0, slots := 0, locals := 66 })).room.slots := Nat.le_refl _
  have hP := hR.1
  have hK := hR.2.1
  have hN := hR.2.2
  obtain ⟨hk7, ho1, ho5, hi6, hl200, hnx, hkn⟩ := id hc
  refine wk_enter (n := 4) (Nat.le_of_ble_eq_true rfl) (fun ls hl => ?_)
  have hl : lv_has ls 4 [(0, .ref (a 10)), (1, .int set), (2, .int v)] := hl
  refine lv_iload_n hx hb dX4_isLeast_0 rfl (lv_at hl 1 rfl) ?_
  refine lv_iload_n hx hb dX4_isLeast_1 rfl (lv_at hl 2 rfl) ?_
  refine wk_read (va_runSN (As := [.int set, .int v]) (rest := []) ⟨hx, hb, hml, hown, hts⟩ (c_X7_isWithin l set v) ⟨va_cnB 2 hts gX4_isLeast_X7_isWithin_n37 rfl rfl rfl hN.2.2.1 (hts (.initialized RX7) (by decide +kernel)) hdS_X7_isWithin ⟨Nat.le_of_ble_eq_true rfl, Nat.le_of_ble_eq_true rfl⟩, hts (.static yX7_isWithin) (by decide +kernel), trivial⟩ preEq rfl rfl hl.1 rfl (lv_room (Nat.le_of_ble_eq_true rfl)) dX4_isLeast_2 ⟨hrc, hrs⟩) ?_
  refine lv_if_eq (tgt := 17) hx hb dX4_isLeast_5 (by decide) (fun c5 => ?_) (fun c5 => ?_)
  · have c5 := b2i_f c5
    refine lv_iconst (v := 0) hx hb dX4_isLeast_17 (by decide) ?_
    exact wk_zret hx hb hr hlocks dX4_isLeast_18 (by rfl) (by simp [b2i, pLea, c5])
  · have c5 := b2i_t c5
    refine lv_aload_n hx hb dX4_isLeast_8 rfl (lv_at hl 0 rfl) ?_
    refine lv_iload_n hx hb dX4_isLeast_9 rfl (lv_at hl 1 rfl) ?_
    refine lv_iload_n hx hb dX4_isLeast_10 rfl (lv_at hl 2 rfl) ?_
    refine wk_read (va_runV (As := [.int set, .int v]) (rest := []) ⟨hx, hb, hml, hown, hts⟩ (c_X4_carries l G a c hc set v) (cwV 2 hts gX4_isLeast_X4_carries rfl rfl rfl hdV_X4_carries ⟨Nat.le_of_ble_eq_true rfl, Nat.le_of_ble_eq_true rfl⟩) (hR.pre (ci := 4) (q0 := 10) rfl rfl) rfl rfl hl.1 rfl (lv_room (Nat.le_of_ble_eq_true rfl)) dX4_isLeast_11 ⟨hrc, hrs⟩) ?_
    refine lv_if_ne (tgt := 19) hx hb dX4_isLeast_14 (by decide) (fun c14 => ?_) (fun c14 => ?_)
    · have c14 := b2i_t c14
      refine lv_iconst (v := 0) hx hb dX4_isLeast_19 (by decide) ?_
      refine lv_istore_n (lv' := [(3, .int 0), (0, .ref (a 10)), (1, .int set), (2, .int v)]) hx hb dX4_isLeast_20 rfl hl (by decide) rfl (fun ls hl => ?_)
      refine wk_loop (σ := Nat) (nL := 4) (fun xσ n => match xσ with | i => i + n = 7 ∧ allB (pLeaB (cK c) set v) i = true) (fun xσ => match xσ with | i => [(3, .int (nI i)), (0, .ref (a 10)), (1, .int set), (2, .int v)]) 0 7 (⟨by omega, rfl⟩) hl ?_
      rintro n21 i ls hI21 hl ih21
      have hl : lv_has ls 4 [(3, .int (nI i)), (0, .ref (a 10)), (1, .int set), (2, .int v)] := hl
      obtain ⟨hi, hz⟩ := hI21
      refine lv_iload_n hx hb dX4_isLeast_21 rfl (lv_at hl 0 rfl) ?_
      refine lv_bipush (v := 7) hx hb dX4_isLeast_22 (by decide) ?_
      refine wk_ge (x := i) (y := 7) (tgt := 59) hx hb (by omega) (by omega) dX4_isLeast_24 (by decide) (fun c24 => ?_) (fun c24 => ?_)
      · refine lv_iconst (v := 1) hx hb dX4_isLeast_59 (by decide) ?_
        exact wk_zret hx hb hr hlocks dX4_isLeast_60 (by rfl) (by rw [pLea, c5, c14, show 7 = i by omega, hz]; rfl)
      · refine lv_iload_n hx hb dX4_isLeast_27 rfl (lv_at hl 2 rfl) ?_
        refine lv_iload_n hx hb dX4_isLeast_28 rfl (lv_at hl 0 rfl) ?_
        refine wk_read (va_runSN (As := [.int set, .int (nI i)]) (rest := []) ⟨hx, hb, hml, hown, hts⟩ (c_X7_bit l set (nI i)) ⟨va_cnB 2 hts gX4_isLeast_X7_bit_n44 rfl rfl rfl hN.2.2.2.1 (hts (.initialized RX7) (by decide +kernel)) hdS_X7_bit ⟨Nat.le_of_ble_eq_true rfl, Nat.le_of_ble_eq_true rfl⟩, hts (.static yX7_bit) (by decide +kernel), trivial⟩ preEq rfl rfl hl.1 rfl (lv_room (Nat.le_of_ble_eq_true rfl)) dX4_isLeast_29 ⟨hrc, hrs⟩) ?_
        refine lv_iconst (v := 1) hx hb dX4_isLeast_32 (by decide) ?_
        refine lv_icmp_ne (tgt := 53) hx hb dX4_isLeast_33 (by decide) (fun c33 => ?_) (fun c33 => ?_)
        · refine lv_iinc (v := (nI (i + 1))) (lv' := [(3, .int (nI (i + 1))), (0, .ref (a 10)), (1, .int set), (2, .int v)]) hx hb dX4_isLeast_53 hl (k := 0) rfl (wk_i1 i) (by decide) rfl (fun ls hl => ?_)
          refine lv_goto (tgt := 21) hx hb dX4_isLeast_56 (by decide) ?_
          exact ih21 (i + 1) (n21 - 1) ls (by omega) (⟨by omega, by rw [allB, hz]; simp [pLeaB, c33]⟩) (lv_sub hl [0, 1, 2, 3] rfl)
        · refine lv_aload_n hx hb dX4_isLeast_36 rfl (lv_at hl 1 rfl) ?_
          refine lv_iload_n hx hb dX4_isLeast_37 rfl (lv_at hl 2 rfl) ?_
          refine lv_iconst (v := 1) hx hb dX4_isLeast_38 (by decide) ?_
          refine lv_iload_n hx hb dX4_isLeast_39 rfl (lv_at hl 0 rfl) ?_
          refine lv_ishl hx hb dX4_isLeast_40 ?_
          show W _ _ _ _ _ _ _ _ _ _ _ _ _ _ _ (F0 _ _ _ (.int (sh1 (nI i)) :: _))
          refine lv_iconst (v := -1) hx hb dX4_isLeast_41 (by decide) ?_
          refine lv_ixor hx hb dX4_isLeast_42 ?_
          show W _ _ _ _ _ _ _ _ _ _ _ _ _ _ _ (F0 _ _ _ (.int (iv (sh1 (nI i))) :: _))
          refine lv_iand hx hb dX4_isLeast_43 ?_
          refine lv_iload_n hx hb dX4_isLeast_44 rfl (lv_at hl 3 rfl) ?_
          refine wk_read (va_runV (As := [.int (set &&& (iv (sh1 (nI i)))), .int v]) (rest := []) ⟨hx, hb, hml, hown, hts⟩ (c_X4_carries l G a c hc (set &&& (iv (sh1 (nI i)))) v) (cwV 2 hts gX4_isLeast_X4_carries rfl rfl rfl hdV_X4_carries ⟨Nat.le_of_ble_eq_true rfl, Nat.le_of_ble_eq_true rfl⟩) (hR.pre (ci := 4) (q0 := 10) rfl rfl) rfl rfl hl.1 rfl (lv_room (Nat.le_of_ble_eq_true rfl)) dX4_isLeast_45 ⟨hrc, hrs⟩) ?_
          refine lv_if_eq (tgt := 53) hx hb dX4_isLeast_48 (by decide) (fun c48 => ?_) (fun c48 => ?_)
          · have c48 := b2i_f c48
            refine lv_iinc (v := (nI (i + 1))) (lv' := [(3, .int (nI (i + 1))), (0, .ref (a 10)), (1, .int set), (2, .int v)]) hx hb dX4_isLeast_53 hl (k := 0) rfl (wk_i1 i) (by decide) rfl (fun ls hl => ?_)
            refine lv_goto (tgt := 21) hx hb dX4_isLeast_56 (by decide) ?_
            exact ih21 (i + 1) (n21 - 1) ls (by omega) (⟨by omega, by rw [allB, hz]; simp [pLeaB, c33, c48]⟩) (lv_sub hl [0, 1, 2, 3] rfl)
          · have c48 := b2i_t c48
            refine lv_iconst (v := 0) hx hb dX4_isLeast_51 (by decide) ?_
            exact wk_zret hx hb hr hlocks dX4_isLeast_52 (by rfl) (by rw [pLea, allB_no (i := i) (by omega) (by simp [pLeaB, c33, c48]), Bool.and_false]; rfl)
    · have c14 := b2i_f c14
      refine lv_iconst (v := 0) hx hb dX4_isLeast_17 (by decide) ?_
      exact wk_zret hx hb hr hlocks dX4_isLeast_18 (by rfl) (by simp [b2i, pLea, c5, c14])
theorem hdV_X4_leastSets : yX4_leastSets.cls = RX4 ∧ yX4_leastSets.cls ≠ "java/lang/invoke/MethodHandle" ∧ yX4_leastSets.cls ≠ "java/lang/invoke/VarHandle" ∧ (parseMethodDescriptor yX4_leastSets.desc).map (fun d => d.parameters.length) = some 0 := by decide +kernel
set_option maxHeartbeats 4000000 in
set_option maxRecDepth 100000 in
theorem c_X4_leastSets (l : Launch) (G : GG) (a : Nat → Nat) (c : CX) (hc : OkR c) : Met l yX4_leastSets wsX4_leastSets ({ frames := 4, cells := 0, slots := 0, locals := 89 }) (va_Pc [.ref (a 10)] (fun U => PreW G (WR G a c) U U.heap)) (QcRead (pLeaN (cK c) (cM c))) 0 0 (fun _ => False) := by
  refine Met.ofW (cc := cX4_leastSets) (maxL := 4) (ret := (some .int)) (by decide) rfl ?_
  intro p e s m args below meth cd s₁ BB hml hv
  obtain ⟨rfl, hR⟩ := hv
  have hx := BB.exec
  have hb := BB.bytes
  have hr := BB.returns
  have hts := atoms_spec (ws := wsX4_leastSets) BB.pre
  have hown : s.vm.findClass RX4 = some m.cls := findClass_of_methodNamed BB.named
  have hlocks := BB.notSynchronized
  have hrc : 0 + 0 ≤ (headSpec wsX4_leastSets ({ frames := 4, cells := 0, slots := 0, locals := 89 })).room.cells := Nat.le_refl _
  have hrs : 0 + 0 ≤ (headSpec wsX4_leastSets ({ frames := 4, cells := 0, slots := 0, locals := 89 })).room.slots := Nat.le_refl _
  have hP := hR.1
  have hK := hR.2.1
  have hN := hR.2.2
  obtain ⟨hk7, ho1, ho5, hi6, hl200, hnx, hkn⟩ := id hc
  have hin4 : ∀ w ∈ u_ws RX4 TX4 1, w ∈ wsX4_leastSets := by decide +kernel
  have hf9 := hts (.fieldLink RX4 9 "RegaliaVotes$Power" "vote" "LRegaliaVotes$Vote;") (by decide +kernel)
  refine wk_enter (n := 4) (Nat.le_of_ble_eq_true rfl) (fun ls hl => ?_)
  have hl : lv_has ls 4 [(0, .ref (a 10))] := hl
  refine lv_aload_n hx hb dX4_leastSets_0 rfl (lv_at hl 0 rfl) ?_
  refine va_get (D := G.1) (v := .ref (a 9)) hx hb hts hin4 hown hK hP 10 rfl rfl 0 (by decide) hf9 (fun _ h => h) rfl dX4_leastSets_1 ?_
  refine wk_read (va_runV (As := []) (rest := []) ⟨hx, hb, hml, hown, hts⟩ (c_X6_voices l G a c hc) (cwV 0 hts gX4_leastSets_X6_voices rfl rfl rfl hdV_X6_voices ⟨Nat.le_of_ble_eq_true rfl, Nat.le_of_ble_eq_true rfl⟩) (hR.pre (ci := 6) (q0 := 9) rfl rfl) rfl rfl hl.1 rfl (lv_room (Nat.le_of_ble_eq_true rfl)) dX4_leastSets_4 ⟨hrc, hrs⟩) ?_
  refine lv_istore_n (lv' := [(1, .int (pVoices (cK c) (cM c))), (0, .ref (a 10))]) hx hb dX4_leastSets_7 rfl hl (by decide) rfl (fun ls hl => ?_)
  refine lv_iconst (v := 0) hx hb dX4_leastSets_8 (by decide) ?_
  refine lv_istore_n (lv' := [(2, .int 0), (1, .int (pVoices (cK c) (cM c))), (0, .ref (a 10))]) hx hb dX4_leastSets_9 rfl hl (by decide) rfl (fun ls hl => ?_)
  refine lv_iconst (v := 0) hx hb dX4_leastSets_10 (by decide) ?_
  refine lv_istore_n (lv' := [(3, .int 0), (2, .int 0), (1, .int (pVoices (cK c) (cM c))), (0, .ref (a 10))]) hx hb dX4_leastSets_11 rfl hl (by decide) rfl (fun ls hl => ?_)
  refine wk_loop (σ := Nat × Int32) (nL := 4) (fun xσ n => match xσ with | (i, z) => i + n = 128 ∧ z = cntB (fun i => pLea (cK c) (nI i) (pVoices (cK c) (cM c))) i) (fun xσ => match xσ with | (i, z) => [(3, .int (nI i)), (2, .int z), (1, .int (pVoices (cK c) (cM c))), (0, .ref (a 10))]) (0, 0) 128 (⟨by omega, rfl⟩) hl ?_
  rintro n12 ⟨i, z⟩ ls hI12 hl ih12
  have hl : lv_has ls 4 [(3, .int (nI i)), (2, .int z), (1, .int (pVoices (cK c) (cM c))), (0, .ref (a 10))] := hl
  obtain ⟨hi, hz⟩ := hI12
  refine lv_iload_n hx hb dX4_leastSets_12 rfl (lv_at hl 0 rfl) ?_
  refine lv_sipush (v := 128) hx hb dX4_leastSets_13 (by decide) ?_
  refine wk_ge (x := i) (y := 128) (tgt := 37) hx hb (by omega) (by omega) dX4_leastSets_16 (by decide) (fun c16 => ?_) (fun c16 => ?_)
  · refine lv_iload_n hx hb dX4_leastSets_37 rfl (lv_at hl 1 rfl) ?_
    exact wk_ret hx hb hr hlocks dX4_leastSets_38 (by rw [hz, show i = 128 by omega]; rfl)
  · refine lv_aload_n hx hb dX4_leastSets_19 rfl (lv_at hl 3 rfl) ?_
    refine lv_iload_n hx hb dX4_leastSets_20 rfl (lv_at hl 0 rfl) ?_
    refine lv_iload_n hx hb dX4_leastSets_21 rfl (lv_at hl 2 rfl) ?_
    refine wk_read (va_runV (As := [.int (nI i), .int (pVoices (cK c) (cM c))]) (rest := []) ⟨hx, hb, hml, hown, hts⟩ (c_X4_isLeast l G a c hc (nI i) (pVoices (cK c) (cM c))) (cwV 2 hts gX4_leastSets_X4_isLeast rfl rfl rfl hdV_X4_isLeast ⟨Nat.le_of_ble_eq_true rfl, Nat.le_of_ble_eq_true rfl⟩) (hR.pre (ci := 4) (q0 := 10) rfl rfl) rfl rfl hl.1 rfl (lv_room (Nat.le_of_ble_eq_true rfl)) dX4_leastSets_22 ⟨hrc, hrs⟩) ?_
    refine lv_if_eq (tgt := 31) hx hb dX4_leastSets_25 (by decide) (fun c25 => ?_) (fun c25 => ?_)
    · have c25 := b2i_f c25
      refine lv_iinc (v := (nI (i + 1))) (lv' := [(3, .int (nI (i + 1))), (2, .int z), (1, .int (pVoices (cK c) (cM c))), (0, .ref (a 10))]) hx hb dX4_leastSets_31 hl (k := 0) rfl (wk_i1 i) (by decide) rfl (fun ls hl => ?_)
      refine lv_goto (tgt := 12) hx hb dX4_leastSets_34 (by decide) ?_
      exact ih12 (i + 1, z) (n12 - 1) ls (by omega) (⟨by omega, by rw [hz]; simp [cntB, fo_s, c16, c25]⟩) (lv_sub hl [0, 1, 2, 3] rfl)
    · have c25 := b2i_t c25
      refine lv_iinc (v := (z + 1)) (lv' := [(2, .int (z + 1)), (3, .int (nI i)), (1, .int (pVoices (cK c) (cM c))), (0, .ref (a 10))]) hx hb dX4_leastSets_28 hl (k := 1) rfl (by rfl) (by decide) rfl (fun ls hl => ?_)
      refine lv_iinc (v := (nI (i + 1))) (lv' := [(3, .int (nI (i + 1))), (2, .int (z + 1)), (1, .int (pVoices (cK c) (cM c))), (0, .ref (a 10))]) hx hb dX4_leastSets_31 hl (k := 1) rfl (wk_i1 i) (by decide) rfl (fun ls hl => ?_)
      refine lv_goto (tgt := 12) hx hb dX4_leastSets_34 (by decide) ?_
      exact ih12 (i + 1, (z + 1)) (n12 - 1) ls (by omega) (⟨by omega, by rw [hz]; simp [cntB, fo_s, c16, c25]⟩) (lv_sub hl [0, 1, 2, 3] rfl)
theorem hdV_X4_firstLeastSet : yX4_firstLeastSet.cls = RX4 ∧ yX4_firstLeastSet.cls ≠ "java/lang/invoke/MethodHandle" ∧ yX4_firstLeastSet.cls ≠ "java/lang/invoke/VarHandle" ∧ (parseMethodDescriptor yX4_firstLeastSet.desc).map (fun d => d.parameters.length) = some 0 := by decide +kernel
set_option maxHeartbeats 4000000 in
set_option maxRecDepth 100000 in
theorem c_X4_firstLeastSet (l : Launch) (G : GG) (a : Nat → Nat) (c : CX) (hc : OkR c) : Met l yX4_firstLeastSet wsX4_firstLeastSet ({ frames := 4, cells := 0, slots := 0, locals := 89 }) (va_Pc [.ref (a 10)] (fun U => PreW G (WR G a c) U U.heap)) (QcRead (pLea1 (cK c) (cM c))) 0 0 (fun _ => False) := by
  refine Met.ofW (cc := cX4_firstLeastSet) (maxL := 3) (ret := (some .int)) (by decide) rfl ?_
  intro p e s m args below meth cd s₁ BB hml hv
  obtain ⟨rfl, hR⟩ := hv
  have hx := BB.exec
  have hb := BB.bytes
  have hr := BB.returns
  have hts := atoms_spec (ws := wsX4_firstLeastSet) BB.pre
  have hown : s.vm.findClass RX4 = some m.cls := findClass_of_methodNamed BB.named
  have hlocks := BB.notSynchronized
  have hrc : 0 + 0 ≤ (headSpec wsX4_firstLeastSet ({ frames := 4, cells := 0, slots := 0, locals := 89 })).room.cells := Nat.le_refl _
  have hrs : 0 + 0 ≤ (headSpec wsX4_firstLeastSet ({ frames := 4, cells := 0, slots := 0, locals := 89 })).room.slots := Nat.le_refl _
  have hP := hR.1
  have hK := hR.2.1
  have hN := hR.2.2
  obtain ⟨hk7, ho1, ho5, hi6, hl200, hnx, hkn⟩ := id hc
  have hin4 : ∀ w ∈ u_ws RX4 TX4 1, w ∈ wsX4_firstLeastSet := by decide +kernel
  have hf9 := hts (.fieldLink RX4 9 "RegaliaVotes$Power" "vote" "LRegaliaVotes$Vote;") (by decide +kernel)
  refine wk_enter (n := 3) (Nat.le_of_ble_eq_true rfl) (fun ls hl => ?_)
  have hl : lv_has ls 3 [(0, .ref (a 10))] := hl
  refine lv_aload_n hx hb dX4_firstLeastSet_0 rfl (lv_at hl 0 rfl) ?_
  refine va_get (D := G.1) (v := .ref (a 9)) hx hb hts hin4 hown hK hP 10 rfl rfl 0 (by decide) hf9 (fun _ h => h) rfl dX4_firstLeastSet_1 ?_
  refine wk_read (va_runV (As := []) (rest := []) ⟨hx, hb, hml, hown, hts⟩ (c_X6_voices l G a c hc) (cwV 0 hts gX4_firstLeastSet_X6_voices rfl rfl rfl hdV_X6_voices ⟨Nat.le_of_ble_eq_true rfl, Nat.le_of_ble_eq_true rfl⟩) (hR.pre (ci := 6) (q0 := 9) rfl rfl) rfl rfl hl.1 rfl (lv_room (Nat.le_of_ble_eq_true rfl)) dX4_firstLeastSet_4 ⟨hrc, hrs⟩) ?_
  refine lv_istore_n (lv' := [(1, .int (pVoices (cK c) (cM c))), (0, .ref (a 10))]) hx hb dX4_firstLeastSet_7 rfl hl (by decide) rfl (fun ls hl => ?_)
  refine lv_iconst (v := 0) hx hb dX4_firstLeastSet_8 (by decide) ?_
  refine lv_istore_n (lv' := [(2, .int 0), (1, .int (pVoices (cK c) (cM c))), (0, .ref (a 10))]) hx hb dX4_firstLeastSet_9 rfl hl (by decide) rfl (fun ls hl => ?_)
  refine wk_loop (σ := Nat) (nL := 3) (fun xσ n => match xσ with | i => i + n = 128 ∧ ∀ j, j < i → pLea (cK c) (nI j) (pVoices (cK c) (cM c)) = false) (fun xσ => match xσ with | i => [(2, .int (nI i)), (1, .int (pVoices (cK c) (cM c))), (0, .ref (a 10))]) 0 128 (⟨by omega, fun j hj => absurd hj (Nat.not_lt_zero j)⟩) hl ?_
  rintro n10 i ls hI10 hl ih10
  have hl : lv_has ls 3 [(2, .int (nI i)), (1, .int (pVoices (cK c) (cM c))), (0, .ref (a 10))] := hl
  obtain ⟨hi, hz⟩ := hI10
  refine lv_iload_n hx hb dX4_firstLeastSet_10 rfl (lv_at hl 0 rfl) ?_
  refine lv_sipush (v := 128) hx hb dX4_firstLeastSet_11 (by decide) ?_
  refine wk_ge (x := i) (y := 128) (tgt := 34) hx hb (by omega) (by omega) dX4_firstLeastSet_14 (by decide) (fun c14 => ?_) (fun c14 => ?_)
  · refine lv_bipush (v := -9) hx hb dX4_firstLeastSet_34 (by decide) ?_
    exact wk_ret hx hb hr hlocks dX4_firstLeastSet_36 ((firB_no (p := fun i => pLea (cK c) (nI i) (pVoices (cK c) (cM c))) (fun j hj => hz j (by omega))).symm)
  · refine lv_aload_n hx hb dX4_firstLeastSet_17 rfl (lv_at hl 2 rfl) ?_
    refine lv_iload_n hx hb dX4_firstLeastSet_18 rfl (lv_at hl 0 rfl) ?_
    refine lv_iload_n hx hb dX4_firstLeastSet_19 rfl (lv_at hl 1 rfl) ?_
    refine wk_read (va_runV (As := [.int (nI i), .int (pVoices (cK c) (cM c))]) (rest := []) ⟨hx, hb, hml, hown, hts⟩ (c_X4_isLeast l G a c hc (nI i) (pVoices (cK c) (cM c))) (cwV 2 hts gX4_firstLeastSet_X4_isLeast rfl rfl rfl hdV_X4_isLeast ⟨Nat.le_of_ble_eq_true rfl, Nat.le_of_ble_eq_true rfl⟩) (hR.pre (ci := 4) (q0 := 10) rfl rfl) rfl rfl hl.1 rfl (lv_room (Nat.le_of_ble_eq_true rfl)) dX4_firstLeastSet_20 ⟨hrc, hrs⟩) ?_
    refine lv_if_eq (tgt := 28) hx hb dX4_firstLeastSet_23 (by decide) (fun c23 => ?_) (fun c23 => ?_)
    · have c23 := b2i_f c23
      refine lv_iinc (v := (nI (i + 1))) (lv' := [(2, .int (nI (i + 1))), (1, .int (pVoices (cK c) (cM c))), (0, .ref (a 10))]) hx hb dX4_firstLeastSet_28 hl (k := 0) rfl (wk_i1 i) (by decide) rfl (fun ls hl => ?_)
      refine lv_goto (tgt := 10) hx hb dX4_firstLeastSet_31 (by decide) ?_
      exact ih10 (i + 1) (n10 - 1) ls (by omega) (⟨by omega, fun j hj => by rcases Nat.lt_or_ge j i with q | q; exact hz j q; rw [show j = i by omega]; exact c23⟩) (lv_sub hl [0, 1, 2] rfl)
    · have c23 := b2i_t c23
      refine lv_iload_n hx hb dX4_firstLeastSet_26 rfl (lv_at hl 0 rfl) ?_
      exact wk_ret hx hb hr hlocks dX4_firstLeastSet_27 ((firB_yes (p := fun i => pLea (cK c) (nI i) (pVoices (cK c) (cM c))) hz c23 (by omega) (by omega)).symm)
theorem hdV_X1_isSoIfFor : yX1_isSoIfFor.cls = RX1 ∧ yX1_isSoIfFor.cls ≠ "java/lang/invoke/MethodHandle" ∧ yX1_isSoIfFor.cls ≠ "java/lang/invoke/VarHandle" ∧ (parseMethodDescriptor yX1_isSoIfFor.desc).map (fun d => d.parameters.length) = some 3 := by decide +kernel
set_option maxHeartbeats 4000000 in
set_option maxRecDepth 100000 in
theorem c_X1_isSoIfFor (l : Launch) (G : GG) (a : Nat → Nat) (c : CX) (hc : OkR c) (t : Int32) (set : Int32) (voices : Int32) : Met l yX1_isSoIfFor wsX1_isSoIfFor ({ frames := 3, cells := 0, slots := 0, locals := 68 }) (va_Pc [.ref (a 11), .int t, .int set, .int voices] (fun U => PreW G (WR G a c) U U.heap)) (QcRead (b2i (pSoFor (cK c) (cM c) (cI c) t set voices))) 0 0 (fun _ => False) := by
  refine Met.ofW (cc := cX1_isSoIfFor) (maxL := 5) (ret := (some .boolean)) (by decide) rfl ?_
  intro p e s m args below meth cd s₁ BB hml hv
  obtain ⟨rfl, hR⟩ := hv
  have hx := BB.exec
  have hb := BB.bytes
  have hr := BB.returns
  have hts := atoms_spec (ws := wsX1_isSoIfFor) BB.pre
  have hown : s.vm.findClass RX1 = some m.cls := findClass_of_methodNamed BB.named
  have hlocks := BB.notSynchronized
  have hrc : 0 + 0 ≤ (headSpec wsX1_isSoIfFor ({ frames := 3, cells := 0, slots := 0, locals := 68 })).room.cells := Nat.le_refl _
  have hrs : 0 + 0 ≤ (headSpec wsX1_isSoIfFor ({ frames := 3, cells := 0, slots := 0, locals := 68 })).room.slots := Nat.le_refl _
  have hP := hR.1
  have hK := hR.2.1
  have hN := hR.2.2
  obtain ⟨hk7, ho1, ho5, hi6, hl200, hnx, hkn⟩ := id hc
  have hin1 : ∀ w ∈ u_ws RX1 TX1 4, w ∈ wsX1_isSoIfFor := by decide +kernel
  have hf9 := hts (.fieldLink RX1 9 "RegaliaVotes$Minutes" "bills" "[I") (by decide +kernel)
  have hf15 := hts (.fieldLink RX1 15 "RegaliaVotes$Minutes" "outcomes" "[Z") (by decide +kernel)
  have hf19 := hts (.fieldLink RX1 19 "RegaliaVotes$Minutes" "lines" "I") (by decide +kernel)
  have hf23 := hts (.fieldLink RX1 23 "RegaliaVotes$Minutes" "vote" "LRegaliaVotes$Vote;") (by decide +kernel)
  refine wk_enter (n := 5) (Nat.le_of_ble_eq_true rfl) (fun ls hl => ?_)
  have hl : lv_has ls 5 [(0, .ref (a 11)), (1, .int t), (2, .int set), (3, .int voices)] := hl
  refine lv_iconst (v := 0) hx hb dX1_isSoIfFor_0 (by decide) ?_
  refine lv_istore (lv' := [(4, .int 0), (0, .ref (a 11)), (1, .int t), (2, .int set), (3, .int voices)]) hx hb dX1_isSoIfFor_1 hl (by decide) rfl (fun ls hl => ?_)
  refine wk_loop (σ := Nat) (nL := 5) (fun xσ n => match xσ with | i => i + n = iL (cI c) ∧ allB (pSoForB (cK c) (cM c) (cI c) t set voices) i = true) (fun xσ => match xσ with | i => [(4, .int (nI i)), (0, .ref (a 11)), (1, .int t), (2, .int set), (3, .int voices)]) 0 (iL (cI c)) (⟨by omega, rfl⟩) hl ?_
  rintro n3 i ls hI3 hl ih3
  have hl : lv_has ls 5 [(4, .int (nI i)), (0, .ref (a 11)), (1, .int t), (2, .int set), (3, .int voices)] := hl
  obtain ⟨hi, hz⟩ := hI3
  refine lv_iload hx hb dX1_isSoIfFor_3 (lv_at hl 0 rfl) ?_
  refine lv_aload_n hx hb dX1_isSoIfFor_5 rfl (lv_at hl 1 rfl) ?_
  refine va_get (D := G.1) (v := .int (nI (iL (cI c)))) hx hb hts hin1 hown hK hP 11 rfl rfl 3 (by decide) hf19 (fun _ h => h) rfl dX1_isSoIfFor_6 ?_
  refine wk_ge (x := i) (y := (iL (cI c))) (tgt := 54) hx hb (by omega) (by omega) dX1_isSoIfFor_9 (by decide) (fun c9 => ?_) (fun c9 => ?_)
  · refine lv_iconst (v := 1) hx hb dX1_isSoIfFor_54 (by decide) ?_
    exact wk_zret hx hb hr hlocks dX1_isSoIfFor_55 (by rfl) (by rw [pSoFor, show iL (cI c) = i by omega, hz]; rfl)
  · refine lv_aload_n hx hb dX1_isSoIfFor_12 rfl (lv_at hl 1 rfl) ?_
    refine va_get (D := G.1) (v := .ref (a 9)) hx hb hts hin1 hown hK hP 11 rfl rfl 0 (by decide) hf23 (fun _ h => h) rfl dX1_isSoIfFor_13 ?_
    refine lv_iload_n hx hb dX1_isSoIfFor_16 rfl (lv_at hl 4 rfl) ?_
    refine lv_aload_n hx hb dX1_isSoIfFor_17 rfl (lv_at hl 1 rfl) ?_
    refine va_get (D := G.1) (v := .ref (a 9)) hx hb hts hin1 hown hK hP 11 rfl rfl 0 (by decide) hf23 (fun _ h => h) rfl dX1_isSoIfFor_18 ?_
    refine lv_aload_n hx hb dX1_isSoIfFor_21 rfl (lv_at hl 1 rfl) ?_
    refine va_get (D := G.1) (v := .ref (a 12)) hx hb hts hin1 hown hK hP 11 rfl rfl 1 (by decide) hf9 (fun _ h => h) rfl dX1_isSoIfFor_22 ?_
    refine lv_iload hx hb dX1_isSoIfFor_25 (lv_at hl 0 rfl) ?_
    refine wk_iald (i := i) hx hb hK hP 12 1 rfl rfl (by omega) (Nat.le_of_ble_eq_true rfl) dX1_isSoIfFor_27 ?_
    refine lv_iload_n hx hb dX1_isSoIfFor_28 rfl (lv_at hl 2 rfl) ?_
    refine lv_iload_n hx hb dX1_isSoIfFor_29 rfl (lv_at hl 3 rfl) ?_
    refine wk_read (va_runV (As := [.int (iB (cI c) i), .int t, .int set]) (rest := [.int voices, .ref (a 9)]) ⟨hx, hb, hml, hown, hts⟩ (c_X6_yesIfFor l G a c hc (iB (cI c) i) t set) (cwV 3 hts gX1_isSoIfFor_X6_yesIfFor rfl rfl rfl hdV_X6_yesIfFor ⟨Nat.le_of_ble_eq_true rfl, Nat.le_of_ble_eq_true rfl⟩) (hR.pre (ci := 6) (q0 := 9) rfl rfl) rfl rfl hl.1 rfl (lv_room (Nat.le_of_ble_eq_true rfl)) dX1_isSoIfFor_30 ⟨hrc, hrs⟩) ?_
    refine wk_read (va_runV (As := [.int voices, .int (pYesIf (cK c) (cM c) (iB (cI c) i) t set)]) (rest := []) ⟨hx, hb, hml, hown, hts⟩ (c_X6_passesBy l G a c hc voices (pYesIf (cK c) (cM c) (iB (cI c) i) t set)) (cwV 2 hts gX1_isSoIfFor_X6_passesBy rfl rfl rfl hdV_X6_passesBy ⟨Nat.le_of_ble_eq_true rfl, Nat.le_of_ble_eq_true rfl⟩) (hR.pre (ci := 6) (q0 := 9) rfl rfl) rfl rfl hl.1 rfl (lv_room (Nat.le_of_ble_eq_true rfl)) dX1_isSoIfFor_33 ⟨hrc, hrs⟩) ?_
    refine lv_aload_n hx hb dX1_isSoIfFor_36 rfl (lv_at hl 1 rfl) ?_
    refine va_get (D := G.1) (v := .ref (a 13)) hx hb hts hin1 hown hK hP 11 rfl rfl 2 (by decide) hf15 (fun _ h => h) rfl dX1_isSoIfFor_37 ?_
    refine lv_iload hx hb dX1_isSoIfFor_40 (lv_at hl 0 rfl) ?_
    refine wk_zald (i := i) hx hb hK hP 13 2 rfl rfl (by omega) (Nat.le_of_ble_eq_true rfl) dX1_isSoIfFor_42 ?_
    refine lv_icmp_eq (tgt := 48) hx hb dX1_isSoIfFor_43 (by decide) (fun c43 => ?_) (fun c43 => ?_)
    · have c43 := b2i_inj c43
      refine lv_iinc (v := (nI (i + 1))) (lv' := [(4, .int (nI (i + 1))), (0, .ref (a 11)), (1, .int t), (2, .int set), (3, .int voices)]) hx hb dX1_isSoIfFor_48 hl (k := 0) rfl (wk_i1 i) (by decide) rfl (fun ls hl => ?_)
      refine lv_goto (tgt := 3) hx hb dX1_isSoIfFor_51 (by decide) ?_
      exact ih3 (i + 1) (n3 - 1) ls (by omega) (⟨by omega, by rw [allB, hz]; simp [pSoForB, c43]⟩) (lv_sub hl [0, 1, 2, 3, 4] rfl)
    · have c43 := b2i_ninj c43
      refine lv_iconst (v := 0) hx hb dX1_isSoIfFor_46 (by decide) ?_
      exact wk_zret hx hb hr hlocks dX1_isSoIfFor_47 (by rfl) (by rw [pSoFor, allB_no (i := i) (by omega) (by simp [pSoForB, c43])]; rfl)
theorem hdV_X1_isSoIfSick : yX1_isSoIfSick.cls = RX1 ∧ yX1_isSoIfSick.cls ≠ "java/lang/invoke/MethodHandle" ∧ yX1_isSoIfSick.cls ≠ "java/lang/invoke/VarHandle" ∧ (parseMethodDescriptor yX1_isSoIfSick.desc).map (fun d => d.parameters.length) = some 1 := by decide +kernel
set_option maxHeartbeats 4000000 in
set_option maxRecDepth 100000 in
theorem c_X1_isSoIfSick (l : Launch) (G : GG) (a : Nat → Nat) (c : CX) (hc : OkR c) (sick : Int32) : Met l yX1_isSoIfSick wsX1_isSoIfSick ({ frames := 3, cells := 0, slots := 0, locals := 66 }) (va_Pc [.ref (a 11), .int sick] (fun U => PreW G (WR G a c) U U.heap)) (QcRead (b2i (pSoSick (cK c) (cM c) (cI c) sick))) 0 0 (fun _ => False) := by
  refine Met.ofW (cc := cX1_isSoIfSick) (maxL := 4) (ret := (some .boolean)) (by decide) rfl ?_
  intro p e s m args below meth cd s₁ BB hml hv
  obtain ⟨rfl, hR⟩ := hv
  have hx := BB.exec
  have hb := BB.bytes
  have hr := BB.returns
  have hts := atoms_spec (ws := wsX1_isSoIfSick) BB.pre
  have hown : s.vm.findClass RX1 = some m.cls := findClass_of_methodNamed BB.named
  have hlocks := BB.notSynchronized
  have hrc : 0 + 0 ≤ (headSpec wsX1_isSoIfSick ({ frames := 3, cells := 0, slots := 0, locals := 66 })).room.cells := Nat.le_refl _
  have hrs : 0 + 0 ≤ (headSpec wsX1_isSoIfSick ({ frames := 3, cells := 0, slots := 0, locals := 66 })).room.slots := Nat.le_refl _
  have hP := hR.1
  have hK := hR.2.1
  have hN := hR.2.2
  obtain ⟨hk7, ho1, ho5, hi6, hl200, hnx, hkn⟩ := id hc
  have hin1 : ∀ w ∈ u_ws RX1 TX1 4, w ∈ wsX1_isSoIfSick := by decide +kernel
  have hf9 := hts (.fieldLink RX1 9 "RegaliaVotes$Minutes" "bills" "[I") (by decide +kernel)
  have hf15 := hts (.fieldLink RX1 15 "RegaliaVotes$Minutes" "outcomes" "[Z") (by decide +kernel)
  have hf19 := hts (.fieldLink RX1 19 "RegaliaVotes$Minutes" "lines" "I") (by decide +kernel)
  have hf23 := hts (.fieldLink RX1 23 "RegaliaVotes$Minutes" "vote" "LRegaliaVotes$Vote;") (by decide +kernel)
  refine wk_enter (n := 4) (Nat.le_of_ble_eq_true rfl) (fun ls hl => ?_)
  have hl : lv_has ls 4 [(0, .ref (a 11)), (1, .int sick)] := hl
  refine lv_aload_n hx hb dX1_isSoIfSick_0 rfl (lv_at hl 0 rfl) ?_
  refine va_get (D := G.1) (v := .ref (a 9)) hx hb hts hin1 hown hK hP 11 rfl rfl 0 (by decide) hf23 (fun _ h => h) rfl dX1_isSoIfSick_1 ?_
  refine lv_iload_n hx hb dX1_isSoIfSick_4 rfl (lv_at hl 1 rfl) ?_
  refine wk_read (va_runV (As := [.int sick]) (rest := []) ⟨hx, hb, hml, hown, hts⟩ (c_X6_voicesIfSick l G a c hc sick) (cwV 1 hts gX1_isSoIfSick_X6_voicesIfSick rfl rfl rfl hdV_X6_voicesIfSick ⟨Nat.le_of_ble_eq_true rfl, Nat.le_of_ble_eq_true rfl⟩) (hR.pre (ci := 6) (q0 := 9) rfl rfl) rfl rfl hl.1 rfl (lv_room (Nat.le_of_ble_eq_true rfl)) dX1_isSoIfSick_5 ⟨hrc, hrs⟩) ?_
  refine lv_istore_n (lv' := [(2, .int (pVoicesIf (cK c) (cM c) sick)), (0, .ref (a 11)), (1, .int sick)]) hx hb dX1_isSoIfSick_8 rfl hl (by decide) rfl (fun ls hl => ?_)
  refine lv_iconst (v := 0) hx hb dX1_isSoIfSick_9 (by decide) ?_
  refine lv_istore_n (lv' := [(3, .int 0), (2, .int (pVoicesIf (cK c) (cM c) sick)), (0, .ref (a 11)), (1, .int sick)]) hx hb dX1_isSoIfSick_10 rfl hl (by decide) rfl (fun ls hl => ?_)
  refine wk_loop (σ := Nat) (nL := 4) (fun xσ n => match xσ with | i => i + n = iL (cI c) ∧ allB (pSoSickB (cK c) (cM c) (cI c) sick) i = true) (fun xσ => match xσ with | i => [(3, .int (nI i)), (2, .int (pVoicesIf (cK c) (cM c) sick)), (0, .ref (a 11)), (1, .int sick)]) 0 (iL (cI c)) (⟨by omega, rfl⟩) hl ?_
  rintro n11 i ls hI11 hl ih11
  have hl : lv_has ls 4 [(3, .int (nI i)), (2, .int (pVoicesIf (cK c) (cM c) sick)), (0, .ref (a 11)), (1, .int sick)] := hl
  obtain ⟨hi, hz⟩ := hI11
  refine lv_iload_n hx hb dX1_isSoIfSick_11 rfl (lv_at hl 0 rfl) ?_
  refine lv_aload_n hx hb dX1_isSoIfSick_12 rfl (lv_at hl 2 rfl) ?_
  refine va_get (D := G.1) (v := .int (nI (iL (cI c)))) hx hb hts hin1 hown hK hP 11 rfl rfl 3 (by decide) hf19 (fun _ h => h) rfl dX1_isSoIfSick_13 ?_
  refine wk_ge (x := i) (y := (iL (cI c))) (tgt := 57) hx hb (by omega) (by omega) dX1_isSoIfSick_16 (by decide) (fun c16 => ?_) (fun c16 => ?_)
  · refine lv_iconst (v := 1) hx hb dX1_isSoIfSick_57 (by decide) ?_
    exact wk_zret hx hb hr hlocks dX1_isSoIfSick_58 (by rfl) (by rw [pSoSick, show iL (cI c) = i by omega, hz]; rfl)
  · refine lv_aload_n hx hb dX1_isSoIfSick_19 rfl (lv_at hl 2 rfl) ?_
    refine va_get (D := G.1) (v := .ref (a 9)) hx hb hts hin1 hown hK hP 11 rfl rfl 0 (by decide) hf23 (fun _ h => h) rfl dX1_isSoIfSick_20 ?_
    refine lv_iload_n hx hb dX1_isSoIfSick_23 rfl (lv_at hl 1 rfl) ?_
    refine lv_aload_n hx hb dX1_isSoIfSick_24 rfl (lv_at hl 2 rfl) ?_
    refine va_get (D := G.1) (v := .ref (a 9)) hx hb hts hin1 hown hK hP 11 rfl rfl 0 (by decide) hf23 (fun _ h => h) rfl dX1_isSoIfSick_25 ?_
    refine lv_aload_n hx hb dX1_isSoIfSick_28 rfl (lv_at hl 2 rfl) ?_
    refine va_get (D := G.1) (v := .ref (a 12)) hx hb hts hin1 hown hK hP 11 rfl rfl 1 (by decide) hf9 (fun _ h => h) rfl dX1_isSoIfSick_29 ?_
    refine lv_iload_n hx hb dX1_isSoIfSick_32 rfl (lv_at hl 0 rfl) ?_
    refine wk_iald (i := i) hx hb hK hP 12 1 rfl rfl (by omega) (Nat.le_of_ble_eq_true rfl) dX1_isSoIfSick_33 ?_
    refine wk_read (va_runV (As := [.int (iB (cI c) i)]) (rest := [.int (pVoicesIf (cK c) (cM c) sick), .ref (a 9)]) ⟨hx, hb, hml, hown, hts⟩ (c_X6_yesOf l G a c hc (iB (cI c) i)) (cwV 1 hts gX1_isSoIfSick_X6_yesOf rfl rfl rfl hdV_X6_yesOf ⟨Nat.le_of_ble_eq_true rfl, Nat.le_of_ble_eq_true rfl⟩) (hR.pre (ci := 6) (q0 := 9) rfl rfl) rfl rfl hl.1 rfl (lv_room (Nat.le_of_ble_eq_true rfl)) dX1_isSoIfSick_34 ⟨hrc, hrs⟩) ?_
    refine wk_read (va_runV (As := [.int (pVoicesIf (cK c) (cM c) sick), .int (pYes (cK c) (cM c) (iB (cI c) i))]) (rest := []) ⟨hx, hb, hml, hown, hts⟩ (c_X6_passesBy l G a c hc (pVoicesIf (cK c) (cM c) sick) (pYes (cK c) (cM c) (iB (cI c) i))) (cwV 2 hts gX1_isSoIfSick_X6_passesBy rfl rfl rfl hdV_X6_passesBy ⟨Nat.le_of_ble_eq_true rfl, Nat.le_of_ble_eq_true rfl⟩) (hR.pre (ci := 6) (q0 := 9) rfl rfl) rfl rfl hl.1 rfl (lv_room (Nat.le_of_ble_eq_true rfl)) dX1_isSoIfSick_37 ⟨hrc, hrs⟩) ?_
    refine lv_aload_n hx hb dX1_isSoIfSick_40 rfl (lv_at hl 2 rfl) ?_
    refine va_get (D := G.1) (v := .ref (a 13)) hx hb hts hin1 hown hK hP 11 rfl rfl 2 (by decide) hf15 (fun _ h => h) rfl dX1_isSoIfSick_41 ?_
    refine lv_iload_n hx hb dX1_isSoIfSick_44 rfl (lv_at hl 0 rfl) ?_
    refine wk_zald (i := i) hx hb hK hP 13 2 rfl rfl (by omega) (Nat.le_of_ble_eq_true rfl) dX1_isSoIfSick_45 ?_
    refine lv_icmp_eq (tgt := 51) hx hb dX1_isSoIfSick_46 (by decide) (fun c46 => ?_) (fun c46 => ?_)
    · have c46 := b2i_inj c46
      refine lv_iinc (v := (nI (i + 1))) (lv' := [(3, .int (nI (i + 1))), (2, .int (pVoicesIf (cK c) (cM c) sick)), (0, .ref (a 11)), (1, .int sick)]) hx hb dX1_isSoIfSick_51 hl (k := 0) rfl (wk_i1 i) (by decide) rfl (fun ls hl => ?_)
      refine lv_goto (tgt := 11) hx hb dX1_isSoIfSick_54 (by decide) ?_
      exact ih11 (i + 1) (n11 - 1) ls (by omega) (⟨by omega, by rw [allB, hz]; simp [pSoSickB, c46]⟩) (lv_sub hl [0, 1, 2, 3] rfl)
    · have c46 := b2i_ninj c46
      refine lv_iconst (v := 0) hx hb dX1_isSoIfSick_49 (by decide) ?_
      exact wk_zret hx hb hr hlocks dX1_isSoIfSick_50 (by rfl) (by rw [pSoSick, allB_no (i := i) (by omega) (by simp [pSoSickB, c46])]; rfl)
theorem hdV_X1_possibleSets : yX1_possibleSets.cls = RX1 ∧ yX1_possibleSets.cls ≠ "java/lang/invoke/MethodHandle" ∧ yX1_possibleSets.cls ≠ "java/lang/invoke/VarHandle" ∧ (parseMethodDescriptor yX1_possibleSets.desc).map (fun d => d.parameters.length) = some 1 := by decide +kernel
set_option maxHeartbeats 4000000 in
set_option maxRecDepth 100000 in
theorem c_X1_possibleSets (l : Launch) (G : GG) (a : Nat → Nat) (c : CX) (hc : OkR c) (t : Int32) : Met l yX1_possibleSets wsX1_possibleSets ({ frames := 4, cells := 0, slots := 0, locals := 92 }) (va_Pc [.ref (a 11), .int t] (fun U => PreW G (WR G a c) U U.heap)) (QcRead (pPosN (cK c) (cM c) (cI c) t)) 0 0 (fun _ => False) := by
  refine Met.ofW (cc := cX1_possibleSets) (maxL := 5) (ret := (some .int)) (by decide) rfl ?_
  intro p e s m args below meth cd s₁ BB hml hv
  obtain ⟨rfl, hR⟩ := hv
  have hx := BB.exec
  have hb := BB.bytes
  have hr := BB.returns
  have hts := atoms_spec (ws := wsX1_possibleSets) BB.pre
  have hown : s.vm.findClass RX1 = some m.cls := findClass_of_methodNamed BB.named
  have hlocks := BB.notSynchronized
  have hrc : 0 + 0 ≤ (headSpec wsX1_possibleSets ({ frames := 4, cells := 0, slots := 0, locals := 92 })).room.cells := Nat.le_refl _
  have hrs : 0 + 0 ≤ (headSpec wsX1_possibleSets ({ frames := 4, cells := 0, slots := 0, locals := 92 })).room.slots := Nat.le_refl _
  have hP := hR.1
  have hK := hR.2.1
  have hN := hR.2.2
  obtain ⟨hk7, ho1, ho5, hi6, hl200, hnx, hkn⟩ := id hc
  have hin1 : ∀ w ∈ u_ws RX1 TX1 4, w ∈ wsX1_possibleSets := by decide +kernel
  have hf23 := hts (.fieldLink RX1 23 "RegaliaVotes$Minutes" "vote" "LRegaliaVotes$Vote;") (by decide +kernel)
  refine wk_enter (n := 5) (Nat.le_of_ble_eq_true rfl) (fun ls hl => ?_)
  have hl : lv_has ls 5 [(0, .ref (a 11)), (1, .int t)] := hl
  refine lv_aload_n hx hb dX1_possibleSets_0 rfl (lv_at hl 0 rfl) ?_
  refine va_get (D := G.1) (v := .ref (a 9)) hx hb hts hin1 hown hK hP 11 rfl rfl 0 (by decide) hf23 (fun _ h => h) rfl dX1_possibleSets_1 ?_
  refine wk_read (va_runV (As := []) (rest := []) ⟨hx, hb, hml, hown, hts⟩ (c_X6_voices l G a c hc) (cwV 0 hts gX1_possibleSets_X6_voices rfl rfl rfl hdV_X6_voices ⟨Nat.le_of_ble_eq_true rfl, Nat.le_of_ble_eq_true rfl⟩) (hR.pre (ci := 6) (q0 := 9) rfl rfl) rfl rfl hl.1 rfl (lv_room (Nat.le_of_ble_eq_true rfl)) dX1_possibleSets_4 ⟨hrc, hrs⟩) ?_
  refine lv_istore_n (lv' := [(2, .int (pVoices (cK c) (cM c))), (0, .ref (a 11)), (1, .int t)]) hx hb dX1_possibleSets_7 rfl hl (by decide) rfl (fun ls hl => ?_)
  refine lv_iconst (v := 0) hx hb dX1_possibleSets_8 (by decide) ?_
  refine lv_istore_n (lv' := [(3, .int 0), (2, .int (pVoices (cK c) (cM c))), (0, .ref (a 11)), (1, .int t)]) hx hb dX1_possibleSets_9 rfl hl (by decide) rfl (fun ls hl => ?_)
  refine lv_iconst (v := 0) hx hb dX1_possibleSets_10 (by decide) ?_
  refine lv_istore (lv' := [(4, .int 0), (3, .int 0), (2, .int (pVoices (cK c) (cM c))), (0, .ref (a 11)), (1, .int t)]) hx hb dX1_possibleSets_11 hl (by decide) rfl (fun ls hl => ?_)
  refine wk_loop (σ := Nat × Int32) (nL := 5) (fun xσ n => match xσ with | (i, z) => i + n = 32 ∧ z = cntB (fun j => pSoFor (cK c) (cM c) (cI c) t (nI j) (pVoices (cK c) (cM c))) i) (fun xσ => match xσ with | (i, z) => [(4, .int (nI i)), (3, .int z), (2, .int (pVoices (cK c) (cM c))), (0, .ref (a 11)), (1, .int t)]) (0, 0) 32 (⟨by omega, rfl⟩) hl ?_
  rintro n13 ⟨i, z⟩ ls hI13 hl ih13
  have hl : lv_has ls 5 [(4, .int (nI i)), (3, .int z), (2, .int (pVoices (cK c) (cM c))), (0, .ref (a 11)), (1, .int t)] := hl
  obtain ⟨hi, hz⟩ := hI13
  refine lv_iload hx hb dX1_possibleSets_13 (lv_at hl 0 rfl) ?_
  refine lv_bipush (v := 32) hx hb dX1_possibleSets_15 (by decide) ?_
  refine wk_ge (x := i) (y := 32) (tgt := 40) hx hb (by omega) (by omega) dX1_possibleSets_17 (by decide) (fun c17 => ?_) (fun c17 => ?_)
  · refine lv_iload_n hx hb dX1_possibleSets_40 rfl (lv_at hl 1 rfl) ?_
    exact wk_ret hx hb hr hlocks dX1_possibleSets_41 (by rw [hz, show i = 32 by omega]; rfl)
  · refine lv_aload_n hx hb dX1_possibleSets_20 rfl (lv_at hl 3 rfl) ?_
    refine lv_iload_n hx hb dX1_possibleSets_21 rfl (lv_at hl 4 rfl) ?_
    refine lv_iload hx hb dX1_possibleSets_22 (lv_at hl 0 rfl) ?_
    refine lv_iload_n hx hb dX1_possibleSets_24 rfl (lv_at hl 2 rfl) ?_
    refine wk_read (va_runV (As := [.int t, .int (nI i), .int (pVoices (cK c) (cM c))]) (rest := []) ⟨hx, hb, hml, hown, hts⟩ (c_X1_isSoIfFor l G a c hc t (nI i) (pVoices (cK c) (cM c))) (cwV 3 hts gX1_possibleSets_X1_isSoIfFor rfl rfl rfl hdV_X1_isSoIfFor ⟨Nat.le_of_ble_eq_true rfl, Nat.le_of_ble_eq_true rfl⟩) (hR.pre (ci := 1) (q0 := 11) rfl rfl) rfl rfl hl.1 rfl (lv_room (Nat.le_of_ble_eq_true rfl)) dX1_possibleSets_25 ⟨hrc, hrs⟩) ?_
    refine lv_if_eq (tgt := 34) hx hb dX1_possibleSets_28 (by decide) (fun c28 => ?_) (fun c28 => ?_)
    · have c28 := b2i_f c28
      refine lv_iinc (v := (nI (i + 1))) (lv' := [(4, .int (nI (i + 1))), (3, .int z), (2, .int (pVoices (cK c) (cM c))), (0, .ref (a 11)), (1, .int t)]) hx hb dX1_possibleSets_34 hl (k := 0) rfl (wk_i1 i) (by decide) rfl (fun ls hl => ?_)
      refine lv_goto (tgt := 13) hx hb dX1_possibleSets_37 (by decide) ?_
      exact ih13 (i + 1, z) (n13 - 1) ls (by omega) (⟨by omega, by rw [hz]; simp [cntB, fo_s, c17, c28]⟩) (lv_sub hl [0, 1, 2, 3, 4] rfl)
    · have c28 := b2i_t c28
      refine lv_iinc (v := (z + 1)) (lv' := [(3, .int (z + 1)), (4, .int (nI i)), (2, .int (pVoices (cK c) (cM c))), (0, .ref (a 11)), (1, .int t)]) hx hb dX1_possibleSets_31 hl (k := 1) rfl (by rfl) (by decide) rfl (fun ls hl => ?_)
      refine lv_iinc (v := (nI (i + 1))) (lv' := [(4, .int (nI (i + 1))), (3, .int (z + 1)), (2, .int (pVoices (cK c) (cM c))), (0, .ref (a 11)), (1, .int t)]) hx hb dX1_possibleSets_34 hl (k := 1) rfl (wk_i1 i) (by decide) rfl (fun ls hl => ?_)
      refine lv_goto (tgt := 13) hx hb dX1_possibleSets_37 (by decide) ?_
      exact ih13 (i + 1, (z + 1)) (n13 - 1) ls (by omega) (⟨by omega, by rw [hz]; simp [cntB, fo_s, c17, c28]⟩) (lv_sub hl [0, 1, 2, 3, 4] rfl)
theorem hdV_X1_leastPossibleSet : yX1_leastPossibleSet.cls = RX1 ∧ yX1_leastPossibleSet.cls ≠ "java/lang/invoke/MethodHandle" ∧ yX1_leastPossibleSet.cls ≠ "java/lang/invoke/VarHandle" ∧ (parseMethodDescriptor yX1_leastPossibleSet.desc).map (fun d => d.parameters.length) = some 1 := by decide +kernel
set_option maxHeartbeats 4000000 in
set_option maxRecDepth 100000 in
theorem c_X1_leastPossibleSet (l : Launch) (G : GG) (a : Nat → Nat) (c : CX) (hc : OkR c) (t : Int32) : Met l yX1_leastPossibleSet wsX1_leastPossibleSet ({ frames := 4, cells := 0, slots := 0, locals := 92 }) (va_Pc [.ref (a 11), .int t] (fun U => PreW G (WR G a c) U U.heap)) (QcRead (pPos1 (cK c) (cM c) (cI c) t)) 0 0 (fun _ => False) := by
  refine Met.ofW (cc := cX1_leastPossibleSet) (maxL := 4) (ret := (some .int)) (by decide) rfl ?_
  intro p e s m args below meth cd s₁ BB hml hv
  obtain ⟨rfl, hR⟩ := hv
  have hx := BB.exec
  have hb := BB.bytes
  have hr := BB.returns
  have hts := atoms_spec (ws := wsX1_leastPossibleSet) BB.pre
  have hown : s.vm.findClass RX1 = some m.cls := findClass_of_methodNamed BB.named
  have hlocks := BB.notSynchronized
  have hrc : 0 + 0 ≤ (headSpec wsX1_leastPossibleSet ({ frames := 4, cells := 0, slots := 0, locals := 92 })).room.cells := Nat.le_refl _
  have hrs : 0 + 0 ≤ (headSpec wsX1_leastPossibleSet ({ frames := 4, cells := 0, slots := 0, locals := 92 })).room.slots := Nat.le_refl _
  have hP := hR.1
  have hK := hR.2.1
  have hN := hR.2.2
  obtain ⟨hk7, ho1, ho5, hi6, hl200, hnx, hkn⟩ := id hc
  have hin1 : ∀ w ∈ u_ws RX1 TX1 4, w ∈ wsX1_leastPossibleSet := by decide +kernel
  have hf23 := hts (.fieldLink RX1 23 "RegaliaVotes$Minutes" "vote" "LRegaliaVotes$Vote;") (by decide +kernel)
  refine wk_enter (n := 4) (Nat.le_of_ble_eq_true rfl) (fun ls hl => ?_)
  have hl : lv_has ls 4 [(0, .ref (a 11)), (1, .int t)] := hl
  refine lv_aload_n hx hb dX1_leastPossibleSet_0 rfl (lv_at hl 0 rfl) ?_
  refine va_get (D := G.1) (v := .ref (a 9)) hx hb hts hin1 hown hK hP 11 rfl rfl 0 (by decide) hf23 (fun _ h => h) rfl dX1_leastPossibleSet_1 ?_
  refine wk_read (va_runV (As := []) (rest := []) ⟨hx, hb, hml, hown, hts⟩ (c_X6_voices l G a c hc) (cwV 0 hts gX1_leastPossibleSet_X6_voices rfl rfl rfl hdV_X6_voices ⟨Nat.le_of_ble_eq_true rfl, Nat.le_of_ble_eq_true rfl⟩) (hR.pre (ci := 6) (q0 := 9) rfl rfl) rfl rfl hl.1 rfl (lv_room (Nat.le_of_ble_eq_true rfl)) dX1_leastPossibleSet_4 ⟨hrc, hrs⟩) ?_
  refine lv_istore_n (lv' := [(2, .int (pVoices (cK c) (cM c))), (0, .ref (a 11)), (1, .int t)]) hx hb dX1_leastPossibleSet_7 rfl hl (by decide) rfl (fun ls hl => ?_)
  refine lv_iconst (v := 0) hx hb dX1_leastPossibleSet_8 (by decide) ?_
  refine lv_istore_n (lv' := [(3, .int 0), (2, .int (pVoices (cK c) (cM c))), (0, .ref (a 11)), (1, .int t)]) hx hb dX1_leastPossibleSet_9 rfl hl (by decide) rfl (fun ls hl => ?_)
  refine wk_loop (σ := Nat) (nL := 4) (fun xσ n => match xσ with | i => i + n = 32 ∧ ∀ j, j < i → pSoFor (cK c) (cM c) (cI c) t (nI j) (pVoices (cK c) (cM c)) = false) (fun xσ => match xσ with | i => [(3, .int (nI i)), (2, .int (pVoices (cK c) (cM c))), (0, .ref (a 11)), (1, .int t)]) 0 32 (⟨by omega, fun j hj => absurd hj (Nat.not_lt_zero j)⟩) hl ?_
  rintro n10 i ls hI10 hl ih10
  have hl : lv_has ls 4 [(3, .int (nI i)), (2, .int (pVoices (cK c) (cM c))), (0, .ref (a 11)), (1, .int t)] := hl
  obtain ⟨hi, hz⟩ := hI10
  refine lv_iload_n hx hb dX1_leastPossibleSet_10 rfl (lv_at hl 0 rfl) ?_
  refine lv_bipush (v := 32) hx hb dX1_leastPossibleSet_11 (by decide) ?_
  refine wk_ge (x := i) (y := 32) (tgt := 34) hx hb (by omega) (by omega) dX1_leastPossibleSet_13 (by decide) (fun c13 => ?_) (fun c13 => ?_)
  · refine lv_bipush (v := -9) hx hb dX1_leastPossibleSet_34 (by decide) ?_
    exact wk_ret hx hb hr hlocks dX1_leastPossibleSet_36 ((firB_no (p := fun j => pSoFor (cK c) (cM c) (cI c) t (nI j) (pVoices (cK c) (cM c))) (fun j hj => hz j (by omega))).symm)
  · refine lv_aload_n hx hb dX1_leastPossibleSet_16 rfl (lv_at hl 2 rfl) ?_
    refine lv_iload_n hx hb dX1_leastPossibleSet_17 rfl (lv_at hl 3 rfl) ?_
    refine lv_iload_n hx hb dX1_leastPossibleSet_18 rfl (lv_at hl 0 rfl) ?_
    refine lv_iload_n hx hb dX1_leastPossibleSet_19 rfl (lv_at hl 1 rfl) ?_
    refine wk_read (va_runV (As := [.int t, .int (nI i), .int (pVoices (cK c) (cM c))]) (rest := []) ⟨hx, hb, hml, hown, hts⟩ (c_X1_isSoIfFor l G a c hc t (nI i) (pVoices (cK c) (cM c))) (cwV 3 hts gX1_leastPossibleSet_X1_isSoIfFor rfl rfl rfl hdV_X1_isSoIfFor ⟨Nat.le_of_ble_eq_true rfl, Nat.le_of_ble_eq_true rfl⟩) (hR.pre (ci := 1) (q0 := 11) rfl rfl) rfl rfl hl.1 rfl (lv_room (Nat.le_of_ble_eq_true rfl)) dX1_leastPossibleSet_20 ⟨hrc, hrs⟩) ?_
    refine lv_if_eq (tgt := 28) hx hb dX1_leastPossibleSet_23 (by decide) (fun c23 => ?_) (fun c23 => ?_)
    · have c23 := b2i_f c23
      refine lv_iinc (v := (nI (i + 1))) (lv' := [(3, .int (nI (i + 1))), (2, .int (pVoices (cK c) (cM c))), (0, .ref (a 11)), (1, .int t)]) hx hb dX1_leastPossibleSet_28 hl (k := 0) rfl (wk_i1 i) (by decide) rfl (fun ls hl => ?_)
      refine lv_goto (tgt := 10) hx hb dX1_leastPossibleSet_31 (by decide) ?_
      exact ih10 (i + 1) (n10 - 1) ls (by omega) (⟨by omega, fun j hj => by rcases Nat.lt_or_ge j i with q | q; exact hz j q; rw [show j = i by omega]; exact c23⟩) (lv_sub hl [0, 1, 2, 3] rfl)
    · have c23 := b2i_t c23
      refine lv_iload_n hx hb dX1_leastPossibleSet_26 rfl (lv_at hl 0 rfl) ?_
      exact wk_ret hx hb hr hlocks dX1_leastPossibleSet_27 ((firB_yes (p := fun j => pSoFor (cK c) (cM c) (cI c) t (nI j) (pVoices (cK c) (cM c))) hz c23 (by omega) (by omega)).symm)
theorem hdV_X1_possiblySick : yX1_possiblySick.cls = RX1 ∧ yX1_possiblySick.cls ≠ "java/lang/invoke/MethodHandle" ∧ yX1_possiblySick.cls ≠ "java/lang/invoke/VarHandle" ∧ (parseMethodDescriptor yX1_possiblySick.desc).map (fun d => d.parameters.length) = some 0 := by decide +kernel
set_option maxHeartbeats 4000000 in
set_option maxRecDepth 100000 in
theorem c_X1_possiblySick (l : Launch) (G : GG) (a : Nat → Nat) (c : CX) (hc : OkR c) : Met l yX1_possiblySick wsX1_possiblySick ({ frames := 4, cells := 0, slots := 0, locals := 89 }) (va_Pc [.ref (a 11)] (fun U => PreW G (WR G a c) U U.heap)) (QcRead (pWho (cK c) (cM c) (cI c))) 0 0 (fun _ => False) := by
  refine Met.ofW (cc := cX1_possiblySick) (maxL := 3) (ret := (some .int)) (by decide) rfl ?_
  intro p e s m args below meth cd s₁ BB hml hv
  obtain ⟨rfl, hR⟩ := hv
  have hx := BB.exec
  have hb := BB.bytes
  have hr := BB.returns
  have hts := atoms_spec (ws := wsX1_possiblySick) BB.pre
  have hown : s.vm.findClass RX1 = some m.cls := findClass_of_methodNamed BB.named
  have hlocks := BB.notSynchronized
  have hrc : 0 + 0 ≤ (headSpec wsX1_possiblySick ({ frames := 4, cells := 0, slots := 0, locals := 89 })).room.cells := Nat.le_refl _
  have hrs : 0 + 0 ≤ (headSpec wsX1_possiblySick ({ frames := 4, cells := 0, slots := 0, locals := 89 })).room.slots := Nat.le_refl _
  have hP := hR.1
  have hK := hR.2.1
  have hN := hR.2.2
  obtain ⟨hk7, ho1, ho5, hi6, hl200, hnx, hkn⟩ := id hc
  have hin0 : ∀ w ∈ u_ws RX0 TX0 7, w ∈ wsX1_possiblySick := by decide +kernel
  have hin1 : ∀ w ∈ u_ws RX1 TX1 4, w ∈ wsX1_possiblySick := by decide +kernel
  have hin6 : ∀ w ∈ u_ws RX6 TX6 2, w ∈ wsX1_possiblySick := by decide +kernel
  have hf23 := hts (.fieldLink RX1 23 "RegaliaVotes$Minutes" "vote" "LRegaliaVotes$Vote;") (by decide +kernel)
  have hf56 := hts (.fieldLink RX1 56 "RegaliaVotes$Vote" "told" "LRegaliaVotes$Council;") (by decide +kernel)
  have hf60 := hts (.fieldLink RX1 60 "RegaliaVotes$Council" "officers" "I") (by decide +kernel)
  refine wk_enter (n := 3) (Nat.le_of_ble_eq_true rfl) (fun ls hl => ?_)
  have hl : lv_has ls 3 [(0, .ref (a 11))] := hl
  refine wk_cut 14 [] (fun z => z = (if pSoSick (cK c) (cM c) (cI c) 0 then 32 else 0)) (fun x14 hx14 => ?_) (fun k14 => ?_)
  · subst hx14
    refine lv_istore_n (lv' := [(1, .int (if pSoSick (cK c) (cM c) (cI c) 0 then 32 else 0)), (0, .ref (a 11))]) hx hb dX1_possiblySick_14 rfl hl (by decide) rfl (fun ls hl => ?_)
    refine lv_iconst (v := 0) hx hb dX1_possiblySick_15 (by decide) ?_
    refine lv_istore_n (lv' := [(2, .int 0), (1, .int (if pSoSick (cK c) (cM c) (cI c) 0 then 32 else 0)), (0, .ref (a 11))]) hx hb dX1_possiblySick_16 rfl hl (by decide) rfl (fun ls hl => ?_)
    refine wk_loop (σ := Nat × Int32) (nL := 3) (fun xσ n => match xσ with | (i, z) => i + n = kO (cK c) ∧ z = pWhoF (cK c) (cM c) (cI c) i) (fun xσ => match xσ with | (i, z) => [(2, .int (nI i)), (1, .int z), (0, .ref (a 11))]) (0, if pSoSick (cK c) (cM c) (cI c) 0 then 32 else 0) (kO (cK c)) (⟨by omega, rfl⟩) hl ?_
    rintro n17 ⟨i, z⟩ ls hI17 hl ih17
    have hl : lv_has ls 3 [(2, .int (nI i)), (1, .int z), (0, .ref (a 11))] := hl
    obtain ⟨hi, hz⟩ := hI17
    refine lv_iload_n hx hb dX1_possiblySick_17 rfl (lv_at hl 0 rfl) ?_
    refine lv_aload_n hx hb dX1_possiblySick_18 rfl (lv_at hl 2 rfl) ?_
    refine va_get (D := G.1) (v := .ref (a 9)) hx hb hts hin1 hown hK hP 11 rfl rfl 0 (by decide) hf23 (fun _ h => h) rfl dX1_possiblySick_19 ?_
    refine va_get (D := G.1) (v := .ref (a 1)) hx hb hts hin6 hown hK hP 9 rfl rfl 0 (by decide) hf56 (fun _ h => h) rfl dX1_possiblySick_22 ?_
    refine va_get (D := G.1) (v := .int (nI (kO (cK c)))) hx hb hts hin0 hown hK hP 1 rfl rfl 1 (by decide) hf60 (fun _ h => h) rfl dX1_possiblySick_25 ?_
    refine wk_ge (x := i) (y := (kO (cK c))) (tgt := 53) hx hb (by omega) (by omega) dX1_possiblySick_28 (by decide) (fun c28 => ?_) (fun c28 => ?_)
    · refine lv_iload_n hx hb dX1_possiblySick_53 rfl (lv_at hl 1 rfl) ?_
      exact wk_ret hx hb hr hlocks dX1_possiblySick_54 (by rw [hz, show i = kO (cK c) by omega]; rfl)
    · refine lv_aload_n hx hb dX1_possiblySick_31 rfl (lv_at hl 2 rfl) ?_
      refine lv_iconst (v := 1) hx hb dX1_possiblySick_32 (by decide) ?_
      refine lv_iload_n hx hb dX1_possiblySick_33 rfl (lv_at hl 0 rfl) ?_
      refine lv_ishl hx hb dX1_possiblySick_34 ?_
      show W _ _ _ _ _ _ _ _ _ _ _ _ _ _ _ (F0 _ _ _ (.int (sh1 (nI i)) :: _))
      refine wk_read (va_runV (As := [.int (sh1 (nI i))]) (rest := []) ⟨hx, hb, hml, hown, hts⟩ (c_X1_isSoIfSick l G a c hc (sh1 (nI i))) (cwV 1 hts gX1_possiblySick_X1_isSoIfSick rfl rfl rfl hdV_X1_isSoIfSick ⟨Nat.le_of_ble_eq_true rfl, Nat.le_of_ble_eq_true rfl⟩) (hR.pre (ci := 1) (q0 := 11) rfl rfl) rfl rfl hl.1 rfl (lv_room (Nat.le_of_ble_eq_true rfl)) dX1_possiblySick_35 ⟨hrc, hrs⟩) ?_
      refine lv_if_eq (tgt := 47) hx hb dX1_possiblySick_38 (by decide) (fun c38 => ?_) (fun c38 => ?_)
      · have c38 := b2i_f c38
        refine lv_iinc (v := (nI (i + 1))) (lv' := [(2, .int (nI (i + 1))), (1, .int z), (0, .ref (a 11))]) hx hb dX1_possiblySick_47 hl (k := 0) rfl (wk_i1 i) (by decide) rfl (fun ls hl => ?_)
        refine lv_goto (tgt := 17) hx hb dX1_possiblySick_50 (by decide) ?_
        exact ih17 (i + 1, z) (n17 - 1) ls (by omega) (⟨by omega, by rw [hz]; simp [pWhoF, fo_s, c28, c38]⟩) (lv_sub hl [0, 1, 2] rfl)
      · have c38 := b2i_t c38
        refine lv_iload_n hx hb dX1_possiblySick_41 rfl (lv_at hl 1 rfl) ?_
        refine lv_iconst (v := 1) hx hb dX1_possiblySick_42 (by decide) ?_
        refine lv_iload_n hx hb dX1_possiblySick_43 rfl (lv_at hl 0 rfl) ?_
        refine lv_ishl hx hb dX1_possiblySick_44 ?_
        show W _ _ _ _ _ _ _ _ _ _ _ _ _ _ _ (F0 _ _ _ (.int (sh1 (nI i)) :: _))
        refine lv_ior hx hb dX1_possiblySick_45 ?_
        refine lv_istore_n (lv' := [(1, .int (z ||| (sh1 (nI i)))), (2, .int (nI i)), (0, .ref (a 11))]) hx hb dX1_possiblySick_46 rfl hl (by decide) rfl (fun ls hl => ?_)
        refine lv_iinc (v := (nI (i + 1))) (lv' := [(2, .int (nI (i + 1))), (1, .int (z ||| (sh1 (nI i)))), (0, .ref (a 11))]) hx hb dX1_possiblySick_47 hl (k := 1) rfl (wk_i1 i) (by decide) rfl (fun ls hl => ?_)
        refine lv_goto (tgt := 17) hx hb dX1_possiblySick_50 (by decide) ?_
        exact ih17 (i + 1, (z ||| (sh1 (nI i)))) (n17 - 1) ls (by omega) (⟨by omega, by rw [hz]; simp [pWhoF, fo_s, c28, c38]⟩) (lv_sub hl [0, 1, 2] rfl)
  · refine lv_aload_n hx hb dX1_possiblySick_0 rfl (lv_at hl 0 rfl) ?_
    refine lv_iconst (v := 0) hx hb dX1_possiblySick_1 (by decide) ?_
    refine wk_read (va_runV (As := [.int 0]) (rest := []) ⟨hx, hb, hml, hown, hts⟩ (c_X1_isSoIfSick l G a c hc 0) (cwV 1 hts gX1_possiblySick_X1_isSoIfSick rfl rfl rfl hdV_X1_isSoIfSick ⟨Nat.le_of_ble_eq_true rfl, Nat.le_of_ble_eq_true rfl⟩) (hR.pre (ci := 1) (q0 := 11) rfl rfl) rfl rfl hl.1 rfl (lv_room (Nat.le_of_ble_eq_true rfl)) dX1_possiblySick_2 ⟨hrc, hrs⟩) ?_
    refine lv_if_eq (tgt := 13) hx hb dX1_possiblySick_5 (by decide) (fun c5 => ?_) (fun c5 => ?_)
    · have c5 := b2i_f c5
      refine lv_iconst (v := 0) hx hb dX1_possiblySick_13 (by decide) ?_
      exact k14 0 (by simp [c5])
    · have c5 := b2i_t c5
      refine lv_bipush (v := 32) hx hb dX1_possiblySick_8 (by decide) ?_
      refine lv_goto (tgt := 14) hx hb dX1_possiblySick_10 (by decide) ?_
      exact k14 32 (by simp [c5])
theorem hdS_X7_commonDivisor : yX7_commonDivisor.cls ≠ "java/lang/invoke/MethodHandle" ∧ yX7_commonDivisor.cls ≠ "java/lang/invoke/VarHandle" ∧ (parseMethodDescriptor yX7_commonDivisor.desc).map (fun d => d.parameters.length) = some 2 := by decide +kernel
set_option maxHeartbeats 4000000 in
set_option maxRecDepth 100000 in
theorem c_X7_commonDivisor (l : Launch) (x : Int32) (y : Int32) : Met l yX7_commonDivisor wsX7_commonDivisor ({ frames := 0, cells := 0, slots := 0, locals := 0 }) (fun v _ => v = ([.int x, .int y] : List Value).toArray) (QcRead (pGcd x y)) 0 0 (fun _ => False) := by
  refine Met.ofW (cc := cX7_commonDivisor) (maxL := 6) (ret := (some .int)) (by decide) rfl ?_
  intro p e s m args below meth cd s₁ BB hml hv
  subst hv
  have hx := BB.exec
  have hb := BB.bytes
  have hr := BB.returns
  have hts := atoms_spec (ws := wsX7_commonDivisor) BB.pre
  have hown : s.vm.findClass RX7 = some m.cls := findClass_of_methodNamed BB.named
  have hlocks := BB.notSynchronized
  have hrc : 0 + 0 ≤ (headSpec wsX7_commonDivisor ({ frames := 0, cells := 0, slots := 0, locals := 0 })).room.cells := Nat.le_refl _
  have hrs : 0 + 0 ≤ (headSpec wsX7_commonDivisor ({ frames := 0, cells := 0, slots := 0, locals := 0 })).room.slots := Nat.le_refl _
  refine wk_enter (n := 6) (Nat.le_of_ble_eq_true rfl) (fun ls hl => ?_)
  have hl : lv_has ls 6 [(0, .int x), (1, .int y)] := hl
  refine lv_iload_n hx hb dX7_commonDivisor_0 rfl (lv_at hl 0 rfl) ?_
  refine lv_istore_n (lv' := [(2, .int x), (0, .int x), (1, .int y)]) hx hb dX7_commonDivisor_1 rfl hl (by decide) rfl (fun ls hl => ?_)
  refine lv_iload_n hx hb dX7_commonDivisor_2 rfl (lv_at hl 2 rfl) ?_
  refine lv_istore_n (lv' := [(3, .int y), (2, .int x), (0, .int x), (1, .int y)]) hx hb dX7_commonDivisor_3 rfl hl (by decide) rfl (fun ls hl => ?_)
  refine lv_iconst (v := 0) hx hb dX7_commonDivisor_4 (by decide) ?_
  refine lv_istore (lv' := [(4, .int 0), (3, .int y), (2, .int x), (0, .int x), (1, .int y)]) hx hb dX7_commonDivisor_5 hl (by decide) rfl (fun ls hl => ?_)
  refine wk_loop (σ := Nat × Int32 × Int32) (nL := 6) (fun xσ n => match xσ with | (i, u, w) => i + n = 64 ∧ gcdF n u w = gcdF 64 x y) (fun xσ => match xσ with | (i, u, w) => [(4, .int (nI i)), (3, .int w), (2, .int u), (0, .int x), (1, .int y)]) (0, x, y) 64 (⟨by omega, rfl⟩) hl ?_
  rintro n7 ⟨i, u, w⟩ ls hI7 hl ih7
  have hl : lv_has ls 6 [(4, .int (nI i)), (3, .int w), (2, .int u), (0, .int x), (1, .int y)] := hl
  obtain ⟨hi, hz⟩ := hI7
  refine lv_iload hx hb dX7_commonDivisor_7 (lv_at hl 0 rfl) ?_
  refine lv_bipush (v := 64) hx hb dX7_commonDivisor_9 (by decide) ?_
  refine wk_ge (x := i) (y := 64) (tgt := 34) hx hb (by omega) (by omega) dX7_commonDivisor_11 (by decide) (fun c11 => ?_) (fun c11 => ?_)
  · refine lv_iload_n hx hb dX7_commonDivisor_34 rfl (lv_at hl 2 rfl) ?_
    exact wk_ret hx hb hr hlocks dX7_commonDivisor_35 (by rw [pGcd, ← hz, show n7 = 0 by omega]; rfl)
  · refine lv_iload_n hx hb dX7_commonDivisor_14 rfl (lv_at hl 1 rfl) ?_
    refine lv_if_eq (tgt := 34) hx hb dX7_commonDivisor_15 (by decide) (fun c15 => ?_) (fun c15 => ?_)
    · refine lv_iload_n hx hb dX7_commonDivisor_34 rfl (lv_at hl 2 rfl) ?_
      exact wk_ret hx hb hr hlocks dX7_commonDivisor_35 (by rw [pGcd, ← hz, c15]; cases n7 <;> simp [gcdF])
    · refine lv_iload_n hx hb dX7_commonDivisor_18 rfl (lv_at hl 2 rfl) ?_
      refine lv_iload_n hx hb dX7_commonDivisor_19 rfl (lv_at hl 1 rfl) ?_
      refine lv_irem hx hb dX7_commonDivisor_20 c15 ?_
      refine lv_istore (lv' := [(5, .int (u - u / w * w)), (4, .int (nI i)), (3, .int w), (2, .int u), (0, .int x), (1, .int y)]) hx hb dX7_commonDivisor_21 hl (by decide) rfl (fun ls hl => ?_)
      refine lv_iload_n hx hb dX7_commonDivisor_23 rfl (lv_at hl 2 rfl) ?_
      refine lv_istore_n (lv' := [(2, .int w), (5, .int (u - u / w * w)), (4, .int (nI i)), (3, .int w), (0, .int x), (1, .int y)]) hx hb dX7_commonDivisor_24 rfl hl (by decide) rfl (fun ls hl => ?_)
      refine lv_iload hx hb dX7_commonDivisor_25 (lv_at hl 1 rfl) ?_
      refine lv_istore_n (lv' := [(3, .int (u - u / w * w)), (2, .int w), (5, .int (u - u / w * w)), (4, .int (nI i)), (0, .int x), (1, .int y)]) hx hb dX7_commonDivisor_27 rfl hl (by decide) rfl (fun ls hl => ?_)
      refine lv_iinc (v := (nI (i + 1))) (lv' := [(4, .int (nI (i + 1))), (3, .int (u - u / w * w)), (2, .int w), (5, .int (u - u / w * w)), (0, .int x), (1, .int y)]) hx hb dX7_commonDivisor_28 hl (k := 3) rfl (wk_i1 i) (by decide) rfl (fun ls hl => ?_)
      refine lv_goto (tgt := 7) hx hb dX7_commonDivisor_31 (by decide) ?_
      obtain ⟨m7, rfl⟩ : ∃ m7, n7 = m7 + 1 := ⟨n7 - 1, by omega⟩
      exact ih7 (i + 1, w, u - u / w * w) m7 ls (by omega) (⟨by omega, by rw [← hz, gcdF, if_neg c15]⟩) (lv_sub hl [0, 1, 2, 4, 5] rfl)
theorem hdS_X7_term : yX7_term.cls ≠ "java/lang/invoke/MethodHandle" ∧ yX7_term.cls ≠ "java/lang/invoke/VarHandle" ∧ (parseMethodDescriptor yX7_term.desc).map (fun d => d.parameters.length) = some 3 := by decide +kernel
set_option maxHeartbeats 4000000 in
set_option maxRecDepth 100000 in
theorem c_X7_term (l : Launch) (x : Int32) (y : Int32) (w : Int32) : Met l yX7_term wsX7_term ({ frames := 1, cells := 0, slots := 0, locals := 25 }) (fun v _ => v = ([.int x, .int y, .int w] : List Value).toArray) (QcRead (pTerm x y w)) 0 0 (fun _ => False) := by
  refine Met.ofW (cc := cX7_term) (maxL := 4) (ret := (some .int)) (by decide) rfl ?_
  intro p e s m args below meth cd s₁ BB hml hv
  subst hv
  have hx := BB.exec
  have hb := BB.bytes
  have hr := BB.returns
  have hts := atoms_spec (ws := wsX7_term) BB.pre
  have hown : s.vm.findClass RX7 = some m.cls := findClass_of_methodNamed BB.named
  have hlocks := BB.notSynchronized
  have hrc : 0 + 0 ≤ (headSpec wsX7_term ({ frames := 1, cells := 0, slots := 0, locals := 25 })).room.cells := Nat.le_refl _
  have hrs : 0 + 0 ≤ (headSpec wsX7_term ({ frames := 1, cells := 0, slots := 0, locals := 25 })).room.slots := Nat.le_refl _
  refine wk_enter (n := 4) (Nat.le_of_ble_eq_true rfl) (fun ls hl => ?_)
  have hl : lv_has ls 4 [(0, .int x), (1, .int y), (2, .int w)] := hl
  refine lv_iload_n hx hb dX7_term_0 rfl (lv_at hl 0 rfl) ?_
  refine lv_iload_n hx hb dX7_term_1 rfl (lv_at hl 1 rfl) ?_
  refine wk_read (va_runS (As := [.int x, .int y]) (rest := []) ⟨hx, hb, hml, hown, hts⟩ (c_X7_commonDivisor l x y) (va_cwS 2 hts gX7_term_X7_commonDivisor rfl rfl rfl hdS_X7_commonDivisor ⟨Nat.le_of_ble_eq_true rfl, Nat.le_of_ble_eq_true rfl⟩) preEq rfl rfl hl.1 rfl (lv_room (Nat.le_of_ble_eq_true rfl)) dX7_term_2 ⟨hrc, hrs⟩) ?_
  refine lv_istore_n (lv' := [(3, .int (pGcd x y)), (0, .int x), (1, .int y), (2, .int w)]) hx hb dX7_term_5 rfl hl (by decide) rfl (fun ls hl => ?_)
  refine lv_iload_n hx hb dX7_term_6 rfl (lv_at hl 0 rfl) ?_
  refine lv_if_ne (tgt := 12) hx hb dX7_term_7 (by decide) (fun c7 => ?_) (fun c7 => ?_)
  · refine lv_iload_n hx hb dX7_term_12 rfl (lv_at hl 3 rfl) ?_
    refine lv_if_ne (tgt := 22) hx hb dX7_term_13 (by decide) (fun c13 => ?_) (fun c13 => ?_)
    · refine lv_iload_n hx hb dX7_term_22 rfl (lv_at hl 2 rfl) ?_
      refine lv_iload_n hx hb dX7_term_23 rfl (lv_at hl 0 rfl) ?_
      refine lv_idiv hx hb dX7_term_24 c7 ?_
      exact wk_ret hx hb hr hlocks dX7_term_25 (by simp [pTerm, c7, c13])
    · refine lv_iload_n hx hb dX7_term_16 rfl (lv_at hl 1 rfl) ?_
      refine lv_iload_n hx hb dX7_term_17 rfl (lv_at hl 0 rfl) ?_
      refine lv_idiv hx hb dX7_term_18 c7 ?_
      refine lv_goto (tgt := 25) hx hb dX7_term_19 (by decide) ?_
      exact wk_ret hx hb hr hlocks dX7_term_25 (by simp [pTerm, c7, c13])
  · refine lv_iload_n hx hb dX7_term_10 rfl (lv_at hl 3 rfl) ?_
    exact wk_ret hx hb hr hlocks dX7_term_11 (by simp [pTerm, c7])
theorem hdV_X7_thing : yX7_thing.cls = RX7 ∧ yX7_thing.cls ≠ "java/lang/invoke/MethodHandle" ∧ yX7_thing.cls ≠ "java/lang/invoke/VarHandle" ∧ (parseMethodDescriptor yX7_thing.desc).map (fun d => d.parameters.length) = some 2 := by decide +kernel
set_option maxHeartbeats 4000000 in
set_option maxRecDepth 100000 in
theorem c_X7_thing (l : Launch) (G : GG) (a : Nat → Nat) (c : CX) (hc : OkR c) (t : Int32) (w : Int32) : Met l yX7_thing wsX7_thing ({ frames := 4, cells := 0, slots := 0, locals := 85 }) (va_Pc [.ref (a 0), .int t, .int w] (fun U => PreW G (WR G a c) U U.heap)) (QcRead (xThing c t w)) 0 0 (fun _ => False) := by
  refine Met.ofW (cc := cX7_thing) (maxL := 3) (ret := (some .int)) (by decide) rfl ?_
  intro p e s m args below meth cd s₁ BB hml hv
  obtain ⟨rfl, hR⟩ := hv
  have hx := BB.exec
  have hb := BB.bytes
  have hr := BB.returns
  have hts := atoms_spec (ws := wsX7_thing) BB.pre
  have hown : s.vm.findClass RX7 = some m.cls := findClass_of_methodNamed BB.named
  have hlocks := BB.notSynchronized
  have hrc : 0 + 0 ≤ (headSpec wsX7_thing ({ frames := 4, cells := 0, slots := 0, locals := 85 })).room.cells := Nat.le_refl _
  have hrs : 0 + 0 ≤ (headSpec wsX7_thing ({ frames := 4, cells := 0, slots := 0, locals := 85 })).room.slots := Nat.le_refl _
  have hP := hR.1
  have hK := hR.2.1
  have hN := hR.2.2
  obtain ⟨hk7, ho1, ho5, hi6, hl200, hnx, hkn⟩ := id hc
  have hin0 : ∀ w ∈ u_ws RX0 TX0 7, w ∈ wsX7_thing := by decide +kernel
  have hin2 : ∀ w ∈ u_ws RX2 TX2 7, w ∈ wsX7_thing := by decide +kernel
  have hin7 : ∀ w ∈ u_ws RX7 TX7 13, w ∈ wsX7_thing := by decide +kernel
  have hf20 := hts (.fieldLink RX7 20 "RegaliaVotes" "told" "LRegaliaVotes$Council;") (by decide +kernel)
  have hf39 := hts (.fieldLink RX7 39 "RegaliaVotes" "moment" "LRegaliaVotes$Moment;") (by decide +kernel)
  have hf48 := hts (.fieldLink RX7 48 "RegaliaVotes" "vote" "LRegaliaVotes$Vote;") (by decide +kernel)
  have hf107 := hts (.fieldLink RX7 107 "RegaliaVotes$Council" "sort" "[I") (by decide +kernel)
  have hf111 := hts (.fieldLink RX7 111 "RegaliaVotes$Council" "votes" "[I") (by decide +kernel)
  have hf114 := hts (.fieldLink RX7 114 "RegaliaVotes$Council" "forBills" "[I") (by decide +kernel)
  have hf117 := hts (.fieldLink RX7 117 "RegaliaVotes$Moment" "holder" "[I") (by decide +kernel)
  have hf120 := hts (.fieldLink RX7 120 "RegaliaVotes$Moment" "wash" "I") (by decide +kernel)
  have hf127 := hts (.fieldLink RX7 127 "RegaliaVotes$Moment" "turned" "I") (by decide +kernel)
  have hf130 := hts (.fieldLink RX7 130 "RegaliaVotes$Moment" "warmth" "[I") (by decide +kernel)
  refine wk_enter (n := 3) (Nat.le_of_ble_eq_true rfl) (fun ls hl => ?_)
  have hl : lv_has ls 3 [(0, .ref (a 0)), (1, .int t), (2, .int w)] := hl
  refine lv_aload_n hx hb dX7_thing_0 rfl (lv_at hl 0 rfl) ?_
  refine lv_iload_n hx hb dX7_thing_1 rfl (lv_at hl 1 rfl) ?_
  refine wk_read (va_runV (As := [.int t]) (rest := []) ⟨hx, hb, hml, hown, hts⟩ (c_X7_noThing l G a c hc t) (cwV 1 hts gX7_thing_X7_noThing rfl rfl rfl hdV_X7_noThing ⟨Nat.le_of_ble_eq_true rfl, Nat.le_of_ble_eq_true rfl⟩) (hR.pre (ci := 7) (q0 := 0) rfl rfl) rfl rfl hl.1 rfl (lv_room (Nat.le_of_ble_eq_true rfl)) dX7_thing_2 ⟨hrc, hrs⟩) ?_
  refine lv_if_eq (tgt := 10) hx hb dX7_thing_5 (by decide) (fun c5 => ?_) (fun c5 => ?_)
  · have c5 := b2i_f c5
    obtain ⟨j, hj, rfl⟩ := pNoT_n c5 hk7
    have hcl := nI_clamp (show j < 2 ^ 31 by omega)
    refine lv_iload_n hx hb dX7_thing_10 rfl (lv_at hl 2 rfl) ?_
    rcases wk_sw0_7 w with c11 | c11 | c11 | c11 | c11 | c11 | c11 | c11 | c11
    · refine lv_tableIn (tgt := 56) hx hb dX7_thing_11 (by rw [c11]; decide) (by rw [c11]; decide) (by rw [c11]; rfl) (by decide) ?_
      refine lv_aload_n hx hb dX7_thing_56 rfl (lv_at hl 0 rfl) ?_
      refine va_get (D := G.1) (v := .ref (a 1)) hx hb hts hin7 hown hK hP 0 rfl rfl 2 (by decide) hf20 (fun _ h => h) rfl dX7_thing_57 ?_
      refine va_get (D := G.1) (v := .ref (a 2)) hx hb hts hin0 hown hK hP 1 rfl rfl 3 (by decide) hf107 (fun _ h => h) rfl dX7_thing_60 ?_
      refine lv_iload_n hx hb dX7_thing_63 rfl (lv_at hl 1 rfl) ?_
      refine wk_iald (i := j) hx hb hK hP 2 1 rfl rfl (by omega) (Nat.le_of_ble_eq_true rfl) dX7_thing_64 ?_
      exact wk_ret hx hb hr hlocks dX7_thing_65 (by simp [xThing, hcl, c5, c11])
    · refine lv_tableIn (tgt := 66) hx hb dX7_thing_11 (by rw [c11]; decide) (by rw [c11]; decide) (by rw [c11]; rfl) (by decide) ?_
      refine lv_aload_n hx hb dX7_thing_66 rfl (lv_at hl 0 rfl) ?_
      refine va_get (D := G.1) (v := .ref (a 1)) hx hb hts hin7 hown hK hP 0 rfl rfl 2 (by decide) hf20 (fun _ h => h) rfl dX7_thing_67 ?_
      refine va_get (D := G.1) (v := .ref (a 3)) hx hb hts hin0 hown hK hP 1 rfl rfl 4 (by decide) hf111 (fun _ h => h) rfl dX7_thing_70 ?_
      refine lv_iload_n hx hb dX7_thing_73 rfl (lv_at hl 1 rfl) ?_
      refine wk_iald (i := j) hx hb hK hP 3 1 rfl rfl (by omega) (Nat.le_of_ble_eq_true rfl) dX7_thing_74 ?_
      exact wk_ret hx hb hr hlocks dX7_thing_75 (by simp [xThing, hcl, c5, c11])
    · refine lv_tableIn (tgt := 76) hx hb dX7_thing_11 (by rw [c11]; decide) (by rw [c11]; decide) (by rw [c11]; rfl) (by decide) ?_
      refine lv_aload_n hx hb dX7_thing_76 rfl (lv_at hl 0 rfl) ?_
      refine va_get (D := G.1) (v := .ref (a 1)) hx hb hts hin7 hown hK hP 0 rfl rfl 2 (by decide) hf20 (fun _ h => h) rfl dX7_thing_77 ?_
      refine va_get (D := G.1) (v := .ref (a 4)) hx hb hts hin0 hown hK hP 1 rfl rfl 5 (by decide) hf114 (fun _ h => h) rfl dX7_thing_80 ?_
      refine lv_iload_n hx hb dX7_thing_83 rfl (lv_at hl 1 rfl) ?_
      refine wk_iald (i := j) hx hb hK hP 4 1 rfl rfl (by omega) (Nat.le_of_ble_eq_true rfl) dX7_thing_84 ?_
      exact wk_ret hx hb hr hlocks dX7_thing_85 (by simp [xThing, hcl, c5, c11])
    · refine lv_tableIn (tgt := 86) hx hb dX7_thing_11 (by rw [c11]; decide) (by rw [c11]; decide) (by rw [c11]; rfl) (by decide) ?_
      refine lv_aload_n hx hb dX7_thing_86 rfl (lv_at hl 0 rfl) ?_
      refine va_get (D := G.1) (v := .ref (a 6)) hx hb hts hin7 hown hK hP 0 rfl rfl 5 (by decide) hf39 (fun _ h => h) rfl dX7_thing_87 ?_
      refine va_get (D := G.1) (v := .ref (a 7)) hx hb hts hin2 hown hK hP 6 rfl rfl 0 (by decide) hf117 (fun _ h => h) rfl dX7_thing_90 ?_
      refine lv_iload_n hx hb dX7_thing_93 rfl (lv_at hl 1 rfl) ?_
      refine wk_iald (i := j) hx hb hK hP 7 1 rfl rfl (by omega) (Nat.le_of_ble_eq_true rfl) dX7_thing_94 ?_
      exact wk_ret hx hb hr hlocks dX7_thing_95 (by simp [xThing, hcl, c5, c11])
    · refine lv_tableIn (tgt := 96) hx hb dX7_thing_11 (by rw [c11]; decide) (by rw [c11]; decide) (by rw [c11]; rfl) (by decide) ?_
      refine lv_aload_n hx hb dX7_thing_96 rfl (lv_at hl 0 rfl) ?_
      refine va_get (D := G.1) (v := .ref (a 6)) hx hb hts hin7 hown hK hP 0 rfl rfl 5 (by decide) hf39 (fun _ h => h) rfl dX7_thing_97 ?_
      refine va_get (D := G.1) (v := .int (mWa (cM c))) hx hb hts hin2 hown hK hP 6 rfl rfl 2 (by decide) hf120 (fun _ h => h) rfl dX7_thing_100 ?_
      refine lv_iload_n hx hb dX7_thing_103 rfl (lv_at hl 1 rfl) ?_
      refine wk_read (va_runS (As := [.int (mWa (cM c)), .int (nI j)]) (rest := []) ⟨hx, hb, hml, hown, hts⟩ (c_X7_bit l (mWa (cM c)) (nI j)) (va_cwS 2 hts gX7_thing_X7_bit rfl rfl rfl hdS_X7_bit ⟨Nat.le_of_ble_eq_true rfl, Nat.le_of_ble_eq_true rfl⟩) preEq rfl rfl hl.1 rfl (lv_room (Nat.le_of_ble_eq_true rfl)) dX7_thing_104 ⟨hrc, hrs⟩) ?_
      exact wk_ret hx hb hr hlocks dX7_thing_107 (by simp [xThing, hcl, c5, c11])
    · refine lv_tableIn (tgt := 108) hx hb dX7_thing_11 (by rw [c11]; decide) (by rw [c11]; decide) (by rw [c11]; rfl) (by decide) ?_
      refine lv_aload_n hx hb dX7_thing_108 rfl (lv_at hl 0 rfl) ?_
      refine va_get (D := G.1) (v := .ref (a 6)) hx hb hts hin7 hown hK hP 0 rfl rfl 5 (by decide) hf39 (fun _ h => h) rfl dX7_thing_109 ?_
      refine va_get (D := G.1) (v := .int (mTu (cM c))) hx hb hts hin2 hown hK hP 6 rfl rfl 3 (by decide) hf127 (fun _ h => h) rfl dX7_thing_112 ?_
      refine lv_iload_n hx hb dX7_thing_115 rfl (lv_at hl 1 rfl) ?_
      refine wk_read (va_runS (As := [.int (mTu (cM c)), .int (nI j)]) (rest := []) ⟨hx, hb, hml, hown, hts⟩ (c_X7_bit l (mTu (cM c)) (nI j)) (va_cwS 2 hts gX7_thing_X7_bit rfl rfl rfl hdS_X7_bit ⟨Nat.le_of_ble_eq_true rfl, Nat.le_of_ble_eq_true rfl⟩) preEq rfl rfl hl.1 rfl (lv_room (Nat.le_of_ble_eq_true rfl)) dX7_thing_116 ⟨hrc, hrs⟩) ?_
      exact wk_ret hx hb hr hlocks dX7_thing_119 (by simp [xThing, hcl, c5, c11])
    · refine lv_tableIn (tgt := 120) hx hb dX7_thing_11 (by rw [c11]; decide) (by rw [c11]; decide) (by rw [c11]; rfl) (by decide) ?_
      refine lv_aload_n hx hb dX7_thing_120 rfl (lv_at hl 0 rfl) ?_
      refine va_get (D := G.1) (v := .ref (a 6)) hx hb hts hin7 hown hK hP 0 rfl rfl 5 (by decide) hf39 (fun _ h => h) rfl dX7_thing_121 ?_
      refine va_get (D := G.1) (v := .ref (a 8)) hx hb hts hin2 hown hK hP 6 rfl rfl 1 (by decide) hf130 (fun _ h => h) rfl dX7_thing_124 ?_
      refine lv_iload_n hx hb dX7_thing_127 rfl (lv_at hl 1 rfl) ?_
      refine wk_iald (i := j) hx hb hK hP 8 1 rfl rfl (by omega) (Nat.le_of_ble_eq_true rfl) dX7_thing_128 ?_
      exact wk_ret hx hb hr hlocks dX7_thing_129 (by simp [xThing, hcl, c5, c11])
    · refine lv_tableIn (tgt := 130) hx hb dX7_thing_11 (by rw [c11]; decide) (by rw [c11]; decide) (by rw [c11]; rfl) (by decide) ?_
      refine lv_aload_n hx hb dX7_thing_130 rfl (lv_at hl 0 rfl) ?_
      refine va_get (D := G.1) (v := .ref (a 9)) hx hb hts hin7 hown hK hP 0 rfl rfl 6 (by decide) hf48 (fun _ h => h) rfl dX7_thing_131 ?_
      refine wk_read (va_runV (As := []) (rest := []) ⟨hx, hb, hml, hown, hts⟩ (c_X6_voices l G a c hc) (cwV 0 hts gX7_thing_X6_voices rfl rfl rfl hdV_X6_voices ⟨Nat.le_of_ble_eq_true rfl, Nat.le_of_ble_eq_true rfl⟩) (hR.pre (ci := 6) (q0 := 9) rfl rfl) rfl rfl hl.1 rfl (lv_room (Nat.le_of_ble_eq_true rfl)) dX7_thing_134 ⟨hrc, hrs⟩) ?_
      refine lv_iload_n hx hb dX7_thing_137 rfl (lv_at hl 1 rfl) ?_
      refine wk_read (va_runS (As := [.int (pVoices (cK c) (cM c)), .int (nI j)]) (rest := []) ⟨hx, hb, hml, hown, hts⟩ (c_X7_bit l (pVoices (cK c) (cM c)) (nI j)) (va_cwS 2 hts gX7_thing_X7_bit rfl rfl rfl hdS_X7_bit ⟨Nat.le_of_ble_eq_true rfl, Nat.le_of_ble_eq_true rfl⟩) preEq rfl rfl hl.1 rfl (lv_room (Nat.le_of_ble_eq_true rfl)) dX7_thing_138 ⟨hrc, hrs⟩) ?_
      exact wk_ret hx hb hr hlocks dX7_thing_141 (by simp [xThing, hcl, c5, c11])
    · have q11_0 : ¬ w = 0 := by intro q; rw [q] at c11; revert c11; decide
      have q11_1 : ¬ w = 1 := by intro q; rw [q] at c11; revert c11; decide
      have q11_2 : ¬ w = 2 := by intro q; rw [q] at c11; revert c11; decide
      have q11_3 : ¬ w = 3 := by intro q; rw [q] at c11; revert c11; decide
      have q11_4 : ¬ w = 4 := by intro q; rw [q] at c11; revert c11; decide
      have q11_5 : ¬ w = 5 := by intro q; rw [q] at c11; revert c11; decide
      have q11_6 : ¬ w = 6 := by intro q; rw [q] at c11; revert c11; decide
      have q11_7 : ¬ w = 7 := by intro q; rw [q] at c11; revert c11; decide
      refine lv_tableOut (tgt := 142) hx hb dX7_thing_11 c11 (by decide) ?_
      refine lv_iconst (v := -1) hx hb dX7_thing_142 (by decide) ?_
      exact wk_ret hx hb hr hlocks dX7_thing_143 (by simp [xThing, hcl, c5, q11_0, q11_1, q11_2, q11_3, q11_4, q11_5, q11_6, q11_7])
  · have c5 := b2i_t c5
    refine lv_iconst (v := -1) hx hb dX7_thing_8 (by decide) ?_
    exact wk_ret hx hb hr hlocks dX7_thing_9 (by simp [xThing, c5])
theorem hdV_X7_officer : yX7_officer.cls = RX7 ∧ yX7_officer.cls ≠ "java/lang/invoke/MethodHandle" ∧ yX7_officer.cls ≠ "java/lang/invoke/VarHandle" ∧ (parseMethodDescriptor yX7_officer.desc).map (fun d => d.parameters.length) = some 2 := by decide +kernel
set_option maxHeartbeats 4000000 in
set_option maxRecDepth 100000 in
theorem c_X7_officer (l : Launch) (G : GG) (a : Nat → Nat) (c : CX) (hc : OkR c) (f : Int32) (w : Int32) : Met l yX7_officer wsX7_officer ({ frames := 5, cells := 0, slots := 0, locals := 106 }) (va_Pc [.ref (a 0), .int f, .int w] (fun U => PreW G (WR G a c) U U.heap)) (QcRead (xOff c f w)) 0 0 (fun _ => False) := by
  refine Met.ofW (cc := cX7_officer) (maxL := 3) (ret := (some .int)) (by decide) rfl ?_
  intro p e s m args below meth cd s₁ BB hml hv
  obtain ⟨rfl, hR⟩ := hv
  have hx := BB.exec
  have hb := BB.bytes
  have hr := BB.returns
  have hts := atoms_spec (ws := wsX7_officer) BB.pre
  have hown : s.vm.findClass RX7 = some m.cls := findClass_of_methodNamed BB.named
  have hlocks := BB.notSynchronized
  have hrc : 0 + 0 ≤ (headSpec wsX7_officer ({ frames := 5, cells := 0, slots := 0, locals := 106 })).room.cells := Nat.le_refl _
  have hrs : 0 + 0 ≤ (headSpec wsX7_officer ({ frames := 5, cells := 0, slots := 0, locals := 106 })).room.slots := Nat.le_refl _
  have hP := hR.1
  have hK := hR.2.1
  have hN := hR.2.2
  obtain ⟨hk7, ho1, ho5, hi6, hl200, hnx, hkn⟩ := id hc
  have hin2 : ∀ w ∈ u_ws RX2 TX2 7, w ∈ wsX7_officer := by decide +kernel
  have hin7 : ∀ w ∈ u_ws RX7 TX7 13, w ∈ wsX7_officer := by decide +kernel
  have hf39 := hts (.fieldLink RX7 39 "RegaliaVotes" "moment" "LRegaliaVotes$Moment;") (by decide +kernel)
  have hf48 := hts (.fieldLink RX7 48 "RegaliaVotes" "vote" "LRegaliaVotes$Vote;") (by decide +kernel)
  have hf140 := hts (.fieldLink RX7 140 "RegaliaVotes$Moment" "sick" "I") (by decide +kernel)
  refine wk_enter (n := 3) (Nat.le_of_ble_eq_true rfl) (fun ls hl => ?_)
  have hl : lv_has ls 3 [(0, .ref (a 0)), (1, .int f), (2, .int w)] := hl
  refine lv_aload_n hx hb dX7_officer_0 rfl (lv_at hl 0 rfl) ?_
  refine lv_iload_n hx hb dX7_officer_1 rfl (lv_at hl 1 rfl) ?_
  refine wk_read (va_runV (As := [.int f]) (rest := []) ⟨hx, hb, hml, hown, hts⟩ (c_X7_noOfficer l G a c hc f) (cwV 1 hts gX7_officer_X7_noOfficer rfl rfl rfl hdV_X7_noOfficer ⟨Nat.le_of_ble_eq_true rfl, Nat.le_of_ble_eq_true rfl⟩) (hR.pre (ci := 7) (q0 := 0) rfl rfl) rfl rfl hl.1 rfl (lv_room (Nat.le_of_ble_eq_true rfl)) dX7_officer_2 ⟨hrc, hrs⟩) ?_
  refine lv_if_eq (tgt := 10) hx hb dX7_officer_5 (by decide) (fun c5 => ?_) (fun c5 => ?_)
  · have c5 := b2i_f c5
    refine lv_iload_n hx hb dX7_officer_10 rfl (lv_at hl 2 rfl) ?_
    rcases wk_sw0_2 w with c11 | c11 | c11 | c11
    · refine lv_tableIn (tgt := 36) hx hb dX7_officer_11 (by rw [c11]; decide) (by rw [c11]; decide) (by rw [c11]; rfl) (by decide) ?_
      refine lv_aload_n hx hb dX7_officer_36 rfl (lv_at hl 0 rfl) ?_
      refine va_get (D := G.1) (v := .ref (a 6)) hx hb hts hin7 hown hK hP 0 rfl rfl 5 (by decide) hf39 (fun _ h => h) rfl dX7_officer_37 ?_
      refine va_get (D := G.1) (v := .int (mSi (cM c))) hx hb hts hin2 hown hK hP 6 rfl rfl 4 (by decide) hf140 (fun _ h => h) rfl dX7_officer_40 ?_
      refine lv_iload_n hx hb dX7_officer_43 rfl (lv_at hl 1 rfl) ?_
      refine wk_read (va_runS (As := [.int (mSi (cM c)), .int f]) (rest := []) ⟨hx, hb, hml, hown, hts⟩ (c_X7_bit l (mSi (cM c)) f) (va_cwS 2 hts gX7_officer_X7_bit rfl rfl rfl hdS_X7_bit ⟨Nat.le_of_ble_eq_true rfl, Nat.le_of_ble_eq_true rfl⟩) preEq rfl rfl hl.1 rfl (lv_room (Nat.le_of_ble_eq_true rfl)) dX7_officer_44 ⟨hrc, hrs⟩) ?_
      exact wk_ret hx hb hr hlocks dX7_officer_47 (by simp [xOff, c5, c11])
    · refine lv_tableIn (tgt := 48) hx hb dX7_officer_11 (by rw [c11]; decide) (by rw [c11]; decide) (by rw [c11]; rfl) (by decide) ?_
      refine lv_aload_n hx hb dX7_officer_48 rfl (lv_at hl 0 rfl) ?_
      refine va_get (D := G.1) (v := .ref (a 9)) hx hb hts hin7 hown hK hP 0 rfl rfl 6 (by decide) hf48 (fun _ h => h) rfl dX7_officer_49 ?_
      refine lv_iconst (v := 1) hx hb dX7_officer_52 (by decide) ?_
      refine lv_iload_n hx hb dX7_officer_53 rfl (lv_at hl 1 rfl) ?_
      refine lv_ishl hx hb dX7_officer_54 ?_
      show W _ _ _ _ _ _ _ _ _ _ _ _ _ _ _ (F0 _ _ _ (.int (sh1 f) :: _))
      refine wk_read (va_runV (As := [.int (sh1 f)]) (rest := []) ⟨hx, hb, hml, hown, hts⟩ (c_X6_heldBy l G a c hc (sh1 f)) (cwV 1 hts gX7_officer_X6_heldBy rfl rfl rfl hdV_X6_heldBy ⟨Nat.le_of_ble_eq_true rfl, Nat.le_of_ble_eq_true rfl⟩) (hR.pre (ci := 6) (q0 := 9) rfl rfl) rfl rfl hl.1 rfl (lv_room (Nat.le_of_ble_eq_true rfl)) dX7_officer_55 ⟨hrc, hrs⟩) ?_
      exact wk_ret hx hb hr hlocks dX7_officer_58 (by simp [xOff, c5, c11])
    · refine lv_tableIn (tgt := 59) hx hb dX7_officer_11 (by rw [c11]; decide) (by rw [c11]; decide) (by rw [c11]; rfl) (by decide) ?_
      refine lv_aload_n hx hb dX7_officer_59 rfl (lv_at hl 0 rfl) ?_
      refine va_get (D := G.1) (v := .ref (a 9)) hx hb hts hin7 hown hK hP 0 rfl rfl 6 (by decide) hf48 (fun _ h => h) rfl dX7_officer_60 ?_
      refine lv_iload_n hx hb dX7_officer_63 rfl (lv_at hl 1 rfl) ?_
      refine wk_read (va_runV (As := [.int f]) (rest := []) ⟨hx, hb, hml, hown, hts⟩ (c_X6_votesHeldBy l G a c hc f) (cwV 1 hts gX7_officer_X6_votesHeldBy rfl rfl rfl hdV_X6_votesHeldBy ⟨Nat.le_of_ble_eq_true rfl, Nat.le_of_ble_eq_true rfl⟩) (hR.pre (ci := 6) (q0 := 9) rfl rfl) rfl rfl hl.1 rfl (lv_room (Nat.le_of_ble_eq_true rfl)) dX7_officer_64 ⟨hrc, hrs⟩) ?_
      exact wk_ret hx hb hr hlocks dX7_officer_67 (by simp [xOff, c5, c11])
    · have q11_0 : ¬ w = 0 := by intro q; rw [q] at c11; revert c11; decide
      have q11_1 : ¬ w = 1 := by intro q; rw [q] at c11; revert c11; decide
      have q11_2 : ¬ w = 2 := by intro q; rw [q] at c11; revert c11; decide
      refine lv_tableOut (tgt := 68) hx hb dX7_officer_11 c11 (by decide) ?_
      refine lv_iconst (v := -1) hx hb dX7_officer_68 (by decide) ?_
      exact wk_ret hx hb hr hlocks dX7_officer_69 (by simp [xOff, c5, q11_0, q11_1, q11_2])
  · have c5 := b2i_t c5
    refine lv_iconst (v := -1) hx hb dX7_officer_8 (by decide) ?_
    exact wk_ret hx hb hr hlocks dX7_officer_9 (by simp [xOff, c5])
theorem hdV_X7_bill : yX7_bill.cls = RX7 ∧ yX7_bill.cls ≠ "java/lang/invoke/MethodHandle" ∧ yX7_bill.cls ≠ "java/lang/invoke/VarHandle" ∧ (parseMethodDescriptor yX7_bill.desc).map (fun d => d.parameters.length) = some 2 := by decide +kernel
set_option maxHeartbeats 4000000 in
set_option maxRecDepth 100000 in
theorem c_X7_bill (l : Launch) (G : GG) (a : Nat → Nat) (c : CX) (hc : OkR c) (b : Int32) (w : Int32) : Met l yX7_bill wsX7_bill ({ frames := 4, cells := 0, slots := 0, locals := 85 }) (va_Pc [.ref (a 0), .int b, .int w] (fun U => PreW G (WR G a c) U U.heap)) (QcRead (xBill c b w)) 0 0 (fun _ => False) := by
  refine Met.ofW (cc := cX7_bill) (maxL := 5) (ret := (some .int)) (by decide) rfl ?_
  intro p e s m args below meth cd s₁ BB hml hv
  obtain ⟨rfl, hR⟩ := hv
  have hx := BB.exec
  have hb := BB.bytes
  have hr := BB.returns
  have hts := atoms_spec (ws := wsX7_bill) BB.pre
  have hown : s.vm.findClass RX7 = some m.cls := findClass_of_methodNamed BB.named
  have hlocks := BB.notSynchronized
  have hrc : 0 + 0 ≤ (headSpec wsX7_bill ({ frames := 4, cells := 0, slots := 0, locals := 85 })).room.cells := Nat.le_refl _
  have hrs : 0 + 0 ≤ (headSpec wsX7_bill ({ frames := 4, cells := 0, slots := 0, locals := 85 })).room.slots := Nat.le_refl _
  have hP := hR.1
  have hK := hR.2.1
  have hN := hR.2.2
  obtain ⟨hk7, ho1, ho5, hi6, hl200, hnx, hkn⟩ := id hc
  have hin7 : ∀ w ∈ u_ws RX7 TX7 13, w ∈ wsX7_bill := by decide +kernel
  have hf48 := hts (.fieldLink RX7 48 "RegaliaVotes" "vote" "LRegaliaVotes$Vote;") (by decide +kernel)
  refine wk_enter (n := 5) (Nat.le_of_ble_eq_true rfl) (fun ls hl => ?_)
  have hl : lv_has ls 5 [(0, .ref (a 0)), (1, .int b), (2, .int w)] := hl
  refine lv_iload_n hx hb dX7_bill_0 rfl (lv_at hl 1 rfl) ?_
  refine wk_read (va_runS (As := [.int b]) (rest := []) ⟨hx, hb, hml, hown, hts⟩ (c_X7_noBill l b) (va_cwS 1 hts gX7_bill_X7_noBill rfl rfl rfl hdS_X7_noBill ⟨Nat.le_of_ble_eq_true rfl, Nat.le_of_ble_eq_true rfl⟩) preEq rfl rfl hl.1 rfl (lv_room (Nat.le_of_ble_eq_true rfl)) dX7_bill_1 ⟨hrc, hrs⟩) ?_
  refine lv_if_eq (tgt := 9) hx hb dX7_bill_4 (by decide) (fun c4 => ?_) (fun c4 => ?_)
  · have c4 := b2i_f c4
    refine lv_aload_n hx hb dX7_bill_9 rfl (lv_at hl 0 rfl) ?_
    refine va_get (D := G.1) (v := .ref (a 9)) hx hb hts hin7 hown hK hP 0 rfl rfl 6 (by decide) hf48 (fun _ h => h) rfl dX7_bill_10 ?_
    refine wk_read (va_runV (As := []) (rest := []) ⟨hx, hb, hml, hown, hts⟩ (c_X6_voices l G a c hc) (cwV 0 hts gX7_bill_X6_voices rfl rfl rfl hdV_X6_voices ⟨Nat.le_of_ble_eq_true rfl, Nat.le_of_ble_eq_true rfl⟩) (hR.pre (ci := 6) (q0 := 9) rfl rfl) rfl rfl hl.1 rfl (lv_room (Nat.le_of_ble_eq_true rfl)) dX7_bill_13 ⟨hrc, hrs⟩) ?_
    refine lv_istore_n (lv' := [(3, .int (pVoices (cK c) (cM c))), (0, .ref (a 0)), (1, .int b), (2, .int w)]) hx hb dX7_bill_16 rfl hl (by decide) rfl (fun ls hl => ?_)
    refine lv_aload_n hx hb dX7_bill_17 rfl (lv_at hl 1 rfl) ?_
    refine va_get (D := G.1) (v := .ref (a 9)) hx hb hts hin7 hown hK hP 0 rfl rfl 6 (by decide) hf48 (fun _ h => h) rfl dX7_bill_18 ?_
    refine lv_iload_n hx hb dX7_bill_21 rfl (lv_at hl 2 rfl) ?_
    refine wk_read (va_runV (As := [.int b]) (rest := []) ⟨hx, hb, hml, hown, hts⟩ (c_X6_yesOf l G a c hc b) (cwV 1 hts gX7_bill_X6_yesOf rfl rfl rfl hdV_X6_yesOf ⟨Nat.le_of_ble_eq_true rfl, Nat.le_of_ble_eq_true rfl⟩) (hR.pre (ci := 6) (q0 := 9) rfl rfl) rfl rfl hl.1 rfl (lv_room (Nat.le_of_ble_eq_true rfl)) dX7_bill_22 ⟨hrc, hrs⟩) ?_
    refine lv_istore (lv' := [(4, .int (pYes (cK c) (cM c) b)), (3, .int (pVoices (cK c) (cM c))), (0, .ref (a 0)), (1, .int b), (2, .int w)]) hx hb dX7_bill_25 hl (by decide) rfl (fun ls hl => ?_)
    refine lv_iload_n hx hb dX7_bill_27 rfl (lv_at hl 4 rfl) ?_
    rcases wk_sw0_3 w with c28 | c28 | c28 | c28 | c28
    · refine lv_tableIn (tgt := 60) hx hb dX7_bill_28 (by rw [c28]; decide) (by rw [c28]; decide) (by rw [c28]; rfl) (by decide) ?_
      refine lv_aload_n hx hb dX7_bill_60 rfl (lv_at hl 2 rfl) ?_
      refine va_get (D := G.1) (v := .ref (a 9)) hx hb hts hin7 hown hK hP 0 rfl rfl 6 (by decide) hf48 (fun _ h => h) rfl dX7_bill_61 ?_
      refine lv_iload_n hx hb dX7_bill_64 rfl (lv_at hl 1 rfl) ?_
      refine lv_iload hx hb dX7_bill_65 (lv_at hl 0 rfl) ?_
      refine lv_iand hx hb dX7_bill_67 ?_
      refine wk_read (va_runV (As := [.int ((pVoices (cK c) (cM c)) &&& (pYes (cK c) (cM c) b))]) (rest := []) ⟨hx, hb, hml, hown, hts⟩ (c_X6_votesOf l G a c hc ((pVoices (cK c) (cM c)) &&& (pYes (cK c) (cM c) b))) (cwV 1 hts gX7_bill_X6_votesOf rfl rfl rfl hdV_X6_votesOf ⟨Nat.le_of_ble_eq_true rfl, Nat.le_of_ble_eq_true rfl⟩) (hR.pre (ci := 6) (q0 := 9) rfl rfl) rfl rfl hl.1 rfl (lv_room (Nat.le_of_ble_eq_true rfl)) dX7_bill_68 ⟨hrc, hrs⟩) ?_
      exact wk_ret hx hb hr hlocks dX7_bill_71 (by simp [xBill, pPasses, b2i, c4, c28])
    · refine lv_tableIn (tgt := 72) hx hb dX7_bill_28 (by rw [c28]; decide) (by rw [c28]; decide) (by rw [c28]; rfl) (by decide) ?_
      refine lv_aload_n hx hb dX7_bill_72 rfl (lv_at hl 2 rfl) ?_
      refine va_get (D := G.1) (v := .ref (a 9)) hx hb hts hin7 hown hK hP 0 rfl rfl 6 (by decide) hf48 (fun _ h => h) rfl dX7_bill_73 ?_
      refine lv_iload_n hx hb dX7_bill_76 rfl (lv_at hl 1 rfl) ?_
      refine lv_iload hx hb dX7_bill_77 (lv_at hl 0 rfl) ?_
      refine lv_iconst (v := -1) hx hb dX7_bill_79 (by decide) ?_
      refine lv_ixor hx hb dX7_bill_80 ?_
      show W _ _ _ _ _ _ _ _ _ _ _ _ _ _ _ (F0 _ _ _ (.int (iv (pYes (cK c) (cM c) b)) :: _))
      refine lv_iand hx hb dX7_bill_81 ?_
      refine wk_read (va_runV (As := [.int ((pVoices (cK c) (cM c)) &&& (iv (pYes (cK c) (cM c) b)))]) (rest := []) ⟨hx, hb, hml, hown, hts⟩ (c_X6_votesOf l G a c hc ((pVoices (cK c) (cM c)) &&& (iv (pYes (cK c) (cM c) b)))) (cwV 1 hts gX7_bill_X6_votesOf rfl rfl rfl hdV_X6_votesOf ⟨Nat.le_of_ble_eq_true rfl, Nat.le_of_ble_eq_true rfl⟩) (hR.pre (ci := 6) (q0 := 9) rfl rfl) rfl rfl hl.1 rfl (lv_room (Nat.le_of_ble_eq_true rfl)) dX7_bill_82 ⟨hrc, hrs⟩) ?_
      exact wk_ret hx hb hr hlocks dX7_bill_85 (by simp [xBill, pPasses, b2i, c4, c28])
    · refine lv_tableIn (tgt := 86) hx hb dX7_bill_28 (by rw [c28]; decide) (by rw [c28]; decide) (by rw [c28]; rfl) (by decide) ?_
      refine lv_aload_n hx hb dX7_bill_86 rfl (lv_at hl 2 rfl) ?_
      refine va_get (D := G.1) (v := .ref (a 9)) hx hb hts hin7 hown hK hP 0 rfl rfl 6 (by decide) hf48 (fun _ h => h) rfl dX7_bill_87 ?_
      refine lv_iload_n hx hb dX7_bill_90 rfl (lv_at hl 1 rfl) ?_
      refine lv_iload hx hb dX7_bill_91 (lv_at hl 0 rfl) ?_
      refine wk_read (va_runV (As := [.int (pVoices (cK c) (cM c)), .int (pYes (cK c) (cM c) b)]) (rest := []) ⟨hx, hb, hml, hown, hts⟩ (c_X6_passesBy l G a c hc (pVoices (cK c) (cM c)) (pYes (cK c) (cM c) b)) (cwV 2 hts gX7_bill_X6_passesBy rfl rfl rfl hdV_X6_passesBy ⟨Nat.le_of_ble_eq_true rfl, Nat.le_of_ble_eq_true rfl⟩) (hR.pre (ci := 6) (q0 := 9) rfl rfl) rfl rfl hl.1 rfl (lv_room (Nat.le_of_ble_eq_true rfl)) dX7_bill_93 ⟨hrc, hrs⟩) ?_
      refine lv_if_eq (tgt := 103) hx hb dX7_bill_96 (by decide) (fun c96 => ?_) (fun c96 => ?_)
      · have c96 := b2i_f c96
        refine lv_iconst (v := 0) hx hb dX7_bill_103 (by decide) ?_
        exact wk_ret hx hb hr hlocks dX7_bill_104 (by simp [xBill, pPasses, b2i, c4, c28, c96])
      · have c96 := b2i_t c96
        refine lv_iconst (v := 1) hx hb dX7_bill_99 (by decide) ?_
        refine lv_goto (tgt := 104) hx hb dX7_bill_100 (by decide) ?_
        exact wk_ret hx hb hr hlocks dX7_bill_104 (by simp [xBill, pPasses, b2i, c4, c28, c96])
    · refine lv_tableIn (tgt := 105) hx hb dX7_bill_28 (by rw [c28]; decide) (by rw [c28]; decide) (by rw [c28]; rfl) (by decide) ?_
      refine lv_iload_n hx hb dX7_bill_105 rfl (lv_at hl 1 rfl) ?_
      refine lv_iload hx hb dX7_bill_106 (lv_at hl 0 rfl) ?_
      refine lv_iand hx hb dX7_bill_108 ?_
      exact wk_ret hx hb hr hlocks dX7_bill_109 (by simp [xBill, pPasses, b2i, c4, c28])
    · have q28_0 : ¬ w = 0 := by intro q; rw [q] at c28; revert c28; decide
      have q28_1 : ¬ w = 1 := by intro q; rw [q] at c28; revert c28; decide
      have q28_2 : ¬ w = 2 := by intro q; rw [q] at c28; revert c28; decide
      have q28_3 : ¬ w = 3 := by intro q; rw [q] at c28; revert c28; decide
      refine lv_tableOut (tgt := 110) hx hb dX7_bill_28 c28 (by decide) ?_
      refine lv_iconst (v := -1) hx hb dX7_bill_110 (by decide) ?_
      exact wk_ret hx hb hr hlocks dX7_bill_111 (by simp [xBill, pPasses, b2i, c4, q28_0, q28_1, q28_2, q28_3])
  · have c4 := b2i_t c4
    refine lv_iconst (v := -1) hx hb dX7_bill_7 (by decide) ?_
    exact wk_ret hx hb hr hlocks dX7_bill_8 (by simp [xBill, pPasses, b2i, c4])
theorem hdV_X7_now : yX7_now.cls = RX7 ∧ yX7_now.cls ≠ "java/lang/invoke/MethodHandle" ∧ yX7_now.cls ≠ "java/lang/invoke/VarHandle" ∧ (parseMethodDescriptor yX7_now.desc).map (fun d => d.parameters.length) = some 1 := by decide +kernel
set_option maxHeartbeats 4000000 in
set_option maxRecDepth 100000 in
theorem c_X7_now (l : Launch) (G : GG) (a : Nat → Nat) (c : CX) (hc : OkR c) (w : Int32) : Met l yX7_now wsX7_now ({ frames := 6, cells := 0, slots := 0, locals := 130 }) (va_Pc [.ref (a 0), .int w] (fun U => PreW G (WR G a c) U U.heap)) (QcRead (xNow c w)) 0 0 (fun _ => False) := by
  refine Met.ofW (cc := cX7_now) (maxL := 2) (ret := (some .int)) (by decide) rfl ?_
  intro p e s m args below meth cd s₁ BB hml hv
  obtain ⟨rfl, hR⟩ := hv
  have hx := BB.exec
  have hb := BB.bytes
  have hr := BB.returns
  have hts := atoms_spec (ws := wsX7_now) BB.pre
  have hown : s.vm.findClass RX7 = some m.cls := findClass_of_methodNamed BB.named
  have hlocks := BB.notSynchronized
  have hrc : 0 + 0 ≤ (headSpec wsX7_now ({ frames := 6, cells := 0, slots := 0, locals := 130 })).room.cells := Nat.le_refl _
  have hrs : 0 + 0 ≤ (headSpec wsX7_now ({ frames := 6, cells := 0, slots := 0, locals := 130 })).room.slots := Nat.le_refl _
  have hP := hR.1
  have hK := hR.2.1
  have hN := hR.2.2
  obtain ⟨hk7, ho1, ho5, hi6, hl200, hnx, hkn⟩ := id hc
  have hin2 : ∀ w ∈ u_ws RX2 TX2 7, w ∈ wsX7_now := by decide +kernel
  have hin3 : ∀ w ∈ u_ws RX3 TX3 3, w ∈ wsX7_now := by decide +kernel
  have hin7 : ∀ w ∈ u_ws RX7 TX7 13, w ∈ wsX7_now := by decide +kernel
  have hf39 := hts (.fieldLink RX7 39 "RegaliaVotes" "moment" "LRegaliaVotes$Moment;") (by decide +kernel)
  have hf48 := hts (.fieldLink RX7 48 "RegaliaVotes" "vote" "LRegaliaVotes$Vote;") (by decide +kernel)
  have hf71 := hts (.fieldLink RX7 71 "RegaliaVotes" "past" "LRegaliaVotes$Past;") (by decide +kernel)
  have hf140 := hts (.fieldLink RX7 140 "RegaliaVotes$Moment" "sick" "I") (by decide +kernel)
  have hf162 := hts (.fieldLink RX7 162 "RegaliaVotes$Moment" "put" "I") (by decide +kernel)
  have hf165 := hts (.fieldLink RX7 165 "RegaliaVotes$Moment" "passed" "I") (by decide +kernel)
  have hf171 := hts (.fieldLink RX7 171 "RegaliaVotes$Past" "known" "I") (by decide +kernel)
  refine wk_enter (n := 2) (Nat.le_of_ble_eq_true rfl) (fun ls hl => ?_)
  have hl : lv_has ls 2 [(0, .ref (a 0)), (1, .int w)] := hl
  refine lv_iload_n hx hb dX7_now_0 rfl (lv_at hl 1 rfl) ?_
  rcases wk_sw0_5 w with c1 | c1 | c1 | c1 | c1 | c1 | c1
  · refine lv_tableIn (tgt := 40) hx hb dX7_now_1 (by rw [c1]; decide) (by rw [c1]; decide) (by rw [c1]; rfl) (by decide) ?_
    refine lv_aload_n hx hb dX7_now_40 rfl (lv_at hl 0 rfl) ?_
    refine va_get (D := G.1) (v := .ref (a 6)) hx hb hts hin7 hown hK hP 0 rfl rfl 5 (by decide) hf39 (fun _ h => h) rfl dX7_now_41 ?_
    refine va_get (D := G.1) (v := .int (mPu (cM c))) hx hb hts hin2 hown hK hP 6 rfl rfl 5 (by decide) hf162 (fun _ h => h) rfl dX7_now_44 ?_
    exact wk_ret hx hb hr hlocks dX7_now_47 (by simp [xNow, c1])
  · refine lv_tableIn (tgt := 48) hx hb dX7_now_1 (by rw [c1]; decide) (by rw [c1]; decide) (by rw [c1]; rfl) (by decide) ?_
    refine lv_aload_n hx hb dX7_now_48 rfl (lv_at hl 0 rfl) ?_
    refine va_get (D := G.1) (v := .ref (a 6)) hx hb hts hin7 hown hK hP 0 rfl rfl 5 (by decide) hf39 (fun _ h => h) rfl dX7_now_49 ?_
    refine va_get (D := G.1) (v := .int (mPa (cM c))) hx hb hts hin2 hown hK hP 6 rfl rfl 6 (by decide) hf165 (fun _ h => h) rfl dX7_now_52 ?_
    exact wk_ret hx hb hr hlocks dX7_now_55 (by simp [xNow, c1])
  · refine lv_tableIn (tgt := 56) hx hb dX7_now_1 (by rw [c1]; decide) (by rw [c1]; decide) (by rw [c1]; rfl) (by decide) ?_
    refine lv_aload_n hx hb dX7_now_56 rfl (lv_at hl 0 rfl) ?_
    refine va_get (D := G.1) (v := .ref (a 9)) hx hb hts hin7 hown hK hP 0 rfl rfl 6 (by decide) hf48 (fun _ h => h) rfl dX7_now_57 ?_
    refine wk_read (va_runV (As := []) (rest := []) ⟨hx, hb, hml, hown, hts⟩ (c_X6_voices l G a c hc) (cwV 0 hts gX7_now_X6_voices rfl rfl rfl hdV_X6_voices ⟨Nat.le_of_ble_eq_true rfl, Nat.le_of_ble_eq_true rfl⟩) (hR.pre (ci := 6) (q0 := 9) rfl rfl) rfl rfl hl.1 rfl (lv_room (Nat.le_of_ble_eq_true rfl)) dX7_now_60 ⟨hrc, hrs⟩) ?_
    exact wk_ret hx hb hr hlocks dX7_now_63 (by simp [xNow, c1])
  · refine lv_tableIn (tgt := 64) hx hb dX7_now_1 (by rw [c1]; decide) (by rw [c1]; decide) (by rw [c1]; rfl) (by decide) ?_
    refine lv_aload_n hx hb dX7_now_64 rfl (lv_at hl 0 rfl) ?_
    refine va_get (D := G.1) (v := .ref (a 6)) hx hb hts hin7 hown hK hP 0 rfl rfl 5 (by decide) hf39 (fun _ h => h) rfl dX7_now_65 ?_
    refine va_get (D := G.1) (v := .int (mSi (cM c))) hx hb hts hin2 hown hK hP 6 rfl rfl 4 (by decide) hf140 (fun _ h => h) rfl dX7_now_68 ?_
    exact wk_ret hx hb hr hlocks dX7_now_71 (by simp [xNow, c1])
  · refine lv_tableIn (tgt := 72) hx hb dX7_now_1 (by rw [c1]; decide) (by rw [c1]; decide) (by rw [c1]; rfl) (by decide) ?_
    refine lv_aload_n hx hb dX7_now_72 rfl (lv_at hl 0 rfl) ?_
    refine va_get (D := G.1) (v := .ref (a 9)) hx hb hts hin7 hown hK hP 0 rfl rfl 6 (by decide) hf48 (fun _ h => h) rfl dX7_now_73 ?_
    refine wk_read (va_runV (As := []) (rest := []) ⟨hx, hb, hml, hown, hts⟩ (c_X6_mostHolder l G a c hc) (cwV 0 hts gX7_now_X6_mostHolder rfl rfl rfl hdV_X6_mostHolder ⟨Nat.le_of_ble_eq_true rfl, Nat.le_of_ble_eq_true rfl⟩) (hR.pre (ci := 6) (q0 := 9) rfl rfl) rfl rfl hl.1 rfl (lv_room (Nat.le_of_ble_eq_true rfl)) dX7_now_76 ⟨hrc, hrs⟩) ?_
    exact wk_ret hx hb hr hlocks dX7_now_79 (by simp [xNow, c1])
  · refine lv_tableIn (tgt := 80) hx hb dX7_now_1 (by rw [c1]; decide) (by rw [c1]; decide) (by rw [c1]; rfl) (by decide) ?_
    refine lv_aload_n hx hb dX7_now_80 rfl (lv_at hl 0 rfl) ?_
    refine va_get (D := G.1) (v := .ref (a 14)) hx hb hts hin7 hown hK hP 0 rfl rfl 9 (by decide) hf71 (fun _ h => h) rfl dX7_now_81 ?_
    refine va_get (D := G.1) (v := .int (nI (cKn c))) hx hb hts hin3 hown hK hP 14 rfl rfl 2 (by decide) hf171 (fun _ h => h) rfl dX7_now_84 ?_
    exact wk_ret hx hb hr hlocks dX7_now_87 (by simp [xNow, c1])
  · have q1_0 : ¬ w = 0 := by intro q; rw [q] at c1; revert c1; decide
    have q1_1 : ¬ w = 1 := by intro q; rw [q] at c1; revert c1; decide
    have q1_2 : ¬ w = 2 := by intro q; rw [q] at c1; revert c1; decide
    have q1_3 : ¬ w = 3 := by intro q; rw [q] at c1; revert c1; decide
    have q1_4 : ¬ w = 4 := by intro q; rw [q] at c1; revert c1; decide
    have q1_5 : ¬ w = 5 := by intro q; rw [q] at c1; revert c1; decide
    refine lv_tableOut (tgt := 88) hx hb dX7_now_1 c1 (by decide) ?_
    refine lv_iconst (v := -1) hx hb dX7_now_88 (by decide) ?_
    exact wk_ret hx hb hr hlocks dX7_now_89 (by simp [xNow, q1_0, q1_1, q1_2, q1_3, q1_4, q1_5])
theorem hdV_X7_power : yX7_power.cls = RX7 ∧ yX7_power.cls ≠ "java/lang/invoke/MethodHandle" ∧ yX7_power.cls ≠ "java/lang/invoke/VarHandle" ∧ (parseMethodDescriptor yX7_power.desc).map (fun d => d.parameters.length) = some 2 := by decide +kernel
set_option maxHeartbeats 4000000 in
set_option maxRecDepth 100000 in
theorem c_X7_power (l : Launch) (G : GG) (a : Nat → Nat) (c : CX) (hc : OkR c) (t : Int32) (w : Int32) : Met l yX7_power wsX7_power ({ frames := 5, cells := 0, slots := 0, locals := 105 }) (va_Pc [.ref (a 0), .int t, .int w] (fun U => PreF G (WR G a c) U U.heap)) (QcRead (xPower c t w)) 0 0 (fun _ => False) := by
  refine Met.ofW (cc := cX7_power) (maxL := 3) (ret := (some .int)) (by decide) rfl ?_
  intro p e s m args below meth cd s₁ BB hml hv
  obtain ⟨rfl, hR, hF⟩ := hv
  have hx := BB.exec
  have hb := BB.bytes
  have hr := BB.returns
  have hts := atoms_spec (ws := wsX7_power) BB.pre
  have hown : s.vm.findClass RX7 = some m.cls := findClass_of_methodNamed BB.named
  have hlocks := BB.notSynchronized
  have hrc : 0 + 0 ≤ (headSpec wsX7_power ({ frames := 5, cells := 0, slots := 0, locals := 105 })).room.cells := Nat.le_refl _
  have hrs : 0 + 0 ≤ (headSpec wsX7_power ({ frames := 5, cells := 0, slots := 0, locals := 105 })).room.slots := Nat.le_refl _
  have hP := hR.1
  have hK := hR.2.1
  have hN := hR.2.2
  obtain ⟨hk7, ho1, ho5, hi6, hl200, hnx, hkn⟩ := id hc
  have hin7 : ∀ w ∈ u_ws RX7 TX7 13, w ∈ wsX7_power := by decide +kernel
  have hf48 := hts (.fieldLink RX7 48 "RegaliaVotes" "vote" "LRegaliaVotes$Vote;") (by decide +kernel)
  have hf57 := hts (.fieldLink RX7 57 "RegaliaVotes" "powers" "LRegaliaVotes$Power;") (by decide +kernel)
  refine wk_enter (n := 3) (Nat.le_of_ble_eq_true rfl) (fun ls hl => ?_)
  have hl : lv_has ls 3 [(0, .ref (a 0)), (1, .int t), (2, .int w)] := hl
  refine lv_aload_n hx hb dX7_power_0 rfl (lv_at hl 0 rfl) ?_
  refine lv_iload_n hx hb dX7_power_1 rfl (lv_at hl 1 rfl) ?_
  refine wk_read (va_runV (As := [.int t]) (rest := []) ⟨hx, hb, hml, hown, hts⟩ (c_X7_noThing l G a c hc t) (cwV 1 hts gX7_power_X7_noThing rfl rfl rfl hdV_X7_noThing ⟨Nat.le_of_ble_eq_true rfl, Nat.le_of_ble_eq_true rfl⟩) (hR.pre (ci := 7) (q0 := 0) rfl rfl) rfl rfl hl.1 rfl (lv_room (Nat.le_of_ble_eq_true rfl)) dX7_power_2 ⟨hrc, hrs⟩) ?_
  refine lv_if_ne (tgt := 15) hx hb dX7_power_5 (by decide) (fun c5 => ?_) (fun c5 => ?_)
  · have c5 := b2i_t c5
    refine lv_iconst (v := -1) hx hb dX7_power_15 (by decide) ?_
    exact wk_ret hx hb hr hlocks dX7_power_16 (by simp [xPower, c5])
  · have c5 := b2i_f c5
    obtain ⟨j, hj, rfl⟩ := pNoT_n c5 hk7
    have hcl := nI_clamp (show j < 2 ^ 31 by omega)
    refine lv_iload_n hx hb dX7_power_8 rfl (lv_at hl 2 rfl) ?_
    refine wk_read (va_runS (As := [.int w]) (rest := []) ⟨hx, hb, hml, hown, hts⟩ (c_X7_noTerm l w) (va_cwS 1 hts gX7_power_X7_noTerm rfl rfl rfl hdS_X7_noTerm ⟨Nat.le_of_ble_eq_true rfl, Nat.le_of_ble_eq_true rfl⟩) preEq rfl rfl hl.1 rfl (lv_room (Nat.le_of_ble_eq_true rfl)) dX7_power_9 ⟨hrc, hrs⟩) ?_
    refine lv_if_eq (tgt := 17) hx hb dX7_power_12 (by decide) (fun c12 => ?_) (fun c12 => ?_)
    · have c12 := b2i_f c12
      refine lv_aload_n hx hb dX7_power_17 rfl (lv_at hl 0 rfl) ?_
      refine va_get (D := G.1) (v := .ref (a 10)) hx hb hts hin7 hown hK hP 0 rfl rfl 7 (by decide) hf57 (fun _ h => h) rfl dX7_power_18 ?_
      refine lv_iload_n hx hb dX7_power_21 rfl (lv_at hl 1 rfl) ?_
      refine lv_aload_n hx hb dX7_power_22 rfl (lv_at hl 0 rfl) ?_
      refine va_get (D := G.1) (v := .ref (a 9)) hx hb hts hin7 hown hK hP 0 rfl rfl 6 (by decide) hf48 (fun _ h => h) rfl dX7_power_23 ?_
      refine wk_read (va_runV (As := []) (rest := [.int (nI j), .ref (a 10)]) ⟨hx, hb, hml, hown, hts⟩ (c_X6_voices l G a c hc) (cwV 0 hts gX7_power_X6_voices rfl rfl rfl hdV_X6_voices ⟨Nat.le_of_ble_eq_true rfl, Nat.le_of_ble_eq_true rfl⟩) (hR.pre (ci := 6) (q0 := 9) rfl rfl) rfl rfl hl.1 rfl (lv_room (Nat.le_of_ble_eq_true rfl)) dX7_power_26 ⟨hrc, hrs⟩) ?_
      refine wk_read (va_runV (As := [.int (nI j), .int (pVoices (cK c) (cM c))]) (rest := []) ⟨hx, hb, hml, hown, hts⟩ (c_X4_ordersDecided l G a c hc j (pVoices (cK c) (cM c))) (cwV 2 hts gX7_power_X4_ordersDecided rfl rfl rfl hdV_X4_ordersDecided ⟨Nat.le_of_ble_eq_true rfl, Nat.le_of_ble_eq_true rfl⟩) (PreF.pre ⟨hR, hF⟩ (ci := 4) (q0 := 10) rfl rfl) rfl rfl hl.1 rfl (lv_room (Nat.le_of_ble_eq_true rfl)) dX7_power_29 ⟨hrc, hrs⟩) ?_
      refine lv_aload_n hx hb dX7_power_32 rfl (lv_at hl 0 rfl) ?_
      refine va_get (D := G.1) (v := .ref (a 10)) hx hb hts hin7 hown hK hP 0 rfl rfl 7 (by decide) hf57 (fun _ h => h) rfl dX7_power_33 ?_
      refine wk_read (va_runV (As := []) (rest := [.int (pDec (cK c) j (pVoices (cK c) (cM c)))]) ⟨hx, hb, hml, hown, hts⟩ (c_X4_orders l G a c hc) (cwV 0 hts gX7_power_X4_orders rfl rfl rfl hdV_X4_orders ⟨Nat.le_of_ble_eq_true rfl, Nat.le_of_ble_eq_true rfl⟩) (PreF.pre ⟨hR, hF⟩ (ci := 4) (q0 := 10) rfl rfl) rfl rfl hl.1 rfl (lv_room (Nat.le_of_ble_eq_true rfl)) dX7_power_36 ⟨hrc, hrs⟩) ?_
      refine lv_iload_n hx hb dX7_power_39 rfl (lv_at hl 2 rfl) ?_
      refine wk_read (va_runS (As := [.int (pDec (cK c) j (pVoices (cK c) (cM c))), .int (pOrders (cK c) (cM c)), .int w]) (rest := []) ⟨hx, hb, hml, hown, hts⟩ (c_X7_term l (pDec (cK c) j (pVoices (cK c) (cM c))) (pOrders (cK c) (cM c)) w) (va_cwS 3 hts gX7_power_X7_term rfl rfl rfl hdS_X7_term ⟨Nat.le_of_ble_eq_true rfl, Nat.le_of_ble_eq_true rfl⟩) preEq rfl rfl hl.1 rfl (lv_room (Nat.le_of_ble_eq_true rfl)) dX7_power_40 ⟨hrc, hrs⟩) ?_
      exact wk_ret hx hb hr hlocks dX7_power_43 (by simp [xPower, hcl, c5, c12])
    · have c12 := b2i_t c12
      refine lv_iconst (v := -1) hx hb dX7_power_15 (by decide) ?_
      exact wk_ret hx hb hr hlocks dX7_power_16 (by simp [xPower, hcl, c5, c12])
theorem hdV_X7_least : yX7_least.cls = RX7 ∧ yX7_least.cls ≠ "java/lang/invoke/MethodHandle" ∧ yX7_least.cls ≠ "java/lang/invoke/VarHandle" ∧ (parseMethodDescriptor yX7_least.desc).map (fun d => d.parameters.length) = some 1 := by decide +kernel
set_option maxHeartbeats 4000000 in
set_option maxRecDepth 100000 in
theorem c_X7_least (l : Launch) (G : GG) (a : Nat → Nat) (c : CX) (hc : OkR c) (w : Int32) : Met l yX7_least wsX7_least ({ frames := 5, cells := 0, slots := 0, locals := 112 }) (va_Pc [.ref (a 0), .int w] (fun U => PreW G (WR G a c) U U.heap)) (QcRead (xLeast c w)) 0 0 (fun _ => False) := by
  refine Met.ofW (cc := cX7_least) (maxL := 2) (ret := (some .int)) (by decide) rfl ?_
  intro p e s m args below meth cd s₁ BB hml hv
  obtain ⟨rfl, hR⟩ := hv
  have hx := BB.exec
  have hb := BB.bytes
  have hr := BB.returns
  have hts := atoms_spec (ws := wsX7_least) BB.pre
  have hown : s.vm.findClass RX7 = some m.cls := findClass_of_methodNamed BB.named
  have hlocks := BB.notSynchronized
  have hrc : 0 + 0 ≤ (headSpec wsX7_least ({ frames := 5, cells := 0, slots := 0, locals := 112 })).room.cells := Nat.le_refl _
  have hrs : 0 + 0 ≤ (headSpec wsX7_least ({ frames := 5, cells := 0, slots := 0, locals := 112 })).room.slots := Nat.le_refl _
  have hP := hR.1
  have hK := hR.2.1
  have hN := hR.2.2
  obtain ⟨hk7, ho1, ho5, hi6, hl200, hnx, hkn⟩ := id hc
  have hin7 : ∀ w ∈ u_ws RX7 TX7 13, w ∈ wsX7_least := by decide +kernel
  have hf57 := hts (.fieldLink RX7 57 "RegaliaVotes" "powers" "LRegaliaVotes$Power;") (by decide +kernel)
  refine wk_enter (n := 2) (Nat.le_of_ble_eq_true rfl) (fun ls hl => ?_)
  have hl : lv_has ls 2 [(0, .ref (a 0)), (1, .int w)] := hl
  refine lv_iload_n hx hb dX7_least_0 rfl (lv_at hl 1 rfl) ?_
  refine wk_read (va_runS (As := [.int w]) (rest := []) ⟨hx, hb, hml, hown, hts⟩ (c_X7_noTerm l w) (va_cwS 1 hts gX7_least_X7_noTerm rfl rfl rfl hdS_X7_noTerm ⟨Nat.le_of_ble_eq_true rfl, Nat.le_of_ble_eq_true rfl⟩) preEq rfl rfl hl.1 rfl (lv_room (Nat.le_of_ble_eq_true rfl)) dX7_least_1 ⟨hrc, hrs⟩) ?_
  refine lv_if_eq (tgt := 9) hx hb dX7_least_4 (by decide) (fun c4 => ?_) (fun c4 => ?_)
  · have c4 := b2i_f c4
    refine lv_iload_n hx hb dX7_least_9 rfl (lv_at hl 1 rfl) ?_
    refine lv_if_ne (tgt := 23) hx hb dX7_least_10 (by decide) (fun c10 => ?_) (fun c10 => ?_)
    · refine lv_aload_n hx hb dX7_least_23 rfl (lv_at hl 0 rfl) ?_
      refine va_get (D := G.1) (v := .ref (a 10)) hx hb hts hin7 hown hK hP 0 rfl rfl 7 (by decide) hf57 (fun _ h => h) rfl dX7_least_24 ?_
      refine wk_read (va_runV (As := []) (rest := []) ⟨hx, hb, hml, hown, hts⟩ (c_X4_firstLeastSet l G a c hc) (cwV 0 hts gX7_least_X4_firstLeastSet rfl rfl rfl hdV_X4_firstLeastSet ⟨Nat.le_of_ble_eq_true rfl, Nat.le_of_ble_eq_true rfl⟩) (hR.pre (ci := 4) (q0 := 10) rfl rfl) rfl rfl hl.1 rfl (lv_room (Nat.le_of_ble_eq_true rfl)) dX7_least_27 ⟨hrc, hrs⟩) ?_
      exact wk_ret hx hb hr hlocks dX7_least_30 (by simp only [xLeast, c4]; simp [c10])
    · refine lv_aload_n hx hb dX7_least_13 rfl (lv_at hl 0 rfl) ?_
      refine va_get (D := G.1) (v := .ref (a 10)) hx hb hts hin7 hown hK hP 0 rfl rfl 7 (by decide) hf57 (fun _ h => h) rfl dX7_least_14 ?_
      refine wk_read (va_runV (As := []) (rest := []) ⟨hx, hb, hml, hown, hts⟩ (c_X4_leastSets l G a c hc) (cwV 0 hts gX7_least_X4_leastSets rfl rfl rfl hdV_X4_leastSets ⟨Nat.le_of_ble_eq_true rfl, Nat.le_of_ble_eq_true rfl⟩) (hR.pre (ci := 4) (q0 := 10) rfl rfl) rfl rfl hl.1 rfl (lv_room (Nat.le_of_ble_eq_true rfl)) dX7_least_17 ⟨hrc, hrs⟩) ?_
      refine lv_goto (tgt := 30) hx hb dX7_least_20 (by decide) ?_
      exact wk_ret hx hb hr hlocks dX7_least_30 (by simp only [xLeast, c4]; simp [c10])
  · have c4 := b2i_t c4
    refine lv_iconst (v := -1) hx hb dX7_least_7 (by decide) ?_
    exact wk_ret hx hb hr hlocks dX7_least_8 (by simp only [xLeast, c4]; simp [])
theorem hdV_X7_dummies : yX7_dummies.cls = RX7 ∧ yX7_dummies.cls ≠ "java/lang/invoke/MethodHandle" ∧ yX7_dummies.cls ≠ "java/lang/invoke/VarHandle" ∧ (parseMethodDescriptor yX7_dummies.desc).map (fun d => d.parameters.length) = some 0 := by decide +kernel
set_option maxHeartbeats 4000000 in
set_option maxRecDepth 100000 in
theorem c_X7_dummies (l : Launch) (G : GG) (a : Nat → Nat) (c : CX) (hc : OkR c) : Met l yX7_dummies wsX7_dummies ({ frames := 5, cells := 0, slots := 0, locals := 115 }) (va_Pc [.ref (a 0)] (fun U => PreF G (WR G a c) U U.heap)) (QcRead (pLess (cK c) (cM c))) 0 0 (fun _ => False) := by
  refine Met.ofW (cc := cX7_dummies) (maxL := 1) (ret := (some .int)) (by decide) rfl ?_
  intro p e s m args below meth cd s₁ BB hml hv
  obtain ⟨rfl, hR, hF⟩ := hv
  have hx := BB.exec
  have hb := BB.bytes
  have hr := BB.returns
  have hts := atoms_spec (ws := wsX7_dummies) BB.pre
  have hown : s.vm.findClass RX7 = some m.cls := findClass_of_methodNamed BB.named
  have hlocks := BB.notSynchronized
  have hrc : 0 + 0 ≤ (headSpec wsX7_dummies ({ frames := 5, cells := 0, slots := 0, locals := 115 })).room.cells := Nat.le_refl _
  have hrs : 0 + 0 ≤ (headSpec wsX7_dummies ({ frames := 5, cells := 0, slots := 0, locals := 115 })).room.slots := Nat.le_refl _
  have hP := hR.1
  have hK := hR.2.1
  have hN := hR.2.2
  obtain ⟨hk7, ho1, ho5, hi6, hl200, hnx, hkn⟩ := id hc
  have hin7 : ∀ w ∈ u_ws RX7 TX7 13, w ∈ wsX7_dummies := by decide +kernel
  have hf57 := hts (.fieldLink RX7 57 "RegaliaVotes" "powers" "LRegaliaVotes$Power;") (by decide +kernel)
  refine wk_enter (n := 1) (Nat.le_of_ble_eq_true rfl) (fun ls hl => ?_)
  have hl : lv_has ls 1 [(0, .ref (a 0))] := hl
  refine lv_aload_n hx hb dX7_dummies_0 rfl (lv_at hl 0 rfl) ?_
  refine va_get (D := G.1) (v := .ref (a 10)) hx hb hts hin7 hown hK hP 0 rfl rfl 7 (by decide) hf57 (fun _ h => h) rfl dX7_dummies_1 ?_
  refine wk_read (va_runV (As := []) (rest := []) ⟨hx, hb, hml, hown, hts⟩ (c_X4_powerless l G a c hc) (cwV 0 hts gX7_dummies_X4_powerless rfl rfl rfl hdV_X4_powerless ⟨Nat.le_of_ble_eq_true rfl, Nat.le_of_ble_eq_true rfl⟩) (PreF.pre ⟨hR, hF⟩ (ci := 4) (q0 := 10) rfl rfl) rfl rfl hl.1 rfl (lv_room (Nat.le_of_ble_eq_true rfl)) dX7_dummies_4 ⟨hrc, hrs⟩) ?_
  exact wk_ret hx hb hr hlocks dX7_dummies_7 (rfl)
theorem hdV_X7_sways : yX7_sways.cls = RX7 ∧ yX7_sways.cls ≠ "java/lang/invoke/MethodHandle" ∧ yX7_sways.cls ≠ "java/lang/invoke/VarHandle" ∧ (parseMethodDescriptor yX7_sways.desc).map (fun d => d.parameters.length) = some 1 := by decide +kernel
set_option maxHeartbeats 4000000 in
set_option maxRecDepth 100000 in
theorem c_X7_sways (l : Launch) (G : GG) (a : Nat → Nat) (c : CX) (hc : OkR c) (b : Int32) : Met l yX7_sways wsX7_sways ({ frames := 5, cells := 0, slots := 0, locals := 112 }) (va_Pc [.ref (a 0), .int b] (fun U => PreW G (WR G a c) U U.heap)) (QcRead (xSways c b)) 0 0 (fun _ => False) := by
  refine Met.ofW (cc := cX7_sways) (maxL := 2) (ret := (some .int)) (by decide) rfl ?_
  intro p e s m args below meth cd s₁ BB hml hv
  obtain ⟨rfl, hR⟩ := hv
  have hx := BB.exec
  have hb := BB.bytes
  have hr := BB.returns
  have hts := atoms_spec (ws := wsX7_sways) BB.pre
  have hown : s.vm.findClass RX7 = some m.cls := findClass_of_methodNamed BB.named
  have hlocks := BB.notSynchronized
  have hrc : 0 + 0 ≤ (headSpec wsX7_sways ({ frames := 5, cells := 0, slots := 0, locals := 112 })).room.cells := Nat.le_refl _
  have hrs : 0 + 0 ≤ (headSpec wsX7_sways ({ frames := 5, cells := 0, slots := 0, locals := 112 })).room.slots := Nat.le_refl _
  have hP := hR.1
  have hK := hR.2.1
  have hN := hR.2.2
  obtain ⟨hk7, ho1, ho5, hi6, hl200, hnx, hkn⟩ := id hc
  have hin7 : ∀ w ∈ u_ws RX7 TX7 13, w ∈ wsX7_sways := by decide +kernel
  have hf48 := hts (.fieldLink RX7 48 "RegaliaVotes" "vote" "LRegaliaVotes$Vote;") (by decide +kernel)
  refine wk_enter (n := 2) (Nat.le_of_ble_eq_true rfl) (fun ls hl => ?_)
  have hl : lv_has ls 2 [(0, .ref (a 0)), (1, .int b)] := hl
  refine lv_iload_n hx hb dX7_sways_0 rfl (lv_at hl 1 rfl) ?_
  refine wk_read (va_runS (As := [.int b]) (rest := []) ⟨hx, hb, hml, hown, hts⟩ (c_X7_noBill l b) (va_cwS 1 hts gX7_sways_X7_noBill rfl rfl rfl hdS_X7_noBill ⟨Nat.le_of_ble_eq_true rfl, Nat.le_of_ble_eq_true rfl⟩) preEq rfl rfl hl.1 rfl (lv_room (Nat.le_of_ble_eq_true rfl)) dX7_sways_1 ⟨hrc, hrs⟩) ?_
  refine lv_if_eq (tgt := 9) hx hb dX7_sways_4 (by decide) (fun c4 => ?_) (fun c4 => ?_)
  · have c4 := b2i_f c4
    refine lv_aload_n hx hb dX7_sways_9 rfl (lv_at hl 0 rfl) ?_
    refine va_get (D := G.1) (v := .ref (a 9)) hx hb hts hin7 hown hK hP 0 rfl rfl 6 (by decide) hf48 (fun _ h => h) rfl dX7_sways_10 ?_
    refine lv_iload_n hx hb dX7_sways_13 rfl (lv_at hl 1 rfl) ?_
    refine wk_read (va_runV (As := [.int b]) (rest := []) ⟨hx, hb, hml, hown, hts⟩ (c_X6_swayers l G a c hc b) (cwV 1 hts gX7_sways_X6_swayers rfl rfl rfl hdV_X6_swayers ⟨Nat.le_of_ble_eq_true rfl, Nat.le_of_ble_eq_true rfl⟩) (hR.pre (ci := 6) (q0 := 9) rfl rfl) rfl rfl hl.1 rfl (lv_room (Nat.le_of_ble_eq_true rfl)) dX7_sways_14 ⟨hrc, hrs⟩) ?_
    exact wk_ret hx hb hr hlocks dX7_sways_17 (by simp [xSways, c4])
  · have c4 := b2i_t c4
    refine lv_iconst (v := -1) hx hb dX7_sways_7 (by decide) ?_
    exact wk_ret hx hb hr hlocks dX7_sways_8 (by simp [xSways, c4])
theorem hdV_X7_free : yX7_free.cls = RX7 ∧ yX7_free.cls ≠ "java/lang/invoke/MethodHandle" ∧ yX7_free.cls ≠ "java/lang/invoke/VarHandle" ∧ (parseMethodDescriptor yX7_free.desc).map (fun d => d.parameters.length) = some 0 := by decide +kernel
set_option maxHeartbeats 4000000 in
set_option maxRecDepth 100000 in
theorem c_X7_free (l : Launch) (G : GG) (a : Nat → Nat) (c : CX) (hc : OkR c) : Met l yX7_free wsX7_free ({ frames := 5, cells := 0, slots := 0, locals := 112 }) (va_Pc [.ref (a 0)] (fun U => PreW G (WR G a c) U U.heap)) (QcRead (pFree (cK c) (cM c))) 0 0 (fun _ => False) := by
  refine Met.ofW (cc := cX7_free) (maxL := 3) (ret := (some .int)) (by decide) rfl ?_
  intro p e s m args below meth cd s₁ BB hml hv
  obtain ⟨rfl, hR⟩ := hv
  have hx := BB.exec
  have hb := BB.bytes
  have hr := BB.returns
  have hts := atoms_spec (ws := wsX7_free) BB.pre
  have hown : s.vm.findClass RX7 = some m.cls := findClass_of_methodNamed BB.named
  have hlocks := BB.notSynchronized
  have hrc : 0 + 0 ≤ (headSpec wsX7_free ({ frames := 5, cells := 0, slots := 0, locals := 112 })).room.cells := Nat.le_refl _
  have hrs : 0 + 0 ≤ (headSpec wsX7_free ({ frames := 5, cells := 0, slots := 0, locals := 112 })).room.slots := Nat.le_refl _
  have hP := hR.1
  have hK := hR.2.1
  have hN := hR.2.2
  obtain ⟨hk7, ho1, ho5, hi6, hl200, hnx, hkn⟩ := id hc
  have hin7 : ∀ w ∈ u_ws RX7 TX7 13, w ∈ wsX7_free := by decide +kernel
  have hf48 := hts (.fieldLink RX7 48 "RegaliaVotes" "vote" "LRegaliaVotes$Vote;") (by decide +kernel)
  refine wk_enter (n := 3) (Nat.le_of_ble_eq_true rfl) (fun ls hl => ?_)
  have hl : lv_has ls 3 [(0, .ref (a 0))] := hl
  refine lv_aload_n hx hb dX7_free_0 rfl (lv_at hl 0 rfl) ?_
  refine va_get (D := G.1) (v := .ref (a 9)) hx hb hts hin7 hown hK hP 0 rfl rfl 6 (by decide) hf48 (fun _ h => h) rfl dX7_free_1 ?_
  refine wk_read (va_runV (As := []) (rest := []) ⟨hx, hb, hml, hown, hts⟩ (c_X6_voices l G a c hc) (cwV 0 hts gX7_free_X6_voices rfl rfl rfl hdV_X6_voices ⟨Nat.le_of_ble_eq_true rfl, Nat.le_of_ble_eq_true rfl⟩) (hR.pre (ci := 6) (q0 := 9) rfl rfl) rfl rfl hl.1 rfl (lv_room (Nat.le_of_ble_eq_true rfl)) dX7_free_4 ⟨hrc, hrs⟩) ?_
  refine lv_istore_n (lv' := [(1, .int (pVoices (cK c) (cM c))), (0, .ref (a 0))]) hx hb dX7_free_7 rfl hl (by decide) rfl (fun ls hl => ?_)
  refine lv_iconst (v := 0) hx hb dX7_free_8 (by decide) ?_
  refine lv_istore_n (lv' := [(2, .int 0), (1, .int (pVoices (cK c) (cM c))), (0, .ref (a 0))]) hx hb dX7_free_9 rfl hl (by decide) rfl (fun ls hl => ?_)
  refine wk_loop (σ := Nat × Int32) (nL := 3) (fun xσ n => match xσ with | (i, z) => i + n = 5 ∧ z = pFreeF (cK c) (cM c) i) (fun xσ => match xσ with | (i, z) => [(2, .int (nI i)), (1, .int z), (0, .ref (a 0))]) (0, pVoices (cK c) (cM c)) 5 (⟨by omega, rfl⟩) hl ?_
  rintro n10 ⟨i, z⟩ ls hI10 hl ih10
  have hl : lv_has ls 3 [(2, .int (nI i)), (1, .int z), (0, .ref (a 0))] := hl
  obtain ⟨hi, hz⟩ := hI10
  refine lv_iload_n hx hb dX7_free_10 rfl (lv_at hl 0 rfl) ?_
  refine lv_iconst (v := 5) hx hb dX7_free_11 (by decide) ?_
  refine wk_ge (x := i) (y := 5) (tgt := 34) hx hb (by omega) (by omega) dX7_free_12 (by decide) (fun c12 => ?_) (fun c12 => ?_)
  · refine lv_iload_n hx hb dX7_free_34 rfl (lv_at hl 1 rfl) ?_
    exact wk_ret hx hb hr hlocks dX7_free_35 (by rw [hz, show i = 5 by omega]; rfl)
  · refine lv_iload_n hx hb dX7_free_15 rfl (lv_at hl 1 rfl) ?_
    refine lv_aload_n hx hb dX7_free_16 rfl (lv_at hl 2 rfl) ?_
    refine va_get (D := G.1) (v := .ref (a 9)) hx hb hts hin7 hown hK hP 0 rfl rfl 6 (by decide) hf48 (fun _ h => h) rfl dX7_free_17 ?_
    refine lv_iload_n hx hb dX7_free_20 rfl (lv_at hl 0 rfl) ?_
    refine wk_read (va_runV (As := [.int (nI i)]) (rest := [.int z]) ⟨hx, hb, hml, hown, hts⟩ (c_X6_swayers l G a c hc (nI i)) (cwV 1 hts gX7_free_X6_swayers rfl rfl rfl hdV_X6_swayers ⟨Nat.le_of_ble_eq_true rfl, Nat.le_of_ble_eq_true rfl⟩) (hR.pre (ci := 6) (q0 := 9) rfl rfl) rfl rfl hl.1 rfl (lv_room (Nat.le_of_ble_eq_true rfl)) dX7_free_21 ⟨hrc, hrs⟩) ?_
    refine lv_iconst (v := -1) hx hb dX7_free_24 (by decide) ?_
    refine lv_ixor hx hb dX7_free_25 ?_
    show W _ _ _ _ _ _ _ _ _ _ _ _ _ _ _ (F0 _ _ _ (.int (iv (pSway (cK c) (cM c) (nI i))) :: _))
    refine lv_iand hx hb dX7_free_26 ?_
    refine lv_istore_n (lv' := [(1, .int (z &&& (iv (pSway (cK c) (cM c) (nI i))))), (2, .int (nI i)), (0, .ref (a 0))]) hx hb dX7_free_27 rfl hl (by decide) rfl (fun ls hl => ?_)
    refine lv_iinc (v := (nI (i + 1))) (lv' := [(2, .int (nI (i + 1))), (1, .int (z &&& (iv (pSway (cK c) (cM c) (nI i))))), (0, .ref (a 0))]) hx hb dX7_free_28 hl (k := 1) rfl (wk_i1 i) (by decide) rfl (fun ls hl => ?_)
    refine lv_goto (tgt := 10) hx hb dX7_free_31 (by decide) ?_
    exact ih10 (i + 1, (z &&& (iv (pSway (cK c) (cM c) (nI i))))) (n10 - 1) ls (by omega) (⟨by omega, by rw [hz]; rfl⟩) (lv_sub hl [0, 1, 2] rfl)
theorem hdV_X7_turn : yX7_turn.cls = RX7 ∧ yX7_turn.cls ≠ "java/lang/invoke/MethodHandle" ∧ yX7_turn.cls ≠ "java/lang/invoke/VarHandle" ∧ (parseMethodDescriptor yX7_turn.desc).map (fun d => d.parameters.length) = some 1 := by decide +kernel
set_option maxHeartbeats 4000000 in
set_option maxRecDepth 100000 in
theorem c_X7_turn (l : Launch) (G : GG) (a : Nat → Nat) (c : CX) (hc : OkR c) (b : Int32) : Met l yX7_turn wsX7_turn ({ frames := 5, cells := 0, slots := 0, locals := 110 }) (va_Pc [.ref (a 0), .int b] (fun U => PreW G (WR G a c) U U.heap)) (QcRead (xTurn c b)) 0 0 (fun _ => False) := by
  refine Met.ofW (cc := cX7_turn) (maxL := 2) (ret := (some .int)) (by decide) rfl ?_
  intro p e s m args below meth cd s₁ BB hml hv
  obtain ⟨rfl, hR⟩ := hv
  have hx := BB.exec
  have hb := BB.bytes
  have hr := BB.returns
  have hts := atoms_spec (ws := wsX7_turn) BB.pre
  have hown : s.vm.findClass RX7 = some m.cls := findClass_of_methodNamed BB.named
  have hlocks := BB.notSynchronized
  have hrc : 0 + 0 ≤ (headSpec wsX7_turn ({ frames := 5, cells := 0, slots := 0, locals := 110 })).room.cells := Nat.le_refl _
  have hrs : 0 + 0 ≤ (headSpec wsX7_turn ({ frames := 5, cells := 0, slots := 0, locals := 110 })).room.slots := Nat.le_refl _
  have hP := hR.1
  have hK := hR.2.1
  have hN := hR.2.2
  obtain ⟨hk7, ho1, ho5, hi6, hl200, hnx, hkn⟩ := id hc
  have hin7 : ∀ w ∈ u_ws RX7 TX7 13, w ∈ wsX7_turn := by decide +kernel
  have hf48 := hts (.fieldLink RX7 48 "RegaliaVotes" "vote" "LRegaliaVotes$Vote;") (by decide +kernel)
  refine wk_enter (n := 2) (Nat.le_of_ble_eq_true rfl) (fun ls hl => ?_)
  have hl : lv_has ls 2 [(0, .ref (a 0)), (1, .int b)] := hl
  refine lv_iload_n hx hb dX7_turn_0 rfl (lv_at hl 1 rfl) ?_
  refine wk_read (va_runS (As := [.int b]) (rest := []) ⟨hx, hb, hml, hown, hts⟩ (c_X7_noBill l b) (va_cwS 1 hts gX7_turn_X7_noBill rfl rfl rfl hdS_X7_noBill ⟨Nat.le_of_ble_eq_true rfl, Nat.le_of_ble_eq_true rfl⟩) preEq rfl rfl hl.1 rfl (lv_room (Nat.le_of_ble_eq_true rfl)) dX7_turn_1 ⟨hrc, hrs⟩) ?_
  refine lv_if_eq (tgt := 9) hx hb dX7_turn_4 (by decide) (fun c4 => ?_) (fun c4 => ?_)
  · have c4 := b2i_f c4
    refine lv_aload_n hx hb dX7_turn_9 rfl (lv_at hl 0 rfl) ?_
    refine va_get (D := G.1) (v := .ref (a 9)) hx hb hts hin7 hown hK hP 0 rfl rfl 6 (by decide) hf48 (fun _ h => h) rfl dX7_turn_10 ?_
    refine lv_iload_n hx hb dX7_turn_13 rfl (lv_at hl 1 rfl) ?_
    refine wk_read (va_runV (As := [.int b]) (rest := []) ⟨hx, hb, hml, hown, hts⟩ (c_X6_fewestTurned l G a c hc b) (cwV 1 hts gX7_turn_X6_fewestTurned rfl rfl rfl hdV_X6_fewestTurned ⟨Nat.le_of_ble_eq_true rfl, Nat.le_of_ble_eq_true rfl⟩) (hR.pre (ci := 6) (q0 := 9) rfl rfl) rfl rfl hl.1 rfl (lv_room (Nat.le_of_ble_eq_true rfl)) dX7_turn_14 ⟨hrc, hrs⟩) ?_
    exact wk_ret hx hb hr hlocks dX7_turn_17 (by simp [xTurn, c4])
  · have c4 := b2i_t c4
    refine lv_iconst (v := -1) hx hb dX7_turn_7 (by decide) ?_
    exact wk_ret hx hb hr hlocks dX7_turn_8 (by simp [xTurn, c4])
theorem hdV_X7_hand : yX7_hand.cls = RX7 ∧ yX7_hand.cls ≠ "java/lang/invoke/MethodHandle" ∧ yX7_hand.cls ≠ "java/lang/invoke/VarHandle" ∧ (parseMethodDescriptor yX7_hand.desc).map (fun d => d.parameters.length) = some 1 := by decide +kernel
set_option maxHeartbeats 4000000 in
set_option maxRecDepth 100000 in
theorem c_X7_hand (l : Launch) (G : GG) (a : Nat → Nat) (c : CX) (hc : OkR c) (b : Int32) : Met l yX7_hand wsX7_hand ({ frames := 5, cells := 0, slots := 0, locals := 112 }) (va_Pc [.ref (a 0), .int b] (fun U => PreW G (WR G a c) U U.heap)) (QcRead (xHand c b)) 0 0 (fun _ => False) := by
  refine Met.ofW (cc := cX7_hand) (maxL := 2) (ret := (some .int)) (by decide) rfl ?_
  intro p e s m args below meth cd s₁ BB hml hv
  obtain ⟨rfl, hR⟩ := hv
  have hx := BB.exec
  have hb := BB.bytes
  have hr := BB.returns
  have hts := atoms_spec (ws := wsX7_hand) BB.pre
  have hown : s.vm.findClass RX7 = some m.cls := findClass_of_methodNamed BB.named
  have hlocks := BB.notSynchronized
  have hrc : 0 + 0 ≤ (headSpec wsX7_hand ({ frames := 5, cells := 0, slots := 0, locals := 112 })).room.cells := Nat.le_refl _
  have hrs : 0 + 0 ≤ (headSpec wsX7_hand ({ frames := 5, cells := 0, slots := 0, locals := 112 })).room.slots := Nat.le_refl _
  have hP := hR.1
  have hK := hR.2.1
  have hN := hR.2.2
  obtain ⟨hk7, ho1, ho5, hi6, hl200, hnx, hkn⟩ := id hc
  have hin7 : ∀ w ∈ u_ws RX7 TX7 13, w ∈ wsX7_hand := by decide +kernel
  have hf48 := hts (.fieldLink RX7 48 "RegaliaVotes" "vote" "LRegaliaVotes$Vote;") (by decide +kernel)
  refine wk_enter (n := 2) (Nat.le_of_ble_eq_true rfl) (fun ls hl => ?_)
  have hl : lv_has ls 2 [(0, .ref (a 0)), (1, .int b)] := hl
  refine lv_iload_n hx hb dX7_hand_0 rfl (lv_at hl 1 rfl) ?_
  refine wk_read (va_runS (As := [.int b]) (rest := []) ⟨hx, hb, hml, hown, hts⟩ (c_X7_noBill l b) (va_cwS 1 hts gX7_hand_X7_noBill rfl rfl rfl hdS_X7_noBill ⟨Nat.le_of_ble_eq_true rfl, Nat.le_of_ble_eq_true rfl⟩) preEq rfl rfl hl.1 rfl (lv_room (Nat.le_of_ble_eq_true rfl)) dX7_hand_1 ⟨hrc, hrs⟩) ?_
  refine lv_if_eq (tgt := 9) hx hb dX7_hand_4 (by decide) (fun c4 => ?_) (fun c4 => ?_)
  · have c4 := b2i_f c4
    refine lv_aload_n hx hb dX7_hand_9 rfl (lv_at hl 0 rfl) ?_
    refine va_get (D := G.1) (v := .ref (a 9)) hx hb hts hin7 hown hK hP 0 rfl rfl 6 (by decide) hf48 (fun _ h => h) rfl dX7_hand_10 ?_
    refine lv_iload_n hx hb dX7_hand_13 rfl (lv_at hl 1 rfl) ?_
    refine wk_read (va_runV (As := [.int b]) (rest := []) ⟨hx, hb, hml, hown, hts⟩ (c_X6_fewestHanded l G a c hc b) (cwV 1 hts gX7_hand_X6_fewestHanded rfl rfl rfl hdV_X6_fewestHanded ⟨Nat.le_of_ble_eq_true rfl, Nat.le_of_ble_eq_true rfl⟩) (hR.pre (ci := 6) (q0 := 9) rfl rfl) rfl rfl hl.1 rfl (lv_room (Nat.le_of_ble_eq_true rfl)) dX7_hand_14 ⟨hrc, hrs⟩) ?_
    exact wk_ret hx hb hr hlocks dX7_hand_17 (by simp [xHand, c4])
  · have c4 := b2i_t c4
    refine lv_iconst (v := -1) hx hb dX7_hand_7 (by decide) ?_
    exact wk_ret hx hb hr hlocks dX7_hand_8 (by simp [xHand, c4])
theorem hdV_X7_swaps : yX7_swaps.cls = RX7 ∧ yX7_swaps.cls ≠ "java/lang/invoke/MethodHandle" ∧ yX7_swaps.cls ≠ "java/lang/invoke/VarHandle" ∧ (parseMethodDescriptor yX7_swaps.desc).map (fun d => d.parameters.length) = some 1 := by decide +kernel
set_option maxHeartbeats 4000000 in
set_option maxRecDepth 100000 in
theorem c_X7_swaps (l : Launch) (G : GG) (a : Nat → Nat) (c : CX) (hc : OkR c) (b : Int32) : Met l yX7_swaps wsX7_swaps ({ frames := 4, cells := 0, slots := 0, locals := 95 }) (va_Pc [.ref (a 0), .int b] (fun U => PreW G (WR G a c) U U.heap)) (QcRead (xSwaps c b)) 0 0 (fun _ => False) := by
  refine Met.ofW (cc := cX7_swaps) (maxL := 2) (ret := (some .int)) (by decide) rfl ?_
  intro p e s m args below meth cd s₁ BB hml hv
  obtain ⟨rfl, hR⟩ := hv
  have hx := BB.exec
  have hb := BB.bytes
  have hr := BB.returns
  have hts := atoms_spec (ws := wsX7_swaps) BB.pre
  have hown : s.vm.findClass RX7 = some m.cls := findClass_of_methodNamed BB.named
  have hlocks := BB.notSynchronized
  have hrc : 0 + 0 ≤ (headSpec wsX7_swaps ({ frames := 4, cells := 0, slots := 0, locals := 95 })).room.cells := Nat.le_refl _
  have hrs : 0 + 0 ≤ (headSpec wsX7_swaps ({ frames := 4, cells := 0, slots := 0, locals := 95 })).room.slots := Nat.le_refl _
  have hP := hR.1
  have hK := hR.2.1
  have hN := hR.2.2
  obtain ⟨hk7, ho1, ho5, hi6, hl200, hnx, hkn⟩ := id hc
  have hin7 : ∀ w ∈ u_ws RX7 TX7 13, w ∈ wsX7_swaps := by decide +kernel
  have hf48 := hts (.fieldLink RX7 48 "RegaliaVotes" "vote" "LRegaliaVotes$Vote;") (by decide +kernel)
  refine wk_enter (n := 2) (Nat.le_of_ble_eq_true rfl) (fun ls hl => ?_)
  have hl : lv_has ls 2 [(0, .ref (a 0)), (1, .int b)] := hl
  refine lv_iload_n hx hb dX7_swaps_0 rfl (lv_at hl 1 rfl) ?_
  refine wk_read (va_runS (As := [.int b]) (rest := []) ⟨hx, hb, hml, hown, hts⟩ (c_X7_noBill l b) (va_cwS 1 hts gX7_swaps_X7_noBill rfl rfl rfl hdS_X7_noBill ⟨Nat.le_of_ble_eq_true rfl, Nat.le_of_ble_eq_true rfl⟩) preEq rfl rfl hl.1 rfl (lv_room (Nat.le_of_ble_eq_true rfl)) dX7_swaps_1 ⟨hrc, hrs⟩) ?_
  refine lv_if_eq (tgt := 9) hx hb dX7_swaps_4 (by decide) (fun c4 => ?_) (fun c4 => ?_)
  · have c4 := b2i_f c4
    refine lv_aload_n hx hb dX7_swaps_9 rfl (lv_at hl 0 rfl) ?_
    refine va_get (D := G.1) (v := .ref (a 9)) hx hb hts hin7 hown hK hP 0 rfl rfl 6 (by decide) hf48 (fun _ h => h) rfl dX7_swaps_10 ?_
    refine lv_iload_n hx hb dX7_swaps_13 rfl (lv_at hl 1 rfl) ?_
    refine wk_read (va_runV (As := [.int b]) (rest := []) ⟨hx, hb, hml, hown, hts⟩ (c_X6_changingSwaps l G a c hc b) (cwV 1 hts gX7_swaps_X6_changingSwaps rfl rfl rfl hdV_X6_changingSwaps ⟨Nat.le_of_ble_eq_true rfl, Nat.le_of_ble_eq_true rfl⟩) (hR.pre (ci := 6) (q0 := 9) rfl rfl) rfl rfl hl.1 rfl (lv_room (Nat.le_of_ble_eq_true rfl)) dX7_swaps_14 ⟨hrc, hrs⟩) ?_
    exact wk_ret hx hb hr hlocks dX7_swaps_17 (by simp [xSwaps, c4])
  · have c4 := b2i_t c4
    refine lv_iconst (v := -1) hx hb dX7_swaps_7 (by decide) ?_
    exact wk_ret hx hb hr hlocks dX7_swaps_8 (by simp [xSwaps, c4])
theorem hdV_X7_isFor : yX7_isFor.cls = RX7 ∧ yX7_isFor.cls ≠ "java/lang/invoke/MethodHandle" ∧ yX7_isFor.cls ≠ "java/lang/invoke/VarHandle" ∧ (parseMethodDescriptor yX7_isFor.desc).map (fun d => d.parameters.length) = some 2 := by decide +kernel
set_option maxHeartbeats 4000000 in
set_option maxRecDepth 100000 in
theorem c_X7_isFor (l : Launch) (G : GG) (a : Nat → Nat) (c : CX) (hc : OkR c) (t : Int32) (w : Int32) : Met l yX7_isFor wsX7_isFor ({ frames := 5, cells := 0, slots := 0, locals := 116 }) (va_Pc [.ref (a 0), .int t, .int w] (fun U => PreW G (WR G a c) U U.heap)) (QcRead (xIsFor c t w)) 0 0 (fun _ => False) := by
  refine Met.ofW (cc := cX7_isFor) (maxL := 3) (ret := (some .int)) (by decide) rfl ?_
  intro p e s m args below meth cd s₁ BB hml hv
  obtain ⟨rfl, hR⟩ := hv
  have hx := BB.exec
  have hb := BB.bytes
  have hr := BB.returns
  have hts := atoms_spec (ws := wsX7_isFor) BB.pre
  have hown : s.vm.findClass RX7 = some m.cls := findClass_of_methodNamed BB.named
  have hlocks := BB.notSynchronized
  have hrc : 0 + 0 ≤ (headSpec wsX7_isFor ({ frames := 5, cells := 0, slots := 0, locals := 116 })).room.cells := Nat.le_refl _
  have hrs : 0 + 0 ≤ (headSpec wsX7_isFor ({ frames := 5, cells := 0, slots := 0, locals := 116 })).room.slots := Nat.le_refl _
  have hP := hR.1
  have hK := hR.2.1
  have hN := hR.2.2
  obtain ⟨hk7, ho1, ho5, hi6, hl200, hnx, hkn⟩ := id hc
  have hin7 : ∀ w ∈ u_ws RX7 TX7 13, w ∈ wsX7_isFor := by decide +kernel
  have hf64 := hts (.fieldLink RX7 64 "RegaliaVotes" "minutes" "LRegaliaVotes$Minutes;") (by decide +kernel)
  refine wk_enter (n := 3) (Nat.le_of_ble_eq_true rfl) (fun ls hl => ?_)
  have hl : lv_has ls 3 [(0, .ref (a 0)), (1, .int t), (2, .int w)] := hl
  refine lv_aload_n hx hb dX7_isFor_0 rfl (lv_at hl 0 rfl) ?_
  refine lv_iload_n hx hb dX7_isFor_1 rfl (lv_at hl 1 rfl) ?_
  refine wk_read (va_runV (As := [.int t]) (rest := []) ⟨hx, hb, hml, hown, hts⟩ (c_X7_noThing l G a c hc t) (cwV 1 hts gX7_isFor_X7_noThing rfl rfl rfl hdV_X7_noThing ⟨Nat.le_of_ble_eq_true rfl, Nat.le_of_ble_eq_true rfl⟩) (hR.pre (ci := 7) (q0 := 0) rfl rfl) rfl rfl hl.1 rfl (lv_room (Nat.le_of_ble_eq_true rfl)) dX7_isFor_2 ⟨hrc, hrs⟩) ?_
  refine lv_if_ne (tgt := 15) hx hb dX7_isFor_5 (by decide) (fun c5 => ?_) (fun c5 => ?_)
  · have c5 := b2i_t c5
    refine lv_iconst (v := -1) hx hb dX7_isFor_15 (by decide) ?_
    exact wk_ret hx hb hr hlocks dX7_isFor_16 (by simp only [xIsFor, c5]; simp)
  · have c5 := b2i_f c5
    refine lv_iload_n hx hb dX7_isFor_8 rfl (lv_at hl 2 rfl) ?_
    refine wk_read (va_runS (As := [.int w]) (rest := []) ⟨hx, hb, hml, hown, hts⟩ (c_X7_noTerm l w) (va_cwS 1 hts gX7_isFor_X7_noTerm rfl rfl rfl hdS_X7_noTerm ⟨Nat.le_of_ble_eq_true rfl, Nat.le_of_ble_eq_true rfl⟩) preEq rfl rfl hl.1 rfl (lv_room (Nat.le_of_ble_eq_true rfl)) dX7_isFor_9 ⟨hrc, hrs⟩) ?_
    refine lv_if_eq (tgt := 17) hx hb dX7_isFor_12 (by decide) (fun c12 => ?_) (fun c12 => ?_)
    · have c12 := b2i_f c12
      refine lv_iload_n hx hb dX7_isFor_17 rfl (lv_at hl 2 rfl) ?_
      refine lv_if_ne (tgt := 32) hx hb dX7_isFor_18 (by decide) (fun c18 => ?_) (fun c18 => ?_)
      · refine lv_aload_n hx hb dX7_isFor_32 rfl (lv_at hl 0 rfl) ?_
        refine va_get (D := G.1) (v := .ref (a 11)) hx hb hts hin7 hown hK hP 0 rfl rfl 8 (by decide) hf64 (fun _ h => h) rfl dX7_isFor_33 ?_
        refine lv_iload_n hx hb dX7_isFor_36 rfl (lv_at hl 1 rfl) ?_
        refine wk_read (va_runV (As := [.int t]) (rest := []) ⟨hx, hb, hml, hown, hts⟩ (c_X1_leastPossibleSet l G a c hc t) (cwV 1 hts gX7_isFor_X1_leastPossibleSet rfl rfl rfl hdV_X1_leastPossibleSet ⟨Nat.le_of_ble_eq_true rfl, Nat.le_of_ble_eq_true rfl⟩) (hR.pre (ci := 1) (q0 := 11) rfl rfl) rfl rfl hl.1 rfl (lv_room (Nat.le_of_ble_eq_true rfl)) dX7_isFor_37 ⟨hrc, hrs⟩) ?_
        exact wk_ret hx hb hr hlocks dX7_isFor_40 (by simp only [xIsFor, c5, c12]; simp [c18])
      · refine lv_aload_n hx hb dX7_isFor_21 rfl (lv_at hl 0 rfl) ?_
        refine va_get (D := G.1) (v := .ref (a 11)) hx hb hts hin7 hown hK hP 0 rfl rfl 8 (by decide) hf64 (fun _ h => h) rfl dX7_isFor_22 ?_
        refine lv_iload_n hx hb dX7_isFor_25 rfl (lv_at hl 1 rfl) ?_
        refine wk_read (va_runV (As := [.int t]) (rest := []) ⟨hx, hb, hml, hown, hts⟩ (c_X1_possibleSets l G a c hc t) (cwV 1 hts gX7_isFor_X1_possibleSets rfl rfl rfl hdV_X1_possibleSets ⟨Nat.le_of_ble_eq_true rfl, Nat.le_of_ble_eq_true rfl⟩) (hR.pre (ci := 1) (q0 := 11) rfl rfl) rfl rfl hl.1 rfl (lv_room (Nat.le_of_ble_eq_true rfl)) dX7_isFor_26 ⟨hrc, hrs⟩) ?_
        refine lv_goto (tgt := 40) hx hb dX7_isFor_29 (by decide) ?_
        exact wk_ret hx hb hr hlocks dX7_isFor_40 (by simp only [xIsFor, c5, c12]; simp [c18])
    · have c12 := b2i_t c12
      refine lv_iconst (v := -1) hx hb dX7_isFor_15 (by decide) ?_
      exact wk_ret hx hb hr hlocks dX7_isFor_16 (by simp only [xIsFor, c5, c12]; simp)
theorem hdV_X7_who : yX7_who.cls = RX7 ∧ yX7_who.cls ≠ "java/lang/invoke/MethodHandle" ∧ yX7_who.cls ≠ "java/lang/invoke/VarHandle" ∧ (parseMethodDescriptor yX7_who.desc).map (fun d => d.parameters.length) = some 0 := by decide +kernel
set_option maxHeartbeats 4000000 in
set_option maxRecDepth 100000 in
theorem c_X7_who (l : Launch) (G : GG) (a : Nat → Nat) (c : CX) (hc : OkR c) : Met l yX7_who wsX7_who ({ frames := 5, cells := 0, slots := 0, locals := 111 }) (va_Pc [.ref (a 0)] (fun U => PreW G (WR G a c) U U.heap)) (QcRead (pWho (cK c) (cM c) (cI c))) 0 0 (fun _ => False) := by
  refine Met.ofW (cc := cX7_who) (maxL := 1) (ret := (some .int)) (by decide) rfl ?_
  intro p e s m args below meth cd s₁ BB hml hv
  obtain ⟨rfl, hR⟩ := hv
  have hx := BB.exec
  have hb := BB.bytes
  have hr := BB.returns
  have hts := atoms_spec (ws := wsX7_who) BB.pre
  have hown : s.vm.findClass RX7 = some m.cls := findClass_of_methodNamed BB.named
  have hlocks := BB.notSynchronized
  have hrc : 0 + 0 ≤ (headSpec wsX7_who ({ frames := 5, cells := 0, slots := 0, locals := 111 })).room.cells := Nat.le_refl _
  have hrs : 0 + 0 ≤ (headSpec wsX7_who ({ frames := 5, cells := 0, slots := 0, locals := 111 })).room.slots := Nat.le_refl _
  have hP := hR.1
  have hK := hR.2.1
  have hN := hR.2.2
  obtain ⟨hk7, ho1, ho5, hi6, hl200, hnx, hkn⟩ := id hc
  have hin7 : ∀ w ∈ u_ws RX7 TX7 13, w ∈ wsX7_who := by decide +kernel
  have hf64 := hts (.fieldLink RX7 64 "RegaliaVotes" "minutes" "LRegaliaVotes$Minutes;") (by decide +kernel)
  refine wk_enter (n := 1) (Nat.le_of_ble_eq_true rfl) (fun ls hl => ?_)
  have hl : lv_has ls 1 [(0, .ref (a 0))] := hl
  refine lv_aload_n hx hb dX7_who_0 rfl (lv_at hl 0 rfl) ?_
  refine va_get (D := G.1) (v := .ref (a 11)) hx hb hts hin7 hown hK hP 0 rfl rfl 8 (by decide) hf64 (fun _ h => h) rfl dX7_who_1 ?_
  refine wk_read (va_runV (As := []) (rest := []) ⟨hx, hb, hml, hown, hts⟩ (c_X1_possiblySick l G a c hc) (cwV 0 hts gX7_who_X1_possiblySick rfl rfl rfl hdV_X1_possiblySick ⟨Nat.le_of_ble_eq_true rfl, Nat.le_of_ble_eq_true rfl⟩) (hR.pre (ci := 1) (q0 := 11) rfl rfl) rfl rfl hl.1 rfl (lv_room (Nat.le_of_ble_eq_true rfl)) dX7_who_4 ⟨hrc, hrs⟩) ?_
  exact wk_ret hx hb hr hlocks dX7_who_7 (rfl)
theorem hdV_X7_odds : yX7_odds.cls = RX7 ∧ yX7_odds.cls ≠ "java/lang/invoke/MethodHandle" ∧ yX7_odds.cls ≠ "java/lang/invoke/VarHandle" ∧ (parseMethodDescriptor yX7_odds.desc).map (fun d => d.parameters.length) = some 3 := by decide +kernel
set_option maxHeartbeats 4000000 in
set_option maxRecDepth 100000 in
theorem c_X7_odds (l : Launch) (G : GG) (a : Nat → Nat) (c : CX) (hc : OkR c) (b : Int32) (p9 : Int32) (w : Int32) : Met l yX7_odds wsX7_odds ({ frames := 4, cells := 0, slots := 0, locals := 91 }) (va_Pc [.ref (a 0), .int b, .int p9, .int w] (fun U => PreW G (WR G a c) U U.heap)) (QcRead (xOdds c b p9 w)) 0 0 (fun _ => False) := by
  refine Met.ofW (cc := cX7_odds) (maxL := 4) (ret := (some .int)) (by decide) rfl ?_
  intro p e s m args below meth cd s₁ BB hml hv
  obtain ⟨rfl, hR⟩ := hv
  have hx := BB.exec
  have hb := BB.bytes
  have hr := BB.returns
  have hts := atoms_spec (ws := wsX7_odds) BB.pre
  have hown : s.vm.findClass RX7 = some m.cls := findClass_of_methodNamed BB.named
  have hlocks := BB.notSynchronized
  have hrc : 0 + 0 ≤ (headSpec wsX7_odds ({ frames := 4, cells := 0, slots := 0, locals := 91 })).room.cells := Nat.le_refl _
  have hrs : 0 + 0 ≤ (headSpec wsX7_odds ({ frames := 4, cells := 0, slots := 0, locals := 91 })).room.slots := Nat.le_refl _
  have hP := hR.1
  have hK := hR.2.1
  have hN := hR.2.2
  obtain ⟨hk7, ho1, ho5, hi6, hl200, hnx, hkn⟩ := id hc
  have hin7 : ∀ w ∈ u_ws RX7 TX7 13, w ∈ wsX7_odds := by decide +kernel
  have hf48 := hts (.fieldLink RX7 48 "RegaliaVotes" "vote" "LRegaliaVotes$Vote;") (by decide +kernel)
  refine wk_enter (n := 4) (Nat.le_of_ble_eq_true rfl) (fun ls hl => ?_)
  have hl : lv_has ls 4 [(0, .ref (a 0)), (1, .int b), (2, .int p9), (3, .int w)] := hl
  refine lv_iload_n hx hb dX7_odds_0 rfl (lv_at hl 1 rfl) ?_
  refine wk_read (va_runS (As := [.int b]) (rest := []) ⟨hx, hb, hml, hown, hts⟩ (c_X7_noBill l b) (va_cwS 1 hts gX7_odds_X7_noBill rfl rfl rfl hdS_X7_noBill ⟨Nat.le_of_ble_eq_true rfl, Nat.le_of_ble_eq_true rfl⟩) preEq rfl rfl hl.1 rfl (lv_room (Nat.le_of_ble_eq_true rfl)) dX7_odds_1 ⟨hrc, hrs⟩) ?_
  refine lv_if_ne (tgt := 24) hx hb dX7_odds_4 (by decide) (fun c4 => ?_) (fun c4 => ?_)
  · have c4 := b2i_t c4
    refine lv_iconst (v := -1) hx hb dX7_odds_24 (by decide) ?_
    exact wk_ret hx hb hr hlocks dX7_odds_25 (by simp [xOdds, c4])
  · have c4 := b2i_f c4
    refine lv_iload_n hx hb dX7_odds_7 rfl (lv_at hl 2 rfl) ?_
    refine lv_if_lt (tgt := 24) hx hb dX7_odds_8 (by decide) (fun c8 => ?_) (fun c8 => ?_)
    · refine lv_iconst (v := -1) hx hb dX7_odds_24 (by decide) ?_
      exact wk_ret hx hb hr hlocks dX7_odds_25 (by simp [xOdds, c4, c8])
    · refine lv_iload_n hx hb dX7_odds_11 rfl (lv_at hl 2 rfl) ?_
      refine lv_bipush (v := 10) hx hb dX7_odds_12 (by decide) ?_
      refine lv_icmp_gt (tgt := 24) hx hb dX7_odds_14 (by decide) (fun c14 => ?_) (fun c14 => ?_)
      · refine lv_iconst (v := -1) hx hb dX7_odds_24 (by decide) ?_
        exact wk_ret hx hb hr hlocks dX7_odds_25 (by simp [xOdds, c4, c8, c14])
      · refine lv_iload_n hx hb dX7_odds_17 rfl (lv_at hl 3 rfl) ?_
        refine wk_read (va_runS (As := [.int w]) (rest := []) ⟨hx, hb, hml, hown, hts⟩ (c_X7_noTerm l w) (va_cwS 1 hts gX7_odds_X7_noTerm rfl rfl rfl hdS_X7_noTerm ⟨Nat.le_of_ble_eq_true rfl, Nat.le_of_ble_eq_true rfl⟩) preEq rfl rfl hl.1 rfl (lv_room (Nat.le_of_ble_eq_true rfl)) dX7_odds_18 ⟨hrc, hrs⟩) ?_
        refine lv_if_eq (tgt := 26) hx hb dX7_odds_21 (by decide) (fun c21 => ?_) (fun c21 => ?_)
        · have c21 := b2i_f c21
          refine lv_aload_n hx hb dX7_odds_26 rfl (lv_at hl 0 rfl) ?_
          refine va_get (D := G.1) (v := .ref (a 9)) hx hb hts hin7 hown hK hP 0 rfl rfl 6 (by decide) hf48 (fun _ h => h) rfl dX7_odds_27 ?_
          refine lv_iload_n hx hb dX7_odds_30 rfl (lv_at hl 1 rfl) ?_
          refine lv_iload_n hx hb dX7_odds_31 rfl (lv_at hl 2 rfl) ?_
          refine wk_read (va_runV (As := [.int b, .int p9]) (rest := []) ⟨hx, hb, hml, hown, hts⟩ (c_X6_chancesToPass l G a c hc b p9) (cwV 2 hts gX7_odds_X6_chancesToPass rfl rfl rfl hdV_X6_chancesToPass ⟨Nat.le_of_ble_eq_true rfl, Nat.le_of_ble_eq_true rfl⟩) (hR.pre (ci := 6) (q0 := 9) rfl rfl) rfl rfl hl.1 rfl (lv_room (Nat.le_of_ble_eq_true rfl)) dX7_odds_32 ⟨hrc, hrs⟩) ?_
          refine lv_aload_n hx hb dX7_odds_35 rfl (lv_at hl 0 rfl) ?_
          refine va_get (D := G.1) (v := .ref (a 9)) hx hb hts hin7 hown hK hP 0 rfl rfl 6 (by decide) hf48 (fun _ h => h) rfl dX7_odds_36 ?_
          refine wk_read (va_runV (As := []) (rest := [.int (pChP (cK c) (cM c) b p9)]) ⟨hx, hb, hml, hown, hts⟩ (c_X6_chances l G a c hc) (cwV 0 hts gX7_odds_X6_chances rfl rfl rfl hdV_X6_chances ⟨Nat.le_of_ble_eq_true rfl, Nat.le_of_ble_eq_true rfl⟩) (hR.pre (ci := 6) (q0 := 9) rfl rfl) rfl rfl hl.1 rfl (lv_room (Nat.le_of_ble_eq_true rfl)) dX7_odds_39 ⟨hrc, hrs⟩) ?_
          refine lv_iload_n hx hb dX7_odds_42 rfl (lv_at hl 3 rfl) ?_
          refine wk_read (va_runS (As := [.int (pChP (cK c) (cM c) b p9), .int (pChan (cK c)), .int w]) (rest := []) ⟨hx, hb, hml, hown, hts⟩ (c_X7_term l (pChP (cK c) (cM c) b p9) (pChan (cK c)) w) (va_cwS 3 hts gX7_odds_X7_term rfl rfl rfl hdS_X7_term ⟨Nat.le_of_ble_eq_true rfl, Nat.le_of_ble_eq_true rfl⟩) preEq rfl rfl hl.1 rfl (lv_room (Nat.le_of_ble_eq_true rfl)) dX7_odds_43 ⟨hrc, hrs⟩) ?_
          exact wk_ret hx hb hr hlocks dX7_odds_46 (by simp [xOdds, c4, c8, c14, c21])
        · have c21 := b2i_t c21
          refine lv_iconst (v := -1) hx hb dX7_odds_24 (by decide) ?_
          exact wk_ret hx hb hr hlocks dX7_odds_25 (by simp [xOdds, c4, c8, c14, c21])
theorem hdV_X7_count : yX7_count.cls = RX7 ∧ yX7_count.cls ≠ "java/lang/invoke/MethodHandle" ∧ yX7_count.cls ≠ "java/lang/invoke/VarHandle" ∧ (parseMethodDescriptor yX7_count.desc).map (fun d => d.parameters.length) = some 1 := by decide +kernel
set_option maxHeartbeats 4000000 in
set_option maxRecDepth 100000 in
theorem c_X7_count (l : Launch) (G : GG) (a : Nat → Nat) (c : CX) (hc : OkR c) (w : Int32) : Met l yX7_count wsX7_count ({ frames := 0, cells := 0, slots := 0, locals := 0 }) (va_Pc [.ref (a 0), .int w] (fun U => PreW G (WR G a c) U U.heap)) (QcRead (xCount c w)) 0 0 (fun _ => False) := by
  refine Met.ofW (cc := cX7_count) (maxL := 2) (ret := (some .int)) (by decide) rfl ?_
  intro p e s m args below meth cd s₁ BB hml hv
  obtain ⟨rfl, hR⟩ := hv
  have hx := BB.exec
  have hb := BB.bytes
  have hr := BB.returns
  have hts := atoms_spec (ws := wsX7_count) BB.pre
  have hown : s.vm.findClass RX7 = some m.cls := findClass_of_methodNamed BB.named
  have hlocks := BB.notSynchronized
  have hrc : 0 + 0 ≤ (headSpec wsX7_count ({ frames := 0, cells := 0, slots := 0, locals := 0 })).room.cells := Nat.le_refl _
  have hrs : 0 + 0 ≤ (headSpec wsX7_count ({ frames := 0, cells := 0, slots := 0, locals := 0 })).room.slots := Nat.le_refl _
  have hP := hR.1
  have hK := hR.2.1
  have hN := hR.2.2
  obtain ⟨hk7, ho1, ho5, hi6, hl200, hnx, hkn⟩ := id hc
  have hin0 : ∀ w ∈ u_ws RX0 TX0 7, w ∈ wsX7_count := by decide +kernel
  have hin1 : ∀ w ∈ u_ws RX1 TX1 4, w ∈ wsX7_count := by decide +kernel
  have hin7 : ∀ w ∈ u_ws RX7 TX7 13, w ∈ wsX7_count := by decide +kernel
  have hf13 := hts (.fieldLink RX7 13 "RegaliaVotes" "letters" "I") (by decide +kernel)
  have hf20 := hts (.fieldLink RX7 20 "RegaliaVotes" "told" "LRegaliaVotes$Council;") (by decide +kernel)
  have hf64 := hts (.fieldLink RX7 64 "RegaliaVotes" "minutes" "LRegaliaVotes$Minutes;") (by decide +kernel)
  have hf189 := hts (.fieldLink RX7 189 "RegaliaVotes$Council" "warmth" "I") (by decide +kernel)
  have hf228 := hts (.fieldLink RX7 228 "RegaliaVotes$Minutes" "lines" "I") (by decide +kernel)
  have hf274 := hts (.fieldLink RX7 274 "RegaliaVotes$Council" "things" "I") (by decide +kernel)
  have hf277 := hts (.fieldLink RX7 277 "RegaliaVotes$Council" "officers" "I") (by decide +kernel)
  refine wk_enter (n := 2) (Nat.le_of_ble_eq_true rfl) (fun ls hl => ?_)
  have hl : lv_has ls 2 [(0, .ref (a 0)), (1, .int w)] := hl
  refine lv_iload_n hx hb dX7_count_0 rfl (lv_at hl 1 rfl) ?_
  rcases wk_sw0_4 w with c1 | c1 | c1 | c1 | c1 | c1
  · refine lv_tableIn (tgt := 36) hx hb dX7_count_1 (by rw [c1]; decide) (by rw [c1]; decide) (by rw [c1]; rfl) (by decide) ?_
    refine lv_aload_n hx hb dX7_count_36 rfl (lv_at hl 0 rfl) ?_
    refine va_get (D := G.1) (v := .ref (a 1)) hx hb hts hin7 hown hK hP 0 rfl rfl 2 (by decide) hf20 (fun _ h => h) rfl dX7_count_37 ?_
    refine va_get (D := G.1) (v := .int (nI (kT (cK c)))) hx hb hts hin0 hown hK hP 1 rfl rfl 0 (by decide) hf274 (fun _ h => h) rfl dX7_count_40 ?_
    exact wk_ret hx hb hr hlocks dX7_count_43 (by simp [xCount, c1])
  · refine lv_tableIn (tgt := 44) hx hb dX7_count_1 (by rw [c1]; decide) (by rw [c1]; decide) (by rw [c1]; rfl) (by decide) ?_
    refine lv_aload_n hx hb dX7_count_44 rfl (lv_at hl 0 rfl) ?_
    refine va_get (D := G.1) (v := .ref (a 1)) hx hb hts hin7 hown hK hP 0 rfl rfl 2 (by decide) hf20 (fun _ h => h) rfl dX7_count_45 ?_
    refine va_get (D := G.1) (v := .int (nI (kO (cK c)))) hx hb hts hin0 hown hK hP 1 rfl rfl 1 (by decide) hf277 (fun _ h => h) rfl dX7_count_48 ?_
    exact wk_ret hx hb hr hlocks dX7_count_51 (by simp [xCount, c1])
  · refine lv_tableIn (tgt := 52) hx hb dX7_count_1 (by rw [c1]; decide) (by rw [c1]; decide) (by rw [c1]; rfl) (by decide) ?_
    refine lv_aload_n hx hb dX7_count_52 rfl (lv_at hl 0 rfl) ?_
    refine va_get (D := G.1) (v := .ref (a 1)) hx hb hts hin7 hown hK hP 0 rfl rfl 2 (by decide) hf20 (fun _ h => h) rfl dX7_count_53 ?_
    refine va_get (D := G.1) (v := .int (kW (cK c))) hx hb hts hin0 hown hK hP 1 rfl rfl 2 (by decide) hf189 (fun _ h => h) rfl dX7_count_56 ?_
    exact wk_ret hx hb hr hlocks dX7_count_59 (by simp [xCount, c1])
  · refine lv_tableIn (tgt := 60) hx hb dX7_count_1 (by rw [c1]; decide) (by rw [c1]; decide) (by rw [c1]; rfl) (by decide) ?_
    refine lv_aload_n hx hb dX7_count_60 rfl (lv_at hl 0 rfl) ?_
    refine va_get (D := G.1) (v := .ref (a 11)) hx hb hts hin7 hown hK hP 0 rfl rfl 8 (by decide) hf64 (fun _ h => h) rfl dX7_count_61 ?_
    refine va_get (D := G.1) (v := .int (nI (iL (cI c)))) hx hb hts hin1 hown hK hP 11 rfl rfl 3 (by decide) hf228 (fun _ h => h) rfl dX7_count_64 ?_
    exact wk_ret hx hb hr hlocks dX7_count_67 (by simp [xCount, c1])
  · refine lv_tableIn (tgt := 68) hx hb dX7_count_1 (by rw [c1]; decide) (by rw [c1]; decide) (by rw [c1]; rfl) (by decide) ?_
    refine lv_aload_n hx hb dX7_count_68 rfl (lv_at hl 0 rfl) ?_
    refine va_get (D := G.1) (v := .int (nI (cLe c))) hx hb hts hin7 hown hK hP 0 rfl rfl 1 (by decide) hf13 (fun _ h => h) rfl dX7_count_69 ?_
    exact wk_ret hx hb hr hlocks dX7_count_72 (by simp [xCount, c1])
  · have q1_0 : ¬ w = 0 := by intro q; rw [q] at c1; revert c1; decide
    have q1_1 : ¬ w = 1 := by intro q; rw [q] at c1; revert c1; decide
    have q1_2 : ¬ w = 2 := by intro q; rw [q] at c1; revert c1; decide
    have q1_3 : ¬ w = 3 := by intro q; rw [q] at c1; revert c1; decide
    have q1_4 : ¬ w = 4 := by intro q; rw [q] at c1; revert c1; decide
    refine lv_tableOut (tgt := 73) hx hb dX7_count_1 c1 (by decide) ?_
    refine lv_iconst (v := -1) hx hb dX7_count_73 (by decide) ?_
    exact wk_ret hx hb hr hlocks dX7_count_74 (by simp [xCount, q1_0, q1_1, q1_2, q1_3, q1_4])

theorem hdS_X8_in : yX8_in.cls ≠ "java/lang/invoke/MethodHandle" ∧ yX8_in.cls ≠ "java/lang/invoke/VarHandle" ∧ (parseMethodDescriptor yX8_in.desc).map (fun d => d.parameters.length) = some 3 := by decide +kernel
set_option maxHeartbeats 600000 in
set_option maxRecDepth 100000 in
theorem c_X8_in (l : Launch) (u : Int32) (x : Int32) (y : Int32) : Met l yX8_in wsX8_in ({ frames := 0, cells := 0, slots := 0, locals := 0 }) (fun v _ => v = ([.int u, .int x, .int y] : List Value).toArray) (QcRead (b2i (pIn u x y))) 0 0 (fun _ => False) := by
  refine Met.ofW (cc := cX8_in) (maxL := 3) (ret := (some .boolean)) (by decide) rfl ?_
  intro p e s m args below meth cd s₁ BB hml hv
  subst hv
  have hx := BB.exec
  have hb := BB.bytes
  have hr := BB.returns
  have hts := atoms_spec (ws := wsX8_in) BB.pre
  have hown : s.vm.findClass RX8 = some m.cls := findClass_of_methodNamed BB.named
  have hlocks := BB.notSynchronized
  have hrc : 0 + 0 ≤ (headSpec wsX8_in ({ frames := 0, cells := 0, slots := 0, locals := 0 })).room.cells := Nat.le_refl _
  have hrs : 0 + 0 ≤ (headSpec wsX8_in ({ frames := 0, cells := 0, slots := 0, locals := 0 })).room.slots := Nat.le_refl _
  refine wk_enter (n := 3) (Nat.le_of_ble_eq_true rfl) (fun ls hl => ?_)
  have hl : lv_has ls 3 [(0, .int u), (1, .int x), (2, .int y)] := hl
  refine lv_iload_n hx hb dX8_in_0 rfl (lv_at hl 0 rfl) ?_
  refine lv_iload_n hx hb dX8_in_1 rfl (lv_at hl 1 rfl) ?_
  refine lv_icmp_lt (tgt := 14) hx hb dX8_in_2 (by decide) (fun c2 => ?_) (fun c2 => ?_)
  · refine lv_iconst (v := 0) hx hb dX8_in_14 (by decide) ?_
    exact wk_zret hx hb hr hlocks dX8_in_15 (by rfl) (by simp [b2i, pIn, c2])
  · refine lv_iload_n hx hb dX8_in_5 rfl (lv_at hl 0 rfl) ?_
    refine lv_iload_n hx hb dX8_in_6 rfl (lv_at hl 2 rfl) ?_
    refine lv_icmp_gt (tgt := 14) hx hb dX8_in_7 (by decide) (fun c7 => ?_) (fun c7 => ?_)
    · refine lv_iconst (v := 0) hx hb dX8_in_14 (by decide) ?_
      exact wk_zret hx hb hr hlocks dX8_in_15 (by rfl) (by simp [b2i, pIn, c2, c7])
    · refine lv_iconst (v := 1) hx hb dX8_in_10 (by decide) ?_
      refine lv_goto (tgt := 15) hx hb dX8_in_11 (by decide) ?_
      exact wk_zret hx hb hr hlocks dX8_in_15 (by rfl) (by simp [b2i, pIn, c2, c7])
theorem hdS_X8_ones : yX8_ones.cls ≠ "java/lang/invoke/MethodHandle" ∧ yX8_ones.cls ≠ "java/lang/invoke/VarHandle" ∧ (parseMethodDescriptor yX8_ones.desc).map (fun d => d.parameters.length) = some 1 := by decide +kernel
set_option maxHeartbeats 600000 in
set_option maxRecDepth 100000 in
theorem c_X8_ones (l : Launch) (x : Int32) : Met l yX8_ones wsX8_ones ({ frames := 0, cells := 0, slots := 0, locals := 0 }) (fun v _ => v = ([.int x] : List Value).toArray) (QcRead (jOnes x)) 0 0 (fun _ => False) := by
  refine Met.ofW (cc := cX8_ones) (maxL := 3) (ret := (some .int)) (by decide) rfl ?_
  intro p e s m args below meth cd s₁ BB hml hv
  subst hv
  have hx := BB.exec
  have hb := BB.bytes
  have hr := BB.returns
  have hts := atoms_spec (ws := wsX8_ones) BB.pre
  have hown : s.vm.findClass RX8 = some m.cls := findClass_of_methodNamed BB.named
  have hlocks := BB.notSynchronized
  have hrc : 0 + 0 ≤ (headSpec wsX8_ones ({ frames := 0, cells := 0, slots := 0, locals := 0 })).room.cells := Nat.le_refl _
  have hrs : 0 + 0 ≤ (headSpec wsX8_ones ({ frames := 0, cells := 0, slots := 0, locals := 0 })).room.slots := Nat.le_refl _
  refine wk_enter (n := 3) (Nat.le_of_ble_eq_true rfl) (fun ls hl => ?_)
  have hl : lv_has ls 3 [(0, .int x)] := hl
  refine lv_iconst (v := 0) hx hb dX8_ones_0 (by decide) ?_
  refine lv_istore_n (lv' := [(1, .int 0), (0, .int x)]) hx hb dX8_ones_1 rfl hl (by decide) rfl (fun ls hl => ?_)
  refine lv_iconst (v := 0) hx hb dX8_ones_2 (by decide) ?_
  refine lv_istore_n (lv' := [(2, .int 0), (1, .int 0), (0, .int x)]) hx hb dX8_ones_3 rfl hl (by decide) rfl (fun ls hl => ?_)
  refine wk_loop (σ := Nat × Int32) (nL := 3) (fun xσ n => match xσ with | (i, z) => i + n = 7 ∧ z = jOnesF x i) (fun xσ => match xσ with | (i, z) => [(2, .int (nI i)), (1, .int z), (0, .int x)]) (0, 0) 7 (⟨by omega, rfl⟩) hl ?_
  rintro n4 ⟨i, z⟩ ls hI4 hl ih4
  have hl : lv_has ls 3 [(2, .int (nI i)), (1, .int z), (0, .int x)] := hl
  obtain ⟨hi, hz⟩ := hI4
  refine lv_iload_n hx hb dX8_ones_4 rfl (lv_at hl 0 rfl) ?_
  refine lv_bipush (v := 7) hx hb dX8_ones_5 (by decide) ?_
  refine wk_ge (x := i) (y := 7) (tgt := 24) hx hb (by omega) (by omega) dX8_ones_7 (by decide) (fun c7 => ?_) (fun c7 => ?_)
  · refine lv_iload_n hx hb dX8_ones_24 rfl (lv_at hl 1 rfl) ?_
    exact wk_ret hx hb hr hlocks dX8_ones_25 (by rw [hz, show i = 7 by omega]; rfl)
  · refine lv_iload_n hx hb dX8_ones_10 rfl (lv_at hl 1 rfl) ?_
    refine lv_iload_n hx hb dX8_ones_11 rfl (lv_at hl 2 rfl) ?_
    refine lv_iload_n hx hb dX8_ones_12 rfl (lv_at hl 0 rfl) ?_
    refine lv_ishr hx hb dX8_ones_13 ?_
    refine lv_iconst (v := 1) hx hb dX8_ones_14 (by decide) ?_
    refine lv_iand hx hb dX8_ones_15 ?_
    show W _ _ _ _ _ _ _ _ _ _ _ _ _ _ _ (F0 _ _ _ (.int (bitI x (nI i)) :: _))
    refine lv_iadd hx hb dX8_ones_16 ?_
    refine lv_istore_n (lv' := [(1, .int (z + (bitI x (nI i)))), (2, .int (nI i)), (0, .int x)]) hx hb dX8_ones_17 rfl hl (by decide) rfl (fun ls hl => ?_)
    refine lv_iinc (v := (nI (i + 1))) (lv' := [(2, .int (nI (i + 1))), (1, .int (z + (bitI x (nI i)))), (0, .int x)]) hx hb dX8_ones_18 hl (k := 1) rfl (wk_i1 i) (by decide) rfl (fun ls hl => ?_)
    refine lv_goto (tgt := 4) hx hb dX8_ones_21 (by decide) ?_
    exact ih4 (i + 1, (z + (bitI x (nI i)))) (n4 - 1) ls (by omega) (⟨by omega, by rw [hz]; simp [jOnesF, fo_s, c7]⟩) (lv_sub hl [0, 1, 2] rfl)
theorem hdS_X8_isBill : yX8_isBill.cls ≠ "java/lang/invoke/MethodHandle" ∧ yX8_isBill.cls ≠ "java/lang/invoke/VarHandle" ∧ (parseMethodDescriptor yX8_isBill.desc).map (fun d => d.parameters.length) = some 1 := by decide +kernel
set_option maxHeartbeats 600000 in
set_option maxRecDepth 100000 in
theorem c_X8_isBill (l : Launch) (b : Int32) : Met l yX8_isBill wsX8_isBill ({ frames := 1, cells := 0, slots := 0, locals := 22 }) (fun v _ => v = ([.int b] : List Value).toArray) (QcRead (b2i (pIn b 0 4))) 0 0 (fun _ => False) := by
  refine Met.ofW (cc := cX8_isBill) (maxL := 1) (ret := (some .boolean)) (by decide) rfl ?_
  intro p e s m args below meth cd s₁ BB hml hv
  subst hv
  have hx := BB.exec
  have hb := BB.bytes
  have hr := BB.returns
  have hts := atoms_spec (ws := wsX8_isBill) BB.pre
  have hown : s.vm.findClass RX8 = some m.cls := findClass_of_methodNamed BB.named
  have hlocks := BB.notSynchronized
  have hrc : 0 + 0 ≤ (headSpec wsX8_isBill ({ frames := 1, cells := 0, slots := 0, locals := 22 })).room.cells := Nat.le_refl _
  have hrs : 0 + 0 ≤ (headSpec wsX8_isBill ({ frames := 1, cells := 0, slots := 0, locals := 22 })).room.slots := Nat.le_refl _
  refine wk_enter (n := 1) (Nat.le_of_ble_eq_true rfl) (fun ls hl => ?_)
  have hl : lv_has ls 1 [(0, .int b)] := hl
  refine lv_iload_n hx hb dX8_isBill_0 rfl (lv_at hl 0 rfl) ?_
  refine lv_iconst (v := 0) hx hb dX8_isBill_1 (by decide) ?_
  refine lv_iconst (v := 4) hx hb dX8_isBill_2 (by decide) ?_
  refine wk_read (va_runS (As := [.int b, .int 0, .int 4]) (rest := []) ⟨hx, hb, hml, hown, hts⟩ (c_X8_in l b 0 4) (va_cwS 3 hts gX8_isBill_X8_in rfl rfl rfl hdS_X8_in ⟨Nat.le_of_ble_eq_true rfl, Nat.le_of_ble_eq_true rfl⟩) preEq rfl rfl hl.1 rfl (lv_room (Nat.le_of_ble_eq_true rfl)) dX8_isBill_3 ⟨hrc, hrs⟩) ?_
  exact wk_zret hx hb hr hlocks dX8_isBill_6 (b2i_nar _) (rfl)
theorem hdS_X8_orders : yX8_orders.cls ≠ "java/lang/invoke/MethodHandle" ∧ yX8_orders.cls ≠ "java/lang/invoke/VarHandle" ∧ (parseMethodDescriptor yX8_orders.desc).map (fun d => d.parameters.length) = some 1 := by decide +kernel
set_option maxHeartbeats 600000 in
set_option maxRecDepth 100000 in
theorem c_X8_orders (l : Launch) (x : Int32) (h7 : x ≤ 7) : Met l yX8_orders wsX8_orders ({ frames := 0, cells := 0, slots := 0, locals := 0 }) (fun v _ => v = ([.int x] : List Value).toArray) (QcRead (jOrd x)) 0 0 (fun _ => False) := by
  refine Met.ofW (cc := cX8_orders) (maxL := 3) (ret := (some .int)) (by decide) rfl ?_
  intro p e s m args below meth cd s₁ BB hml hv
  subst hv
  have hx := BB.exec
  have hb := BB.bytes
  have hr := BB.returns
  have hts := atoms_spec (ws := wsX8_orders) BB.pre
  have hown : s.vm.findClass RX8 = some m.cls := findClass_of_methodNamed BB.named
  have hlocks := BB.notSynchronized
  have hrc : 0 + 0 ≤ (headSpec wsX8_orders ({ frames := 0, cells := 0, slots := 0, locals := 0 })).room.cells := Nat.le_refl _
  have hrs : 0 + 0 ≤ (headSpec wsX8_orders ({ frames := 0, cells := 0, slots := 0, locals := 0 })).room.slots := Nat.le_refl _
  refine wk_enter (n := 3) (Nat.le_of_ble_eq_true rfl) (fun ls hl => ?_)
  have hl : lv_has ls 3 [(0, .int x)] := hl
  refine lv_iconst (v := 1) hx hb dX8_orders_0 (by decide) ?_
  refine lv_istore_n (lv' := [(1, .int 1), (0, .int x)]) hx hb dX8_orders_1 rfl hl (by decide) rfl (fun ls hl => ?_)
  refine lv_iconst (v := 2) hx hb dX8_orders_2 (by decide) ?_
  refine lv_istore_n (lv' := [(2, .int 2), (1, .int 1), (0, .int x)]) hx hb dX8_orders_3 rfl hl (by decide) rfl (fun ls hl => ?_)
  refine wk_loop (σ := Nat × Int32) (nL := 3) (fun xσ n => match xσ with | (i, z) => i + n = 7 ∧ z = jOrdF i ∧ (i = 0 ∨ nI (i + 1) ≤ x)) (fun xσ => match xσ with | (i, z) => [(2, .int (nI (i + 2))), (1, .int z), (0, .int x)]) (0, 1) 7 (⟨by omega, rfl, Or.inl rfl⟩) hl ?_
  rintro n4 ⟨i, z⟩ ls hI4 hl ih4
  have hl : lv_has ls 3 [(2, .int (nI (i + 2))), (1, .int z), (0, .int x)] := hl
  obtain ⟨hi, hz, hj⟩ := hI4
  refine lv_iload_n hx hb dX8_orders_4 rfl (lv_at hl 0 rfl) ?_
  refine lv_iload_n hx hb dX8_orders_5 rfl (lv_at hl 2 rfl) ?_
  refine lv_icmp_gt (tgt := 19) hx hb dX8_orders_6 (by decide) (fun c6 => ?_) (fun c6 => ?_)
  · refine lv_iload_n hx hb dX8_orders_19 rfl (lv_at hl 1 rfl) ?_
    exact wk_ret hx hb hr hlocks dX8_orders_20 (by rw [hz]; exact jOrd_at hj c6 (by omega))
  · have hq : i + 2 ≤ 7 := (nI_leI (b := 7) (by omega) (by omega)).mp (Int32.le_trans (Int32.not_lt.mp c6) h7)
    refine lv_iload_n hx hb dX8_orders_9 rfl (lv_at hl 1 rfl) ?_
    refine lv_iload_n hx hb dX8_orders_10 rfl (lv_at hl 0 rfl) ?_
    refine lv_imul hx hb dX8_orders_11 ?_
    refine lv_istore_n (lv' := [(1, .int (z * (nI (i + 2)))), (2, .int (nI (i + 2))), (0, .int x)]) hx hb dX8_orders_12 rfl hl (by decide) rfl (fun ls hl => ?_)
    refine lv_iinc (v := (nI ((i + 2) + 1))) (lv' := [(2, .int (nI ((i + 2) + 1))), (1, .int (z * (nI (i + 2)))), (0, .int x)]) hx hb dX8_orders_13 hl (k := 1) rfl (wk_i1 (i + 2)) (by decide) rfl (fun ls hl => ?_)
    refine lv_goto (tgt := 4) hx hb dX8_orders_16 (by decide) ?_
    exact ih4 (i + 1, (z * (nI (i + 2)))) (n4 - 1) ls (by omega) (⟨by omega, by rw [hz, jOrdF, fo_s], Or.inr (Int32.not_lt.mp c6)⟩) (lv_sub hl [0, 1, 2] rfl)
theorem hdS_X8_gcd : yX8_gcd.cls ≠ "java/lang/invoke/MethodHandle" ∧ yX8_gcd.cls ≠ "java/lang/invoke/VarHandle" ∧ (parseMethodDescriptor yX8_gcd.desc).map (fun d => d.parameters.length) = some 2 := by decide +kernel
set_option maxHeartbeats 600000 in
set_option maxRecDepth 100000 in
theorem c_X8_gcd (l : Launch) (x : Nat) (y : Nat) (hx9 : x < 2 ^ 31) (hy9 : y < 2 ^ 31) : Met l yX8_gcd wsX8_gcd ({ frames := 0, cells := 0, slots := 0, locals := 0 }) (fun v _ => v = ([.int (nI x), .int (nI y)] : List Value).toArray) (QcRead (nI (Nat.gcd x y))) 0 0 (fun _ => False) := by
  refine Met.ofW (cc := cX8_gcd) (maxL := 5) (ret := (some .int)) (by decide) rfl ?_
  intro p e s m args below meth cd s₁ BB hml hv
  subst hv
  have hx := BB.exec
  have hb := BB.bytes
  have hr := BB.returns
  have hts := atoms_spec (ws := wsX8_gcd) BB.pre
  have hown : s.vm.findClass RX8 = some m.cls := findClass_of_methodNamed BB.named
  have hlocks := BB.notSynchronized
  have hrc : 0 + 0 ≤ (headSpec wsX8_gcd ({ frames := 0, cells := 0, slots := 0, locals := 0 })).room.cells := Nat.le_refl _
  have hrs : 0 + 0 ≤ (headSpec wsX8_gcd ({ frames := 0, cells := 0, slots := 0, locals := 0 })).room.slots := Nat.le_refl _
  refine wk_enter (n := 5) (Nat.le_of_ble_eq_true rfl) (fun ls hl => ?_)
  have hl : lv_has ls 5 [(0, .int (nI x)), (1, .int (nI y))] := hl
  refine lv_iload_n hx hb dX8_gcd_0 rfl (lv_at hl 0 rfl) ?_
  refine lv_istore_n (lv' := [(2, .int (nI x)), (0, .int (nI x)), (1, .int (nI y))]) hx hb dX8_gcd_1 rfl hl (by decide) rfl (fun ls hl => ?_)
  refine lv_iload_n hx hb dX8_gcd_2 rfl (lv_at hl 2 rfl) ?_
  refine lv_istore_n (lv' := [(3, .int (nI y)), (2, .int (nI x)), (0, .int (nI x)), (1, .int (nI y))]) hx hb dX8_gcd_3 rfl hl (by decide) rfl (fun ls hl => ?_)
  refine wk_loop (σ := Nat × Nat) (nL := 5) (fun xσ n => match xσ with | (u, w) => w ≤ n ∧ u < 2 ^ 31 ∧ w < 2 ^ 31 ∧ Nat.gcd u w = Nat.gcd x y) (fun xσ => match xσ with | (u, w) => [(3, .int (nI w)), (2, .int (nI u)), (0, .int (nI x)), (1, .int (nI y))]) (x, y) y (⟨by omega, hx9, hy9, rfl⟩) hl ?_
  rintro n4 ⟨u, w⟩ ls hI4 hl ih4
  have hl : lv_has ls 5 [(3, .int (nI w)), (2, .int (nI u)), (0, .int (nI x)), (1, .int (nI y))] := hl
  obtain ⟨hn9, hu, hw, hg⟩ := hI4
  refine lv_iload_n hx hb dX8_gcd_4 rfl (lv_at hl 0 rfl) ?_
  refine lv_if_eq (tgt := 21) hx hb dX8_gcd_5 (by decide) (fun c5 => ?_) (fun c5 => ?_)
  · have c5 := nI_z (by omega) c5
    refine lv_iload_n hx hb dX8_gcd_21 rfl (lv_at hl 1 rfl) ?_
    exact wk_ret hx hb hr hlocks dX8_gcd_22 (by rw [← hg, c5, Nat.gcd_zero_right])
  · have c5 := nI_nz c5
    refine lv_iload_n hx hb dX8_gcd_8 rfl (lv_at hl 1 rfl) ?_
    refine lv_iload_n hx hb dX8_gcd_9 rfl (lv_at hl 0 rfl) ?_
    refine lv_irem hx hb dX8_gcd_10 (nI_ne0 c5 hw) ?_
    rw [rem_n hu c5 hw]
    refine lv_istore (lv' := [(4, .int (nI (u % w))), (3, .int (nI w)), (2, .int (nI u)), (0, .int (nI x)), (1, .int (nI y))]) hx hb dX8_gcd_11 hl (by decide) rfl (fun ls hl => ?_)
    refine lv_iload_n hx hb dX8_gcd_13 rfl (lv_at hl 1 rfl) ?_
    refine lv_istore_n (lv' := [(2, .int (nI w)), (4, .int (nI (u % w))), (3, .int (nI w)), (0, .int (nI x)), (1, .int (nI y))]) hx hb dX8_gcd_14 rfl hl (by decide) rfl (fun ls hl => ?_)
    refine lv_iload hx hb dX8_gcd_15 (lv_at hl 1 rfl) ?_
    refine lv_istore_n (lv' := [(3, .int (nI (u % w))), (2, .int (nI w)), (4, .int (nI (u % w))), (0, .int (nI x)), (1, .int (nI y))]) hx hb dX8_gcd_17 rfl hl (by decide) rfl (fun ls hl => ?_)
    refine lv_goto (tgt := 4) hx hb dX8_gcd_18 (by decide) ?_
    have hml9 := Nat.mod_lt u c5
    exact ih4 (w, u % w) (u % w) ls (by omega) (⟨by omega, by omega, by omega, by rw [← hg, Nat.gcd_comm u w, Nat.gcd_rec w u, Nat.gcd_comm]⟩) (lv_sub hl [0, 1, 3, 4] rfl)
theorem hdV_X8_isThing : yX8_isThing.cls = RX8 ∧ yX8_isThing.cls ≠ "java/lang/invoke/MethodHandle" ∧ yX8_isThing.cls ≠ "java/lang/invoke/VarHandle" ∧ (parseMethodDescriptor yX8_isThing.desc).map (fun d => d.parameters.length) = some 1 := by decide +kernel
set_option maxHeartbeats 600000 in
set_option maxRecDepth 100000 in
theorem c_X8_isThing (l : Launch) (G : GG) (a : Nat → Nat) (c : JX) (hc : OkJ c) (t : Int32) : Met l yX8_isThing wsX8_isThing ({ frames := 1, cells := 0, slots := 0, locals := 22 }) (va_Pc [.ref (a 0), .int t] (fun U => PreW G (WM G a c) U U.heap)) (QcRead (b2i (jIsT (qN c 0) t))) 0 0 (fun _ => False) := by
  refine Met.ofW (cc := cX8_isThing) (maxL := 2) (ret := (some .boolean)) (by decide) rfl ?_
  intro p e s m args below meth cd s₁ BB hml hv
  obtain ⟨rfl, hR⟩ := hv
  have hx := BB.exec
  have hb := BB.bytes
  have hr := BB.returns
  have hts := atoms_spec (ws := wsX8_isThing) BB.pre
  have hown : s.vm.findClass RX8 = some m.cls := findClass_of_methodNamed BB.named
  have hlocks := BB.notSynchronized
  have hrc : 0 + 0 ≤ (headSpec wsX8_isThing ({ frames := 1, cells := 0, slots := 0, locals := 22 })).room.cells := Nat.le_refl _
  have hrs : 0 + 0 ≤ (headSpec wsX8_isThing ({ frames := 1, cells := 0, slots := 0, locals := 22 })).room.slots := Nat.le_refl _
  have hP := hR.1
  have hK := hR.2.1
  have hN := hR.2.2
  obtain ⟨hk7, ho1, ho5, hl200, hr6, hu10⟩ := id hc
  have hin8 : ∀ w ∈ u_ws RX8 TX8 24, w ∈ wsX8_isThing := by decide +kernel
  have hf13 := hts (.fieldLink RX8 13 "RegaliaVotesModel" "many" "[I") (by decide +kernel)
  refine wk_enter (n := 2) (Nat.le_of_ble_eq_true rfl) (fun ls hl => ?_)
  have hl : lv_has ls 2 [(0, .ref (a 0)), (1, .int t)] := hl
  refine lv_iload_n hx hb dX8_isThing_0 rfl (lv_at hl 1 rfl) ?_
  refine lv_iconst (v := 0) hx hb dX8_isThing_1 (by decide) ?_
  refine lv_aload_n hx hb dX8_isThing_2 rfl (lv_at hl 0 rfl) ?_
  refine va_get (D := G.1) (v := .ref (a 1)) hx hb hts hin8 hown hK hP 0 rfl rfl 9 (by decide) hf13 (fun _ h => h) rfl dX8_isThing_3 ?_
  refine lv_iconst (v := 0) hx hb dX8_isThing_6 (by decide) ?_
  refine wk_iald (i := 0) hx hb hK hP 1 1 rfl rfl (by omega) (Nat.le_of_ble_eq_true rfl) dX8_isThing_7 ?_
  refine lv_iconst (v := 1) hx hb dX8_isThing_8 (by decide) ?_
  refine lv_isub hx hb dX8_isThing_9 ?_
  refine wk_read (va_runS (As := [.int t, .int 0, .int ((nI (qN c 0)) - 1)]) (rest := []) ⟨hx, hb, hml, hown, hts⟩ (c_X8_in l t 0 ((nI (qN c 0)) - 1)) (va_cwS 3 hts gX8_isThing_X8_in rfl rfl rfl hdS_X8_in ⟨Nat.le_of_ble_eq_true rfl, Nat.le_of_ble_eq_true rfl⟩) preEq rfl rfl hl.1 rfl (lv_room (Nat.le_of_ble_eq_true rfl)) dX8_isThing_10 ⟨hrc, hrs⟩) ?_
  exact wk_zret hx hb hr hlocks dX8_isThing_13 (b2i_nar _) (rfl)
theorem hdV_X8_isOfficer : yX8_isOfficer.cls = RX8 ∧ yX8_isOfficer.cls ≠ "java/lang/invoke/MethodHandle" ∧ yX8_isOfficer.cls ≠ "java/lang/invoke/VarHandle" ∧ (parseMethodDescriptor yX8_isOfficer.desc).map (fun d => d.parameters.length) = some 1 := by decide +kernel
set_option maxHeartbeats 600000 in
set_option maxRecDepth 100000 in
theorem c_X8_isOfficer (l : Launch) (G : GG) (a : Nat → Nat) (c : JX) (hc : OkJ c) (t : Int32) : Met l yX8_isOfficer wsX8_isOfficer ({ frames := 1, cells := 0, slots := 0, locals := 22 }) (va_Pc [.ref (a 0), .int t] (fun U => PreW G (WM G a c) U U.heap)) (QcRead (b2i (jIsT (qN c 1) t))) 0 0 (fun _ => False) := by
  refine Met.ofW (cc := cX8_isOfficer) (maxL := 2) (ret := (some .boolean)) (by decide) rfl ?_
  intro p e s m args below meth cd s₁ BB hml hv
  obtain ⟨rfl, hR⟩ := hv
  have hx := BB.exec
  have hb := BB.bytes
  have hr := BB.returns
  have hts := atoms_spec (ws := wsX8_isOfficer) BB.pre
  have hown : s.vm.findClass RX8 = some m.cls := findClass_of_methodNamed BB.named
  have hlocks := BB.notSynchronized
  have hrc : 0 + 0 ≤ (headSpec wsX8_isOfficer ({ frames := 1, cells := 0, slots := 0, locals := 22 })).room.cells := Nat.le_refl _
  have hrs : 0 + 0 ≤ (headSpec wsX8_isOfficer ({ frames := 1, cells := 0, slots := 0, locals := 22 })).room.slots := Nat.le_refl _
  have hP := hR.1
  have hK := hR.2.1
  have hN := hR.2.2
  obtain ⟨hk7, ho1, ho5, hl200, hr6, hu10⟩ := id hc
  have hin8 : ∀ w ∈ u_ws RX8 TX8 24, w ∈ wsX8_isOfficer := by decide +kernel
  have hf13 := hts (.fieldLink RX8 13 "RegaliaVotesModel" "many" "[I") (by decide +kernel)
  refine wk_enter (n := 2) (Nat.le_of_ble_eq_true rfl) (fun ls hl => ?_)
  have hl : lv_has ls 2 [(0, .ref (a 0)), (1, .int t)] := hl
  refine lv_iload_n hx hb dX8_isOfficer_0 rfl (lv_at hl 1 rfl) ?_
  refine lv_iconst (v := 0) hx hb dX8_isOfficer_1 (by decide) ?_
  refine lv_aload_n hx hb dX8_isOfficer_2 rfl (lv_at hl 0 rfl) ?_
  refine va_get (D := G.1) (v := .ref (a 1)) hx hb hts hin8 hown hK hP 0 rfl rfl 9 (by decide) hf13 (fun _ h => h) rfl dX8_isOfficer_3 ?_
  refine lv_iconst (v := 1) hx hb dX8_isOfficer_6 (by decide) ?_
  refine wk_iald (i := 1) hx hb hK hP 1 1 rfl rfl (by omega) (Nat.le_of_ble_eq_true rfl) dX8_isOfficer_7 ?_
  refine lv_iconst (v := 1) hx hb dX8_isOfficer_8 (by decide) ?_
  refine lv_isub hx hb dX8_isOfficer_9 ?_
  refine wk_read (va_runS (As := [.int t, .int 0, .int ((nI (qN c 1)) - 1)]) (rest := []) ⟨hx, hb, hml, hown, hts⟩ (c_X8_in l t 0 ((nI (qN c 1)) - 1)) (va_cwS 3 hts gX8_isOfficer_X8_in rfl rfl rfl hdS_X8_in ⟨Nat.le_of_ble_eq_true rfl, Nat.le_of_ble_eq_true rfl⟩) preEq rfl rfl hl.1 rfl (lv_room (Nat.le_of_ble_eq_true rfl)) dX8_isOfficer_10 ⟨hrc, hrs⟩) ?_
  exact wk_zret hx hb hr hlocks dX8_isOfficer_13 (b2i_nar _) (rfl)
theorem hdV_X8_speaks : yX8_speaks.cls = RX8 ∧ yX8_speaks.cls ≠ "java/lang/invoke/MethodHandle" ∧ yX8_speaks.cls ≠ "java/lang/invoke/VarHandle" ∧ (parseMethodDescriptor yX8_speaks.desc).map (fun d => d.parameters.length) = some 2 := by decide +kernel
set_option maxHeartbeats 600000 in
set_option maxRecDepth 100000 in
theorem c_X8_speaks (l : Launch) (G : GG) (a : Nat → Nat) (c : JX) (hc : OkJ c) (t : Nat) (q : Bool) (ht : t < 7) : Met l yX8_speaks wsX8_speaks ({ frames := 0, cells := 0, slots := 0, locals := 0 }) (va_Pc [.ref (a 0), .ref (a (rP q)), .int (nI t)] (fun U => PreW G (WM G a c) U U.heap)) (QcRead (b2i (jSpk (qSo c) (rF c q) t))) 0 0 (fun _ => False) := by
  refine Met.ofW (cc := cX8_speaks) (maxL := 4) (ret := (some .boolean)) (by decide) rfl ?_
  intro p e s m args below meth cd s₁ BB hml hv
  obtain ⟨rfl, hR⟩ := hv
  have hx := BB.exec
  have hb := BB.bytes
  have hr := BB.returns
  have hts := atoms_spec (ws := wsX8_speaks) BB.pre
  have hown : s.vm.findClass RX8 = some m.cls := findClass_of_methodNamed BB.named
  have hlocks := BB.notSynchronized
  have hrc : 0 + 0 ≤ (headSpec wsX8_speaks ({ frames := 0, cells := 0, slots := 0, locals := 0 })).room.cells := Nat.le_refl _
  have hrs : 0 + 0 ≤ (headSpec wsX8_speaks ({ frames := 0, cells := 0, slots := 0, locals := 0 })).room.slots := Nat.le_refl _
  have hP := hR.1
  have hK := hR.2.1
  have hN := hR.2.2
  obtain ⟨hk7, ho1, ho5, hl200, hr6, hu10⟩ := id hc
  have hin8 : ∀ w ∈ u_ws RX8 TX8 24, w ∈ wsX8_speaks := by decide +kernel
  have hf16 := hts (.fieldLink RX8 16 "RegaliaVotesModel" "sort" "[I") (by decide +kernel)
  refine wk_enter (n := 4) (Nat.le_of_ble_eq_true rfl) (fun ls hl => ?_)
  have hl : lv_has ls 4 [(0, .ref (a 0)), (1, .ref (a (rP q))), (2, .int (nI t))] := hl
  refine lv_aload_n hx hb dX8_speaks_0 rfl (lv_at hl 1 rfl) ?_
  refine lv_bipush (v := 14) hx hb dX8_speaks_1 (by decide) ?_
  refine wk_iald (i := 14) hx hb hK hP (rP q) 1 (WM_row G a c q) rfl (by omega) (Nat.le_of_ble_eq_true rfl) dX8_speaks_3 ?_
  refine lv_iload_n hx hb dX8_speaks_4 rfl (lv_at hl 2 rfl) ?_
  refine lv_ishr hx hb dX8_speaks_5 ?_
  refine lv_iconst (v := 1) hx hb dX8_speaks_6 (by decide) ?_
  refine lv_iand hx hb dX8_speaks_7 ?_
  show W _ _ _ _ _ _ _ _ _ _ _ _ _ _ _ (F0 _ _ _ (.int (bitI (rF c q 14) (nI t)) :: _))
  refine lv_if_ne (tgt := 30) hx hb dX8_speaks_8 (by decide) (fun c8 => ?_) (fun c8 => ?_)
  · refine lv_iconst (v := 0) hx hb dX8_speaks_30 (by decide) ?_
    refine lv_istore_n (lv' := [(3, .int 0), (0, .ref (a 0)), (1, .ref (a (rP q))), (2, .int (nI t))]) hx hb dX8_speaks_31 rfl hl (by decide) rfl (fun ls hl => ?_)
    refine lv_iload_n hx hb dX8_speaks_32 rfl (lv_at hl 0 rfl) ?_
    refine lv_if_eq (tgt := 69) hx hb dX8_speaks_33 (by decide) (fun c33 => ?_) (fun c33 => ?_)
    · refine lv_iconst (v := 0) hx hb dX8_speaks_69 (by decide) ?_
      exact wk_zret hx hb hr hlocks dX8_speaks_70 (by rfl) (by simp [b2i, jSpk, c8])
    · exact absurd c33 (by decide)
  · refine lv_aload_n hx hb dX8_speaks_11 rfl (lv_at hl 1 rfl) ?_
    refine lv_bipush (v := 16) hx hb dX8_speaks_12 (by decide) ?_
    refine wk_iald (i := 16) hx hb hK hP (rP q) 1 (WM_row G a c q) rfl (by omega) (Nat.le_of_ble_eq_true rfl) dX8_speaks_14 ?_
    refine lv_aload_n hx hb dX8_speaks_15 rfl (lv_at hl 1 rfl) ?_
    refine lv_iconst (v := 0) hx hb dX8_speaks_16 (by decide) ?_
    refine lv_iload_n hx hb dX8_speaks_17 rfl (lv_at hl 2 rfl) ?_
    refine wk_add0 (x := t) hx hb dX8_speaks_18 ?_
    refine wk_iald (i := t) hx hb hK hP (rP q) 1 (WM_row G a c q) rfl (by omega) (Nat.le_of_ble_eq_true rfl) dX8_speaks_19 ?_
    refine lv_ishr hx hb dX8_speaks_20 ?_
    refine lv_iconst (v := 1) hx hb dX8_speaks_21 (by decide) ?_
    refine lv_iand hx hb dX8_speaks_22 ?_
    show W _ _ _ _ _ _ _ _ _ _ _ _ _ _ _ (F0 _ _ _ (.int (bitI (rF c q 16) (rF c q t)) :: _))
    refine lv_if_ne (tgt := 30) hx hb dX8_speaks_23 (by decide) (fun c23 => ?_) (fun c23 => ?_)
    · refine lv_iconst (v := 0) hx hb dX8_speaks_30 (by decide) ?_
      refine lv_istore_n (lv' := [(3, .int 0), (0, .ref (a 0)), (1, .ref (a (rP q))), (2, .int (nI t))]) hx hb dX8_speaks_31 rfl hl (by decide) rfl (fun ls hl => ?_)
      refine lv_iload_n hx hb dX8_speaks_32 rfl (lv_at hl 0 rfl) ?_
      refine lv_if_eq (tgt := 69) hx hb dX8_speaks_33 (by decide) (fun c33 => ?_) (fun c33 => ?_)
      · refine lv_iconst (v := 0) hx hb dX8_speaks_69 (by decide) ?_
        exact wk_zret hx hb hr hlocks dX8_speaks_70 (by rfl) (by simp [b2i, jSpk, c8, c23])
      · exact absurd c33 (by decide)
    · refine lv_iconst (v := 1) hx hb dX8_speaks_26 (by decide) ?_
      refine lv_goto (tgt := 31) hx hb dX8_speaks_27 (by decide) ?_
      refine lv_istore_n (lv' := [(3, .int 1), (0, .ref (a 0)), (1, .ref (a (rP q))), (2, .int (nI t))]) hx hb dX8_speaks_31 rfl hl (by decide) rfl (fun ls hl => ?_)
      refine lv_iload_n hx hb dX8_speaks_32 rfl (lv_at hl 0 rfl) ?_
      refine lv_if_eq (tgt := 69) hx hb dX8_speaks_33 (by decide) (fun c33 => ?_) (fun c33 => ?_)
      · exact absurd c33 (by decide)
      · refine lv_aload_n hx hb dX8_speaks_36 rfl (lv_at hl 1 rfl) ?_
        refine va_get (D := G.1) (v := .ref (a 2)) hx hb hts hin8 hown hK hP 0 rfl rfl 10 (by decide) hf16 (fun _ h => h) rfl dX8_speaks_37 ?_
        refine lv_iload_n hx hb dX8_speaks_40 rfl (lv_at hl 3 rfl) ?_
        refine wk_iald (i := t) hx hb hK hP 2 1 rfl rfl (by omega) (Nat.le_of_ble_eq_true rfl) dX8_speaks_41 ?_
        refine lv_iconst (v := 3) hx hb dX8_speaks_42 (by decide) ?_
        refine lv_icmp_eq (tgt := 69) hx hb dX8_speaks_43 (by decide) (fun c43 => ?_) (fun c43 => ?_)
        · refine lv_iconst (v := 0) hx hb dX8_speaks_69 (by decide) ?_
          exact wk_zret hx hb hr hlocks dX8_speaks_70 (by rfl) (by simp [b2i, jSpk, c8, c23, c43])
        · refine lv_aload_n hx hb dX8_speaks_46 rfl (lv_at hl 1 rfl) ?_
          refine va_get (D := G.1) (v := .ref (a 2)) hx hb hts hin8 hown hK hP 0 rfl rfl 10 (by decide) hf16 (fun _ h => h) rfl dX8_speaks_47 ?_
          refine lv_iload_n hx hb dX8_speaks_50 rfl (lv_at hl 3 rfl) ?_
          refine wk_iald (i := t) hx hb hK hP 2 1 rfl rfl (by omega) (Nat.le_of_ble_eq_true rfl) dX8_speaks_51 ?_
          refine lv_iconst (v := 1) hx hb dX8_speaks_52 (by decide) ?_
          refine lv_icmp_ne (tgt := 65) hx hb dX8_speaks_53 (by decide) (fun c53 => ?_) (fun c53 => ?_)
          · refine lv_iconst (v := 1) hx hb dX8_speaks_65 (by decide) ?_
            refine lv_goto (tgt := 70) hx hb dX8_speaks_66 (by decide) ?_
            exact wk_zret hx hb hr hlocks dX8_speaks_70 (by rfl) (by simp [b2i, jSpk, c8, c23, c43, c53])
          · refine lv_aload_n hx hb dX8_speaks_56 rfl (lv_at hl 2 rfl) ?_
            refine lv_bipush (v := 7) hx hb dX8_speaks_57 (by decide) ?_
            refine lv_iload_n hx hb dX8_speaks_59 rfl (lv_at hl 3 rfl) ?_
            refine wk_iadd (x := 7) (y := t) hx hb dX8_speaks_60 ?_
            refine wk_iald (i := (7 + t)) hx hb hK hP (rP q) 1 (WM_row G a c q) rfl (by omega) (Nat.le_of_ble_eq_true rfl) dX8_speaks_61 ?_
            refine lv_if_le (tgt := 69) hx hb dX8_speaks_62 (by decide) (fun c62 => ?_) (fun c62 => ?_)
            · refine lv_iconst (v := 0) hx hb dX8_speaks_69 (by decide) ?_
              exact wk_zret hx hb hr hlocks dX8_speaks_70 (by rfl) (by simp [b2i, jSpk, c8, c23, c43, c53, c62])
            · refine lv_iconst (v := 1) hx hb dX8_speaks_65 (by decide) ?_
              refine lv_goto (tgt := 70) hx hb dX8_speaks_66 (by decide) ?_
              exact wk_zret hx hb hr hlocks dX8_speaks_70 (by rfl) (by simp [b2i, jSpk, c8, c23, c43, c53, c62])
theorem hdV_X8_voices : yX8_voices.cls = RX8 ∧ yX8_voices.cls ≠ "java/lang/invoke/MethodHandle" ∧ yX8_voices.cls ≠ "java/lang/invoke/VarHandle" ∧ (parseMethodDescriptor yX8_voices.desc).map (fun d => d.parameters.length) = some 1 := by decide +kernel
set_option maxHeartbeats 600000 in
set_option maxRecDepth 100000 in
theorem c_X8_voices (l : Launch) (G : GG) (a : Nat → Nat) (c : JX) (hc : OkJ c) (q : Bool) : Met l yX8_voices wsX8_voices ({ frames := 1, cells := 0, slots := 0, locals := 23 }) (va_Pc [.ref (a 0), .ref (a (rP q))] (fun U => PreW G (WM G a c) U U.heap)) (QcRead (jVoi (qN c 0) (qSo c) (rF c q))) 0 0 (fun _ => False) := by
  refine Met.ofW (cc := cX8_voices) (maxL := 4) (ret := (some .int)) (by decide) rfl ?_
  intro p e s m args below meth cd s₁ BB hml hv
  obtain ⟨rfl, hR⟩ := hv
  have hx := BB.exec
  have hb := BB.bytes
  have hr := BB.returns
  have hts := atoms_spec (ws := wsX8_voices) BB.pre
  have hown : s.vm.findClass RX8 = some m.cls := findClass_of_methodNamed BB.named
  have hlocks := BB.notSynchronized
  have hrc : 0 + 0 ≤ (headSpec wsX8_voices ({ frames := 1, cells := 0, slots := 0, locals := 23 })).room.cells := Nat.le_refl _
  have hrs : 0 + 0 ≤ (headSpec wsX8_voices ({ frames := 1, cells := 0, slots := 0, locals := 23 })).room.slots := Nat.le_refl _
  have hP := hR.1
  have hK := hR.2.1
  have hN := hR.2.2
  obtain ⟨hk7, ho1, ho5, hl200, hr6, hu10⟩ := id hc
  have hin8 : ∀ w ∈ u_ws RX8 TX8 24, w ∈ wsX8_voices := by decide +kernel
  have hf13 := hts (.fieldLink RX8 13 "RegaliaVotesModel" "many" "[I") (by decide +kernel)
  refine wk_enter (n := 4) (Nat.le_of_ble_eq_true rfl) (fun ls hl => ?_)
  have hl : lv_has ls 4 [(0, .ref (a 0)), (1, .ref (a (rP q)))] := hl
  refine lv_iconst (v := 0) hx hb dX8_voices_0 (by decide) ?_
  refine lv_istore_n (lv' := [(2, .int 0), (0, .ref (a 0)), (1, .ref (a (rP q)))]) hx hb dX8_voices_1 rfl hl (by decide) rfl (fun ls hl => ?_)
  refine lv_iconst (v := 0) hx hb dX8_voices_2 (by decide) ?_
  refine lv_istore_n (lv' := [(3, .int 0), (2, .int 0), (0, .ref (a 0)), (1, .ref (a (rP q)))]) hx hb dX8_voices_3 rfl hl (by decide) rfl (fun ls hl => ?_)
  refine wk_loop (σ := Nat × Int32) (nL := 4) (fun xσ n => match xσ with | (i, z) => i + n = qN c 0 ∧ z = jVoiF (qSo c) (rF c q) i) (fun xσ => match xσ with | (i, z) => [(3, .int (nI i)), (2, .int z), (0, .ref (a 0)), (1, .ref (a (rP q)))]) (0, 0) (qN c 0) (⟨by omega, rfl⟩) hl ?_
  rintro n4 ⟨i, z⟩ ls hI4 hl ih4
  have hl : lv_has ls 4 [(3, .int (nI i)), (2, .int z), (0, .ref (a 0)), (1, .ref (a (rP q)))] := hl
  obtain ⟨hi, hz⟩ := hI4
  refine lv_iload_n hx hb dX8_voices_4 rfl (lv_at hl 0 rfl) ?_
  refine lv_aload_n hx hb dX8_voices_5 rfl (lv_at hl 2 rfl) ?_
  refine va_get (D := G.1) (v := .ref (a 1)) hx hb hts hin8 hown hK hP 0 rfl rfl 9 (by decide) hf13 (fun _ h => h) rfl dX8_voices_6 ?_
  refine lv_iconst (v := 0) hx hb dX8_voices_9 (by decide) ?_
  refine wk_iald (i := 0) hx hb hK hP 1 1 rfl rfl (by omega) (Nat.le_of_ble_eq_true rfl) dX8_voices_10 ?_
  refine wk_ge (x := i) (y := (qN c 0)) (tgt := 39) hx hb (by omega) (by omega) dX8_voices_11 (by decide) (fun c11 => ?_) (fun c11 => ?_)
  · refine lv_iload_n hx hb dX8_voices_39 rfl (lv_at hl 1 rfl) ?_
    exact wk_ret hx hb hr hlocks dX8_voices_40 (by rw [hz, show i = qN c 0 by omega]; rfl)
  · refine lv_iload_n hx hb dX8_voices_14 rfl (lv_at hl 1 rfl) ?_
    refine lv_aload_n hx hb dX8_voices_15 rfl (lv_at hl 2 rfl) ?_
    refine lv_aload_n hx hb dX8_voices_16 rfl (lv_at hl 3 rfl) ?_
    refine lv_iload_n hx hb dX8_voices_17 rfl (lv_at hl 0 rfl) ?_
    refine wk_read (va_runV (As := [.ref (a (rP q)), .int (nI i)]) (rest := [.int z]) ⟨hx, hb, hml, hown, hts⟩ (c_X8_speaks l G a c hc i q (by omega)) (cwV 2 hts gX8_voices_X8_speaks rfl rfl rfl hdV_X8_speaks ⟨Nat.le_of_ble_eq_true rfl, Nat.le_of_ble_eq_true rfl⟩) (hR.pre (ci := 8) (q0 := 0) rfl rfl) rfl rfl hl.1 rfl (lv_room (Nat.le_of_ble_eq_true rfl)) dX8_voices_18 ⟨hrc, hrs⟩) ?_
    refine lv_if_eq (tgt := 30) hx hb dX8_voices_21 (by decide) (fun c21 => ?_) (fun c21 => ?_)
    · have c21 := b2i_f c21
      refine lv_iconst (v := 0) hx hb dX8_voices_30 (by decide) ?_
      refine lv_ior hx hb dX8_voices_31 ?_
      refine lv_istore_n (lv' := [(2, .int (z ||| 0)), (3, .int (nI i)), (0, .ref (a 0)), (1, .ref (a (rP q)))]) hx hb dX8_voices_32 rfl hl (by decide) rfl (fun ls hl => ?_)
      refine lv_iinc (v := (nI (i + 1))) (lv' := [(3, .int (nI (i + 1))), (2, .int (z ||| 0)), (0, .ref (a 0)), (1, .ref (a (rP q)))]) hx hb dX8_voices_33 hl (k := 1) rfl (wk_i1 i) (by decide) rfl (fun ls hl => ?_)
      refine lv_goto (tgt := 4) hx hb dX8_voices_36 (by decide) ?_
      exact ih4 (i + 1, (z ||| 0)) (n4 - 1) ls (by omega) (⟨by omega, by rw [hz]; simp [jVoiF, fo_s, c11, c21]⟩) (lv_sub hl [0, 1, 2, 3] rfl)
    · have c21 := b2i_t c21
      refine lv_iconst (v := 1) hx hb dX8_voices_24 (by decide) ?_
      refine lv_iload_n hx hb dX8_voices_25 rfl (lv_at hl 0 rfl) ?_
      refine lv_ishl hx hb dX8_voices_26 ?_
      show W _ _ _ _ _ _ _ _ _ _ _ _ _ _ _ (F0 _ _ _ (.int (sh1 (nI i)) :: _))
      refine lv_goto (tgt := 31) hx hb dX8_voices_27 (by decide) ?_
      refine lv_ior hx hb dX8_voices_31 ?_
      refine lv_istore_n (lv' := [(2, .int (z ||| (sh1 (nI i)))), (3, .int (nI i)), (0, .ref (a 0)), (1, .ref (a (rP q)))]) hx hb dX8_voices_32 rfl hl (by decide) rfl (fun ls hl => ?_)
      refine lv_iinc (v := (nI (i + 1))) (lv' := [(3, .int (nI (i + 1))), (2, .int (z ||| (sh1 (nI i)))), (0, .ref (a 0)), (1, .ref (a (rP q)))]) hx hb dX8_voices_33 hl (k := 1) rfl (wk_i1 i) (by decide) rfl (fun ls hl => ?_)
      refine lv_goto (tgt := 4) hx hb dX8_voices_36 (by decide) ?_
      exact ih4 (i + 1, (z ||| (sh1 (nI i)))) (n4 - 1) ls (by omega) (⟨by omega, by rw [hz]; simp [jVoiF, fo_s, c11, c21]⟩) (lv_sub hl [0, 1, 2, 3] rfl)
theorem hdV_X8_saysYes : yX8_saysYes.cls = RX8 ∧ yX8_saysYes.cls ≠ "java/lang/invoke/MethodHandle" ∧ yX8_saysYes.cls ≠ "java/lang/invoke/VarHandle" ∧ (parseMethodDescriptor yX8_saysYes.desc).map (fun d => d.parameters.length) = some 2 := by decide +kernel
set_option maxHeartbeats 600000 in
set_option maxRecDepth 100000 in
theorem c_X8_saysYes (l : Launch) (G : GG) (a : Nat → Nat) (c : JX) (hc : OkJ c) (b : Int32) (q : Bool) : Met l yX8_saysYes wsX8_saysYes ({ frames := 0, cells := 0, slots := 0, locals := 0 }) (va_Pc [.ref (a 0), .ref (a (rP q)), .int b] (fun U => PreW G (WM G a c) U U.heap)) (QcRead (jYes (qN c 0) (qBi c) (rF c q) b)) 0 0 (fun _ => False) := by
  refine Met.ofW (cc := cX8_saysYes) (maxL := 5) (ret := (some .int)) (by decide) rfl ?_
  intro p e s m args below meth cd s₁ BB hml hv
  obtain ⟨rfl, hR⟩ := hv
  have hx := BB.exec
  have hb := BB.bytes
  have hr := BB.returns
  have hts := atoms_spec (ws := wsX8_saysYes) BB.pre
  have hown : s.vm.findClass RX8 = some m.cls := findClass_of_methodNamed BB.named
  have hlocks := BB.notSynchronized
  have hrc : 0 + 0 ≤ (headSpec wsX8_saysYes ({ frames := 0, cells := 0, slots := 0, locals := 0 })).room.cells := Nat.le_refl _
  have hrs : 0 + 0 ≤ (headSpec wsX8_saysYes ({ frames := 0, cells := 0, slots := 0, locals := 0 })).room.slots := Nat.le_refl _
  have hP := hR.1
  have hK := hR.2.1
  have hN := hR.2.2
  obtain ⟨hk7, ho1, ho5, hl200, hr6, hu10⟩ := id hc
  have hin8 : ∀ w ∈ u_ws RX8 TX8 24, w ∈ wsX8_saysYes := by decide +kernel
  have hf13 := hts (.fieldLink RX8 13 "RegaliaVotesModel" "many" "[I") (by decide +kernel)
  have hf22 := hts (.fieldLink RX8 22 "RegaliaVotesModel" "bills" "[I") (by decide +kernel)
  refine wk_enter (n := 5) (Nat.le_of_ble_eq_true rfl) (fun ls hl => ?_)
  have hl : lv_has ls 5 [(0, .ref (a 0)), (1, .ref (a (rP q))), (2, .int b)] := hl
  refine lv_iconst (v := 0) hx hb dX8_saysYes_0 (by decide) ?_
  refine lv_istore_n (lv' := [(3, .int 0), (0, .ref (a 0)), (1, .ref (a (rP q))), (2, .int b)]) hx hb dX8_saysYes_1 rfl hl (by decide) rfl (fun ls hl => ?_)
  refine lv_iconst (v := 0) hx hb dX8_saysYes_2 (by decide) ?_
  refine lv_istore (lv' := [(4, .int 0), (3, .int 0), (0, .ref (a 0)), (1, .ref (a (rP q))), (2, .int b)]) hx hb dX8_saysYes_3 hl (by decide) rfl (fun ls hl => ?_)
  refine wk_loop (σ := Nat × Int32) (nL := 5) (fun xσ n => match xσ with | (i, z) => i + n = qN c 0 ∧ z = jYesF (qBi c) (rF c q) b i) (fun xσ => match xσ with | (i, z) => [(4, .int (nI i)), (3, .int z), (0, .ref (a 0)), (1, .ref (a (rP q))), (2, .int b)]) (0, 0) (qN c 0) (⟨by omega, rfl⟩) hl ?_
  rintro n5 ⟨i, z⟩ ls hI5 hl ih5
  have hl : lv_has ls 5 [(4, .int (nI i)), (3, .int z), (0, .ref (a 0)), (1, .ref (a (rP q))), (2, .int b)] := hl
  obtain ⟨hi, hz⟩ := hI5
  refine lv_iload hx hb dX8_saysYes_5 (lv_at hl 0 rfl) ?_
  refine lv_aload_n hx hb dX8_saysYes_7 rfl (lv_at hl 2 rfl) ?_
  refine va_get (D := G.1) (v := .ref (a 1)) hx hb hts hin8 hown hK hP 0 rfl rfl 9 (by decide) hf13 (fun _ h => h) rfl dX8_saysYes_8 ?_
  refine lv_iconst (v := 0) hx hb dX8_saysYes_11 (by decide) ?_
  refine wk_iald (i := 0) hx hb hK hP 1 1 rfl rfl (by omega) (Nat.le_of_ble_eq_true rfl) dX8_saysYes_12 ?_
  refine wk_ge (x := i) (y := (qN c 0)) (tgt := 56) hx hb (by omega) (by omega) dX8_saysYes_13 (by decide) (fun c13 => ?_) (fun c13 => ?_)
  · refine lv_iload_n hx hb dX8_saysYes_56 rfl (lv_at hl 1 rfl) ?_
    exact wk_ret hx hb hr hlocks dX8_saysYes_57 (by rw [hz, show i = qN c 0 by omega]; rfl)
  · refine lv_iload_n hx hb dX8_saysYes_16 rfl (lv_at hl 1 rfl) ?_
    refine lv_aload_n hx hb dX8_saysYes_17 rfl (lv_at hl 2 rfl) ?_
    refine va_get (D := G.1) (v := .ref (a 4)) hx hb hts hin8 hown hK hP 0 rfl rfl 12 (by decide) hf22 (fun _ h => h) rfl dX8_saysYes_18 ?_
    refine lv_iload hx hb dX8_saysYes_21 (lv_at hl 0 rfl) ?_
    refine wk_iald (i := i) hx hb hK hP 4 1 rfl rfl (by omega) (Nat.le_of_ble_eq_true rfl) dX8_saysYes_23 ?_
    refine lv_iload_n hx hb dX8_saysYes_24 rfl (lv_at hl 4 rfl) ?_
    refine lv_ishr hx hb dX8_saysYes_25 ?_
    refine lv_aload_n hx hb dX8_saysYes_26 rfl (lv_at hl 3 rfl) ?_
    refine lv_bipush (v := 15) hx hb dX8_saysYes_27 (by decide) ?_
    refine wk_iald (i := 15) hx hb hK hP (rP q) 1 (WM_row G a c q) rfl (by omega) (Nat.le_of_ble_eq_true rfl) dX8_saysYes_29 ?_
    refine lv_iload hx hb dX8_saysYes_30 (lv_at hl 0 rfl) ?_
    refine lv_ishr hx hb dX8_saysYes_32 ?_
    refine lv_ixor hx hb dX8_saysYes_33 ?_
    refine lv_iconst (v := 1) hx hb dX8_saysYes_34 (by decide) ?_
    refine lv_iand hx hb dX8_saysYes_35 ?_
    refine lv_iconst (v := 1) hx hb dX8_saysYes_36 (by decide) ?_
    refine lv_icmp_ne (tgt := 47) hx hb dX8_saysYes_37 (by decide) (fun c37 => ?_) (fun c37 => ?_)
    · refine lv_iconst (v := 0) hx hb dX8_saysYes_47 (by decide) ?_
      refine lv_ior hx hb dX8_saysYes_48 ?_
      refine lv_istore_n (lv' := [(3, .int (z ||| 0)), (4, .int (nI i)), (0, .ref (a 0)), (1, .ref (a (rP q))), (2, .int b)]) hx hb dX8_saysYes_49 rfl hl (by decide) rfl (fun ls hl => ?_)
      refine lv_iinc (v := (nI (i + 1))) (lv' := [(4, .int (nI (i + 1))), (3, .int (z ||| 0)), (0, .ref (a 0)), (1, .ref (a (rP q))), (2, .int b)]) hx hb dX8_saysYes_50 hl (k := 1) rfl (wk_i1 i) (by decide) rfl (fun ls hl => ?_)
      refine lv_goto (tgt := 5) hx hb dX8_saysYes_53 (by decide) ?_
      exact ih5 (i + 1, (z ||| 0)) (n5 - 1) ls (by omega) (⟨by omega, by rw [hz]; simp [jYesF, fo_s, c13, c37]⟩) (lv_sub hl [0, 1, 2, 3, 4] rfl)
    · refine lv_iconst (v := 1) hx hb dX8_saysYes_40 (by decide) ?_
      refine lv_iload hx hb dX8_saysYes_41 (lv_at hl 0 rfl) ?_
      refine lv_ishl hx hb dX8_saysYes_43 ?_
      show W _ _ _ _ _ _ _ _ _ _ _ _ _ _ _ (F0 _ _ _ (.int (sh1 (nI i)) :: _))
      refine lv_goto (tgt := 48) hx hb dX8_saysYes_44 (by decide) ?_
      refine lv_ior hx hb dX8_saysYes_48 ?_
      refine lv_istore_n (lv' := [(3, .int (z ||| (sh1 (nI i)))), (4, .int (nI i)), (0, .ref (a 0)), (1, .ref (a (rP q))), (2, .int b)]) hx hb dX8_saysYes_49 rfl hl (by decide) rfl (fun ls hl => ?_)
      refine lv_iinc (v := (nI (i + 1))) (lv' := [(4, .int (nI (i + 1))), (3, .int (z ||| (sh1 (nI i)))), (0, .ref (a 0)), (1, .ref (a (rP q))), (2, .int b)]) hx hb dX8_saysYes_50 hl (k := 1) rfl (wk_i1 i) (by decide) rfl (fun ls hl => ?_)
      refine lv_goto (tgt := 5) hx hb dX8_saysYes_53 (by decide) ?_
      exact ih5 (i + 1, (z ||| (sh1 (nI i)))) (n5 - 1) ls (by omega) (⟨by omega, by rw [hz]; simp [jYesF, fo_s, c13, c37]⟩) (lv_sub hl [0, 1, 2, 3, 4] rfl)
theorem hdV_X8_votesOf : yX8_votesOf.cls = RX8 ∧ yX8_votesOf.cls ≠ "java/lang/invoke/MethodHandle" ∧ yX8_votesOf.cls ≠ "java/lang/invoke/VarHandle" ∧ (parseMethodDescriptor yX8_votesOf.desc).map (fun d => d.parameters.length) = some 1 := by decide +kernel
set_option maxHeartbeats 600000 in
set_option maxRecDepth 100000 in
theorem c_X8_votesOf (l : Launch) (G : GG) (a : Nat → Nat) (c : JX) (hc : OkJ c) (x : Int32) : Met l yX8_votesOf wsX8_votesOf ({ frames := 0, cells := 0, slots := 0, locals := 0 }) (va_Pc [.ref (a 0), .int x] (fun U => PreW G (WM G a c) U U.heap)) (QcRead (jVot (qN c 0) (qVo c) x)) 0 0 (fun _ => False) := by
  refine Met.ofW (cc := cX8_votesOf) (maxL := 4) (ret := (some .int)) (by decide) rfl ?_
  intro p e s m args below meth cd s₁ BB hml hv
  obtain ⟨rfl, hR⟩ := hv
  have hx := BB.exec
  have hb := BB.bytes
  have hr := BB.returns
  have hts := atoms_spec (ws := wsX8_votesOf) BB.pre
  have hown : s.vm.findClass RX8 = some m.cls := findClass_of_methodNamed BB.named
  have hlocks := BB.notSynchronized
  have hrc : 0 + 0 ≤ (headSpec wsX8_votesOf ({ frames := 0, cells := 0, slots := 0, locals := 0 })).room.cells := Nat.le_refl _
  have hrs : 0 + 0 ≤ (headSpec wsX8_votesOf ({ frames := 0, cells := 0, slots := 0, locals := 0 })).room.slots := Nat.le_refl _
  have hP := hR.1
  have hK := hR.2.1
  have hN := hR.2.2
  obtain ⟨hk7, ho1, ho5, hl200, hr6, hu10⟩ := id hc
  have hin8 : ∀ w ∈ u_ws RX8 TX8 24, w ∈ wsX8_votesOf := by decide +kernel
  have hf13 := hts (.fieldLink RX8 13 "RegaliaVotesModel" "many" "[I") (by decide +kernel)
  have hf19 := hts (.fieldLink RX8 19 "RegaliaVotesModel" "votes" "[I") (by decide +kernel)
  refine wk_enter (n := 4) (Nat.le_of_ble_eq_true rfl) (fun ls hl => ?_)
  have hl : lv_has ls 4 [(0, .ref (a 0)), (1, .int x)] := hl
  refine lv_iconst (v := 0) hx hb dX8_votesOf_0 (by decide) ?_
  refine lv_istore_n (lv' := [(2, .int 0), (0, .ref (a 0)), (1, .int x)]) hx hb dX8_votesOf_1 rfl hl (by decide) rfl (fun ls hl => ?_)
  refine lv_iconst (v := 0) hx hb dX8_votesOf_2 (by decide) ?_
  refine lv_istore_n (lv' := [(3, .int 0), (2, .int 0), (0, .ref (a 0)), (1, .int x)]) hx hb dX8_votesOf_3 rfl hl (by decide) rfl (fun ls hl => ?_)
  refine wk_loop (σ := Nat × Int32) (nL := 4) (fun xσ n => match xσ with | (i, z) => i + n = qN c 0 ∧ z = jVotF (qVo c) x i) (fun xσ => match xσ with | (i, z) => [(3, .int (nI i)), (2, .int z), (0, .ref (a 0)), (1, .int x)]) (0, 0) (qN c 0) (⟨by omega, rfl⟩) hl ?_
  rintro n4 ⟨i, z⟩ ls hI4 hl ih4
  have hl : lv_has ls 4 [(3, .int (nI i)), (2, .int z), (0, .ref (a 0)), (1, .int x)] := hl
  obtain ⟨hi, hz⟩ := hI4
  refine lv_iload_n hx hb dX8_votesOf_4 rfl (lv_at hl 0 rfl) ?_
  refine lv_aload_n hx hb dX8_votesOf_5 rfl (lv_at hl 2 rfl) ?_
  refine va_get (D := G.1) (v := .ref (a 1)) hx hb hts hin8 hown hK hP 0 rfl rfl 9 (by decide) hf13 (fun _ h => h) rfl dX8_votesOf_6 ?_
  refine lv_iconst (v := 0) hx hb dX8_votesOf_9 (by decide) ?_
  refine wk_iald (i := 0) hx hb hK hP 1 1 rfl rfl (by omega) (Nat.le_of_ble_eq_true rfl) dX8_votesOf_10 ?_
  refine wk_ge (x := i) (y := (qN c 0)) (tgt := 42) hx hb (by omega) (by omega) dX8_votesOf_11 (by decide) (fun c11 => ?_) (fun c11 => ?_)
  · refine lv_iload_n hx hb dX8_votesOf_42 rfl (lv_at hl 1 rfl) ?_
    exact wk_ret hx hb hr hlocks dX8_votesOf_43 (by rw [hz, show i = qN c 0 by omega]; rfl)
  · refine lv_iload_n hx hb dX8_votesOf_14 rfl (lv_at hl 1 rfl) ?_
    refine lv_iload_n hx hb dX8_votesOf_15 rfl (lv_at hl 3 rfl) ?_
    refine lv_iload_n hx hb dX8_votesOf_16 rfl (lv_at hl 0 rfl) ?_
    refine lv_ishr hx hb dX8_votesOf_17 ?_
    refine lv_iconst (v := 1) hx hb dX8_votesOf_18 (by decide) ?_
    refine lv_iand hx hb dX8_votesOf_19 ?_
    show W _ _ _ _ _ _ _ _ _ _ _ _ _ _ _ (F0 _ _ _ (.int (bitI x (nI i)) :: _))
    refine lv_iconst (v := 1) hx hb dX8_votesOf_20 (by decide) ?_
    refine lv_icmp_ne (tgt := 33) hx hb dX8_votesOf_21 (by decide) (fun c21 => ?_) (fun c21 => ?_)
    · refine lv_iconst (v := 0) hx hb dX8_votesOf_33 (by decide) ?_
      refine lv_iadd hx hb dX8_votesOf_34 ?_
      refine lv_istore_n (lv' := [(2, .int (z + 0)), (3, .int (nI i)), (0, .ref (a 0)), (1, .int x)]) hx hb dX8_votesOf_35 rfl hl (by decide) rfl (fun ls hl => ?_)
      refine lv_iinc (v := (nI (i + 1))) (lv' := [(3, .int (nI (i + 1))), (2, .int (z + 0)), (0, .ref (a 0)), (1, .int x)]) hx hb dX8_votesOf_36 hl (k := 1) rfl (wk_i1 i) (by decide) rfl (fun ls hl => ?_)
      refine lv_goto (tgt := 4) hx hb dX8_votesOf_39 (by decide) ?_
      exact ih4 (i + 1, (z + 0)) (n4 - 1) ls (by omega) (⟨by omega, by rw [hz]; simp [jVotF, fo_s, c11, c21]⟩) (lv_sub hl [0, 1, 2, 3] rfl)
    · refine lv_aload_n hx hb dX8_votesOf_24 rfl (lv_at hl 2 rfl) ?_
      refine va_get (D := G.1) (v := .ref (a 3)) hx hb hts hin8 hown hK hP 0 rfl rfl 11 (by decide) hf19 (fun _ h => h) rfl dX8_votesOf_25 ?_
      refine lv_iload_n hx hb dX8_votesOf_28 rfl (lv_at hl 0 rfl) ?_
      refine wk_iald (i := i) hx hb hK hP 3 1 rfl rfl (by omega) (Nat.le_of_ble_eq_true rfl) dX8_votesOf_29 ?_
      refine lv_goto (tgt := 34) hx hb dX8_votesOf_30 (by decide) ?_
      refine lv_iadd hx hb dX8_votesOf_34 ?_
      refine lv_istore_n (lv' := [(2, .int (z + (qVo c i))), (3, .int (nI i)), (0, .ref (a 0)), (1, .int x)]) hx hb dX8_votesOf_35 rfl hl (by decide) rfl (fun ls hl => ?_)
      refine lv_iinc (v := (nI (i + 1))) (lv' := [(3, .int (nI (i + 1))), (2, .int (z + (qVo c i))), (0, .ref (a 0)), (1, .int x)]) hx hb dX8_votesOf_36 hl (k := 1) rfl (wk_i1 i) (by decide) rfl (fun ls hl => ?_)
      refine lv_goto (tgt := 4) hx hb dX8_votesOf_39 (by decide) ?_
      exact ih4 (i + 1, (z + (qVo c i))) (n4 - 1) ls (by omega) (⟨by omega, by rw [hz]; simp [jVotF, fo_s, c11, c21]⟩) (lv_sub hl [0, 1, 2, 3] rfl)
theorem hdV_X8_passesBy : yX8_passesBy.cls = RX8 ∧ yX8_passesBy.cls ≠ "java/lang/invoke/MethodHandle" ∧ yX8_passesBy.cls ≠ "java/lang/invoke/VarHandle" ∧ (parseMethodDescriptor yX8_passesBy.desc).map (fun d => d.parameters.length) = some 2 := by decide +kernel
set_option maxHeartbeats 600000 in
set_option maxRecDepth 100000 in
theorem c_X8_passesBy (l : Launch) (G : GG) (a : Nat → Nat) (c : JX) (hc : OkJ c) (x : Int32) (y : Int32) : Met l yX8_passesBy wsX8_passesBy ({ frames := 1, cells := 0, slots := 0, locals := 23 }) (va_Pc [.ref (a 0), .int x, .int y] (fun U => PreW G (WM G a c) U U.heap)) (QcRead (b2i (jPBy (qN c 0) (qVo c) x y))) 0 0 (fun _ => False) := by
  refine Met.ofW (cc := cX8_passesBy) (maxL := 3) (ret := (some .boolean)) (by decide) rfl ?_
  intro p e s m args below meth cd s₁ BB hml hv
  obtain ⟨rfl, hR⟩ := hv
  have hx := BB.exec
  have hb := BB.bytes
  have hr := BB.returns
  have hts := atoms_spec (ws := wsX8_passesBy) BB.pre
  have hown : s.vm.findClass RX8 = some m.cls := findClass_of_methodNamed BB.named
  have hlocks := BB.notSynchronized
  have hrc : 0 + 0 ≤ (headSpec wsX8_passesBy ({ frames := 1, cells := 0, slots := 0, locals := 23 })).room.cells := Nat.le_refl _
  have hrs : 0 + 0 ≤ (headSpec wsX8_passesBy ({ frames := 1, cells := 0, slots := 0, locals := 23 })).room.slots := Nat.le_refl _
  have hP := hR.1
  have hK := hR.2.1
  have hN := hR.2.2
  obtain ⟨hk7, ho1, ho5, hl200, hr6, hu10⟩ := id hc
  refine wk_enter (n := 3) (Nat.le_of_ble_eq_true rfl) (fun ls hl => ?_)
  have hl : lv_has ls 3 [(0, .ref (a 0)), (1, .int x), (2, .int y)] := hl
  refine lv_aload_n hx hb dX8_passesBy_0 rfl (lv_at hl 0 rfl) ?_
  refine lv_iload_n hx hb dX8_passesBy_1 rfl (lv_at hl 1 rfl) ?_
  refine lv_iload_n hx hb dX8_passesBy_2 rfl (lv_at hl 2 rfl) ?_
  refine lv_iand hx hb dX8_passesBy_3 ?_
  refine wk_read (va_runV (As := [.int (x &&& y)]) (rest := []) ⟨hx, hb, hml, hown, hts⟩ (c_X8_votesOf l G a c hc (x &&& y)) (cwV 1 hts gX8_passesBy_X8_votesOf rfl rfl rfl hdV_X8_votesOf ⟨Nat.le_of_ble_eq_true rfl, Nat.le_of_ble_eq_true rfl⟩) (hR.pre (ci := 8) (q0 := 0) rfl rfl) rfl rfl hl.1 rfl (lv_room (Nat.le_of_ble_eq_true rfl)) dX8_passesBy_4 ⟨hrc, hrs⟩) ?_
  refine lv_aload_n hx hb dX8_passesBy_7 rfl (lv_at hl 0 rfl) ?_
  refine lv_iload_n hx hb dX8_passesBy_8 rfl (lv_at hl 1 rfl) ?_
  refine lv_iload_n hx hb dX8_passesBy_9 rfl (lv_at hl 2 rfl) ?_
  refine lv_iconst (v := -1) hx hb dX8_passesBy_10 (by decide) ?_
  refine lv_ixor hx hb dX8_passesBy_11 ?_
  show W _ _ _ _ _ _ _ _ _ _ _ _ _ _ _ (F0 _ _ _ (.int (iv y) :: _))
  refine lv_iand hx hb dX8_passesBy_12 ?_
  refine wk_read (va_runV (As := [.int (x &&& (iv y))]) (rest := [.int (jVot (qN c 0) (qVo c) (x &&& y))]) ⟨hx, hb, hml, hown, hts⟩ (c_X8_votesOf l G a c hc (x &&& (iv y))) (cwV 1 hts gX8_passesBy_X8_votesOf rfl rfl rfl hdV_X8_votesOf ⟨Nat.le_of_ble_eq_true rfl, Nat.le_of_ble_eq_true rfl⟩) (hR.pre (ci := 8) (q0 := 0) rfl rfl) rfl rfl hl.1 rfl (lv_room (Nat.le_of_ble_eq_true rfl)) dX8_passesBy_13 ⟨hrc, hrs⟩) ?_
  refine lv_icmp_le (tgt := 23) hx hb dX8_passesBy_16 (by decide) (fun c16 => ?_) (fun c16 => ?_)
  · refine lv_iconst (v := 0) hx hb dX8_passesBy_23 (by decide) ?_
    exact wk_zret hx hb hr hlocks dX8_passesBy_24 (by rfl) (by simp [b2i, jPBy, c16])
  · refine lv_iconst (v := 1) hx hb dX8_passesBy_19 (by decide) ?_
    refine lv_goto (tgt := 24) hx hb dX8_passesBy_20 (by decide) ?_
    exact wk_zret hx hb hr hlocks dX8_passesBy_24 (by rfl) (by simp [b2i, jPBy, c16])
theorem hdV_X8_passes : yX8_passes.cls = RX8 ∧ yX8_passes.cls ≠ "java/lang/invoke/MethodHandle" ∧ yX8_passes.cls ≠ "java/lang/invoke/VarHandle" ∧ (parseMethodDescriptor yX8_passes.desc).map (fun d => d.parameters.length) = some 2 := by decide +kernel
set_option maxHeartbeats 600000 in
set_option maxRecDepth 100000 in
theorem c_X8_passes (l : Launch) (G : GG) (a : Nat → Nat) (c : JX) (hc : OkJ c) (b : Int32) (q : Bool) : Met l yX8_passes wsX8_passes ({ frames := 2, cells := 0, slots := 0, locals := 46 }) (va_Pc [.ref (a 0), .ref (a (rP q)), .int b] (fun U => PreW G (WM G a c) U U.heap)) (QcRead (b2i (jPas (qN c 0) (qSo c) (qVo c) (qBi c) (rF c q) b))) 0 0 (fun _ => False) := by
  refine Met.ofW (cc := cX8_passes) (maxL := 3) (ret := (some .boolean)) (by decide) rfl ?_
  intro p e s m args below meth cd s₁ BB hml hv
  obtain ⟨rfl, hR⟩ := hv
  have hx := BB.exec
  have hb := BB.bytes
  have hr := BB.returns
  have hts := atoms_spec (ws := wsX8_passes) BB.pre
  have hown : s.vm.findClass RX8 = some m.cls := findClass_of_methodNamed BB.named
  have hlocks := BB.notSynchronized
  have hrc : 0 + 0 ≤ (headSpec wsX8_passes ({ frames := 2, cells := 0, slots := 0, locals := 46 })).room.cells := Nat.le_refl _
  have hrs : 0 + 0 ≤ (headSpec wsX8_passes ({ frames := 2, cells := 0, slots := 0, locals := 46 })).room.slots := Nat.le_refl _
  have hP := hR.1
  have hK := hR.2.1
  have hN := hR.2.2
  obtain ⟨hk7, ho1, ho5, hl200, hr6, hu10⟩ := id hc
  refine wk_enter (n := 3) (Nat.le_of_ble_eq_true rfl) (fun ls hl => ?_)
  have hl : lv_has ls 3 [(0, .ref (a 0)), (1, .ref (a (rP q))), (2, .int b)] := hl
  refine lv_aload_n hx hb dX8_passes_0 rfl (lv_at hl 0 rfl) ?_
  refine lv_aload_n hx hb dX8_passes_1 rfl (lv_at hl 0 rfl) ?_
  refine lv_aload_n hx hb dX8_passes_2 rfl (lv_at hl 1 rfl) ?_
  refine wk_read (va_runV (As := [.ref (a (rP q))]) (rest := [.ref (a 0)]) ⟨hx, hb, hml, hown, hts⟩ (c_X8_voices l G a c hc  q) (cwV 1 hts gX8_passes_X8_voices rfl rfl rfl hdV_X8_voices ⟨Nat.le_of_ble_eq_true rfl, Nat.le_of_ble_eq_true rfl⟩) (hR.pre (ci := 8) (q0 := 0) rfl rfl) rfl rfl hl.1 rfl (lv_room (Nat.le_of_ble_eq_true rfl)) dX8_passes_3 ⟨hrc, hrs⟩) ?_
  refine lv_aload_n hx hb dX8_passes_6 rfl (lv_at hl 0 rfl) ?_
  refine lv_aload_n hx hb dX8_passes_7 rfl (lv_at hl 1 rfl) ?_
  refine lv_iload_n hx hb dX8_passes_8 rfl (lv_at hl 2 rfl) ?_
  refine wk_read (va_runV (As := [.ref (a (rP q)), .int b]) (rest := [.int (jVoi (qN c 0) (qSo c) (rF c q)), .ref (a 0)]) ⟨hx, hb, hml, hown, hts⟩ (c_X8_saysYes l G a c hc b q) (cwV 2 hts gX8_passes_X8_saysYes rfl rfl rfl hdV_X8_saysYes ⟨Nat.le_of_ble_eq_true rfl, Nat.le_of_ble_eq_true rfl⟩) (hR.pre (ci := 8) (q0 := 0) rfl rfl) rfl rfl hl.1 rfl (lv_room (Nat.le_of_ble_eq_true rfl)) dX8_passes_9 ⟨hrc, hrs⟩) ?_
  refine wk_read (va_runV (As := [.int (jVoi (qN c 0) (qSo c) (rF c q)), .int (jYes (qN c 0) (qBi c) (rF c q) b)]) (rest := []) ⟨hx, hb, hml, hown, hts⟩ (c_X8_passesBy l G a c hc (jVoi (qN c 0) (qSo c) (rF c q)) (jYes (qN c 0) (qBi c) (rF c q) b)) (cwV 2 hts gX8_passes_X8_passesBy rfl rfl rfl hdV_X8_passesBy ⟨Nat.le_of_ble_eq_true rfl, Nat.le_of_ble_eq_true rfl⟩) (hR.pre (ci := 8) (q0 := 0) rfl rfl) rfl rfl hl.1 rfl (lv_room (Nat.le_of_ble_eq_true rfl)) dX8_passes_12 ⟨hrc, hrs⟩) ?_
  exact wk_zret hx hb hr hlocks dX8_passes_15 (b2i_nar _) (rfl)
theorem hdV_X8_heldBy : yX8_heldBy.cls = RX8 ∧ yX8_heldBy.cls ≠ "java/lang/invoke/MethodHandle" ∧ yX8_heldBy.cls ≠ "java/lang/invoke/VarHandle" ∧ (parseMethodDescriptor yX8_heldBy.desc).map (fun d => d.parameters.length) = some 1 := by decide +kernel
set_option maxHeartbeats 600000 in
set_option maxRecDepth 100000 in
theorem c_X8_heldBy (l : Launch) (G : GG) (a : Nat → Nat) (c : JX) (hc : OkJ c) (o : Int32) : Met l yX8_heldBy wsX8_heldBy ({ frames := 0, cells := 0, slots := 0, locals := 0 }) (va_Pc [.ref (a 0), .int o] (fun U => PreW G (WM G a c) U U.heap)) (QcRead (jHel (qN c 0) (qS c) o)) 0 0 (fun _ => False) := by
  refine Met.ofW (cc := cX8_heldBy) (maxL := 4) (ret := (some .int)) (by decide) rfl ?_
  intro p e s m args below meth cd s₁ BB hml hv
  obtain ⟨rfl, hR⟩ := hv
  have hx := BB.exec
  have hb := BB.bytes
  have hr := BB.returns
  have hts := atoms_spec (ws := wsX8_heldBy) BB.pre
  have hown : s.vm.findClass RX8 = some m.cls := findClass_of_methodNamed BB.named
  have hlocks := BB.notSynchronized
  have hrc : 0 + 0 ≤ (headSpec wsX8_heldBy ({ frames := 0, cells := 0, slots := 0, locals := 0 })).room.cells := Nat.le_refl _
  have hrs : 0 + 0 ≤ (headSpec wsX8_heldBy ({ frames := 0, cells := 0, slots := 0, locals := 0 })).room.slots := Nat.le_refl _
  have hP := hR.1
  have hK := hR.2.1
  have hN := hR.2.2
  obtain ⟨hk7, ho1, ho5, hl200, hr6, hu10⟩ := id hc
  have hin8 : ∀ w ∈ u_ws RX8 TX8 24, w ∈ wsX8_heldBy := by decide +kernel
  have hf13 := hts (.fieldLink RX8 13 "RegaliaVotesModel" "many" "[I") (by decide +kernel)
  have hf28 := hts (.fieldLink RX8 28 "RegaliaVotesModel" "s" "[I") (by decide +kernel)
  refine wk_enter (n := 4) (Nat.le_of_ble_eq_true rfl) (fun ls hl => ?_)
  have hl : lv_has ls 4 [(0, .ref (a 0)), (1, .int o)] := hl
  refine lv_iconst (v := 0) hx hb dX8_heldBy_0 (by decide) ?_
  refine lv_istore_n (lv' := [(2, .int 0), (0, .ref (a 0)), (1, .int o)]) hx hb dX8_heldBy_1 rfl hl (by decide) rfl (fun ls hl => ?_)
  refine lv_iconst (v := 0) hx hb dX8_heldBy_2 (by decide) ?_
  refine lv_istore_n (lv' := [(3, .int 0), (2, .int 0), (0, .ref (a 0)), (1, .int o)]) hx hb dX8_heldBy_3 rfl hl (by decide) rfl (fun ls hl => ?_)
  refine wk_loop (σ := Nat × Int32) (nL := 4) (fun xσ n => match xσ with | (i, z) => i + n = qN c 0 ∧ z = jHelF (qS c) o i) (fun xσ => match xσ with | (i, z) => [(3, .int (nI i)), (2, .int z), (0, .ref (a 0)), (1, .int o)]) (0, 0) (qN c 0) (⟨by omega, rfl⟩) hl ?_
  rintro n4 ⟨i, z⟩ ls hI4 hl ih4
  have hl : lv_has ls 4 [(3, .int (nI i)), (2, .int z), (0, .ref (a 0)), (1, .int o)] := hl
  obtain ⟨hi, hz⟩ := hI4
  refine lv_iload_n hx hb dX8_heldBy_4 rfl (lv_at hl 0 rfl) ?_
  refine lv_aload_n hx hb dX8_heldBy_5 rfl (lv_at hl 2 rfl) ?_
  refine va_get (D := G.1) (v := .ref (a 1)) hx hb hts hin8 hown hK hP 0 rfl rfl 9 (by decide) hf13 (fun _ h => h) rfl dX8_heldBy_6 ?_
  refine lv_iconst (v := 0) hx hb dX8_heldBy_9 (by decide) ?_
  refine wk_iald (i := 0) hx hb hK hP 1 1 rfl rfl (by omega) (Nat.le_of_ble_eq_true rfl) dX8_heldBy_10 ?_
  refine wk_ge (x := i) (y := (qN c 0)) (tgt := 42) hx hb (by omega) (by omega) dX8_heldBy_11 (by decide) (fun c11 => ?_) (fun c11 => ?_)
  · refine lv_iload_n hx hb dX8_heldBy_42 rfl (lv_at hl 1 rfl) ?_
    exact wk_ret hx hb hr hlocks dX8_heldBy_43 (by rw [hz, show i = qN c 0 by omega]; rfl)
  · refine lv_iload_n hx hb dX8_heldBy_14 rfl (lv_at hl 1 rfl) ?_
    refine lv_aload_n hx hb dX8_heldBy_15 rfl (lv_at hl 2 rfl) ?_
    refine va_get (D := G.1) (v := .ref (a 5)) hx hb hts hin8 hown hK hP 0 rfl rfl 15 (by decide) hf28 (fun _ h => h) rfl dX8_heldBy_16 ?_
    refine lv_iconst (v := 0) hx hb dX8_heldBy_19 (by decide) ?_
    refine lv_iload_n hx hb dX8_heldBy_20 rfl (lv_at hl 0 rfl) ?_
    refine wk_add0 (x := i) hx hb dX8_heldBy_21 ?_
    refine wk_iald (i := i) hx hb hK hP 5 1 rfl rfl (by omega) (Nat.le_of_ble_eq_true rfl) dX8_heldBy_22 ?_
    refine lv_iload_n hx hb dX8_heldBy_23 rfl (lv_at hl 3 rfl) ?_
    refine lv_icmp_ne (tgt := 33) hx hb dX8_heldBy_24 (by decide) (fun c24 => ?_) (fun c24 => ?_)
    · refine lv_iconst (v := 0) hx hb dX8_heldBy_33 (by decide) ?_
      refine lv_ior hx hb dX8_heldBy_34 ?_
      refine lv_istore_n (lv' := [(2, .int (z ||| 0)), (3, .int (nI i)), (0, .ref (a 0)), (1, .int o)]) hx hb dX8_heldBy_35 rfl hl (by decide) rfl (fun ls hl => ?_)
      refine lv_iinc (v := (nI (i + 1))) (lv' := [(3, .int (nI (i + 1))), (2, .int (z ||| 0)), (0, .ref (a 0)), (1, .int o)]) hx hb dX8_heldBy_36 hl (k := 1) rfl (wk_i1 i) (by decide) rfl (fun ls hl => ?_)
      refine lv_goto (tgt := 4) hx hb dX8_heldBy_39 (by decide) ?_
      exact ih4 (i + 1, (z ||| 0)) (n4 - 1) ls (by omega) (⟨by omega, by rw [hz]; simp [jHelF, fo_s, c11, c24]⟩) (lv_sub hl [0, 1, 2, 3] rfl)
    · refine lv_iconst (v := 1) hx hb dX8_heldBy_27 (by decide) ?_
      refine lv_iload_n hx hb dX8_heldBy_28 rfl (lv_at hl 0 rfl) ?_
      refine lv_ishl hx hb dX8_heldBy_29 ?_
      show W _ _ _ _ _ _ _ _ _ _ _ _ _ _ _ (F0 _ _ _ (.int (sh1 (nI i)) :: _))
      refine lv_goto (tgt := 34) hx hb dX8_heldBy_30 (by decide) ?_
      refine lv_ior hx hb dX8_heldBy_34 ?_
      refine lv_istore_n (lv' := [(2, .int (z ||| (sh1 (nI i)))), (3, .int (nI i)), (0, .ref (a 0)), (1, .int o)]) hx hb dX8_heldBy_35 rfl hl (by decide) rfl (fun ls hl => ?_)
      refine lv_iinc (v := (nI (i + 1))) (lv' := [(3, .int (nI (i + 1))), (2, .int (z ||| (sh1 (nI i)))), (0, .ref (a 0)), (1, .int o)]) hx hb dX8_heldBy_36 hl (k := 1) rfl (wk_i1 i) (by decide) rfl (fun ls hl => ?_)
      refine lv_goto (tgt := 4) hx hb dX8_heldBy_39 (by decide) ?_
      exact ih4 (i + 1, (z ||| (sh1 (nI i)))) (n4 - 1) ls (by omega) (⟨by omega, by rw [hz]; simp [jHelF, fo_s, c11, c24]⟩) (lv_sub hl [0, 1, 2, 3] rfl)
theorem hdV_X8_most : yX8_most.cls = RX8 ∧ yX8_most.cls ≠ "java/lang/invoke/MethodHandle" ∧ yX8_most.cls ≠ "java/lang/invoke/VarHandle" ∧ (parseMethodDescriptor yX8_most.desc).map (fun d => d.parameters.length) = some 0 := by decide +kernel
set_option maxHeartbeats 600000 in
set_option maxRecDepth 100000 in
theorem c_X8_most (l : Launch) (G : GG) (a : Nat → Nat) (c : JX) (hc : OkJ c) : Met l yX8_most wsX8_most ({ frames := 2, cells := 0, slots := 0, locals := 46 }) (va_Pc [.ref (a 0)] (fun U => PreW G (WM G a c) U U.heap)) (QcRead (jMos (qN c 0) (qN c 1) (qSo c) (qVo c) (qS c))) 0 0 (fun _ => False) := by
  refine Met.ofW (cc := cX8_most) (maxL := 3) (ret := (some .int)) (by decide) rfl ?_
  intro p e s m args below meth cd s₁ BB hml hv
  obtain ⟨rfl, hR⟩ := hv
  have hx := BB.exec
  have hb := BB.bytes
  have hr := BB.returns
  have hts := atoms_spec (ws := wsX8_most) BB.pre
  have hown : s.vm.findClass RX8 = some m.cls := findClass_of_methodNamed BB.named
  have hlocks := BB.notSynchronized
  have hrc : 0 + 0 ≤ (headSpec wsX8_most ({ frames := 2, cells := 0, slots := 0, locals := 46 })).room.cells := Nat.le_refl _
  have hrs : 0 + 0 ≤ (headSpec wsX8_most ({ frames := 2, cells := 0, slots := 0, locals := 46 })).room.slots := Nat.le_refl _
  have hP := hR.1
  have hK := hR.2.1
  have hN := hR.2.2
  obtain ⟨hk7, ho1, ho5, hl200, hr6, hu10⟩ := id hc
  have hin8 : ∀ w ∈ u_ws RX8 TX8 24, w ∈ wsX8_most := by decide +kernel
  have hf13 := hts (.fieldLink RX8 13 "RegaliaVotesModel" "many" "[I") (by decide +kernel)
  have hf28 := hts (.fieldLink RX8 28 "RegaliaVotesModel" "s" "[I") (by decide +kernel)
  refine wk_enter (n := 3) (Nat.le_of_ble_eq_true rfl) (fun ls hl => ?_)
  have hl : lv_has ls 3 [(0, .ref (a 0))] := hl
  refine lv_iconst (v := 0) hx hb dX8_most_0 (by decide) ?_
  refine lv_istore_n (lv' := [(1, .int 0), (0, .ref (a 0))]) hx hb dX8_most_1 rfl hl (by decide) rfl (fun ls hl => ?_)
  refine lv_iconst (v := 1) hx hb dX8_most_2 (by decide) ?_
  refine lv_istore_n (lv' := [(2, .int 1), (1, .int 0), (0, .ref (a 0))]) hx hb dX8_most_3 rfl hl (by decide) rfl (fun ls hl => ?_)
  refine wk_loop (σ := Nat × Int32) (nL := 3) (fun xσ n => match xσ with | (i, z) => i + n = qN c 1 - 1 ∧ z = jMosF (qN c 0) (qSo c) (qVo c) (qS c) i) (fun xσ => match xσ with | (i, z) => [(2, .int (nI (i + 1))), (1, .int z), (0, .ref (a 0))]) (0, 0) (qN c 1 - 1) (⟨by omega, rfl⟩) hl ?_
  rintro n4 ⟨i, z⟩ ls hI4 hl ih4
  have hl : lv_has ls 3 [(2, .int (nI (i + 1))), (1, .int z), (0, .ref (a 0))] := hl
  obtain ⟨hi, hz⟩ := hI4
  refine lv_iload_n hx hb dX8_most_4 rfl (lv_at hl 0 rfl) ?_
  refine lv_aload_n hx hb dX8_most_5 rfl (lv_at hl 2 rfl) ?_
  refine va_get (D := G.1) (v := .ref (a 1)) hx hb hts hin8 hown hK hP 0 rfl rfl 9 (by decide) hf13 (fun _ h => h) rfl dX8_most_6 ?_
  refine lv_iconst (v := 1) hx hb dX8_most_9 (by decide) ?_
  refine wk_iald (i := 1) hx hb hK hP 1 1 rfl rfl (by omega) (Nat.le_of_ble_eq_true rfl) dX8_most_10 ?_
  refine wk_ge (x := (i + 1)) (y := (qN c 1)) (tgt := 65) hx hb (by omega) (by omega) dX8_most_11 (by decide) (fun c11 => ?_) (fun c11 => ?_)
  · refine lv_iload_n hx hb dX8_most_65 rfl (lv_at hl 1 rfl) ?_
    exact wk_ret hx hb hr hlocks dX8_most_66 (by rw [hz, show i = qN c 1 - 1 by omega]; rfl)
  · refine lv_aload_n hx hb dX8_most_14 rfl (lv_at hl 2 rfl) ?_
    refine lv_aload_n hx hb dX8_most_15 rfl (lv_at hl 2 rfl) ?_
    refine lv_iload_n hx hb dX8_most_16 rfl (lv_at hl 0 rfl) ?_
    refine wk_read (va_runV (As := [.int (nI (i + 1))]) (rest := [.ref (a 0)]) ⟨hx, hb, hml, hown, hts⟩ (c_X8_heldBy l G a c hc (nI (i + 1))) (cwV 1 hts gX8_most_X8_heldBy rfl rfl rfl hdV_X8_heldBy ⟨Nat.le_of_ble_eq_true rfl, Nat.le_of_ble_eq_true rfl⟩) (hR.pre (ci := 8) (q0 := 0) rfl rfl) rfl rfl hl.1 rfl (lv_room (Nat.le_of_ble_eq_true rfl)) dX8_most_17 ⟨hrc, hrs⟩) ?_
    refine lv_aload_n hx hb dX8_most_20 rfl (lv_at hl 2 rfl) ?_
    refine lv_aload_n hx hb dX8_most_21 rfl (lv_at hl 2 rfl) ?_
    refine va_get (D := G.1) (v := .ref (a 5)) hx hb hts hin8 hown hK hP 0 rfl rfl 15 (by decide) hf28 (fun _ h => h) rfl dX8_most_22 ?_
    refine wk_read (va_runV (As := [.ref (a 5)]) (rest := [.int (jHel (qN c 0) (qS c) (nI (i + 1))), .ref (a 0)]) ⟨hx, hb, hml, hown, hts⟩ (c_X8_voices l G a c hc  false) (cwV 1 hts gX8_most_X8_voices rfl rfl rfl hdV_X8_voices ⟨Nat.le_of_ble_eq_true rfl, Nat.le_of_ble_eq_true rfl⟩) (hR.pre (ci := 8) (q0 := 0) rfl rfl) rfl rfl hl.1 rfl (lv_room (Nat.le_of_ble_eq_true rfl)) dX8_most_25 ⟨hrc, hrs⟩) ?_
    refine lv_iand hx hb dX8_most_28 ?_
    refine wk_read (va_runV (As := [.int ((jHel (qN c 0) (qS c) (nI (i + 1))) &&& (jVoi (qN c 0) (qSo c) (qS c)))]) (rest := []) ⟨hx, hb, hml, hown, hts⟩ (c_X8_votesOf l G a c hc ((jHel (qN c 0) (qS c) (nI (i + 1))) &&& (jVoi (qN c 0) (qSo c) (qS c)))) (cwV 1 hts gX8_most_X8_votesOf rfl rfl rfl hdV_X8_votesOf ⟨Nat.le_of_ble_eq_true rfl, Nat.le_of_ble_eq_true rfl⟩) (hR.pre (ci := 8) (q0 := 0) rfl rfl) rfl rfl hl.1 rfl (lv_room (Nat.le_of_ble_eq_true rfl)) dX8_most_29 ⟨hrc, hrs⟩) ?_
    refine lv_aload_n hx hb dX8_most_32 rfl (lv_at hl 2 rfl) ?_
    refine lv_aload_n hx hb dX8_most_33 rfl (lv_at hl 2 rfl) ?_
    refine lv_iload_n hx hb dX8_most_34 rfl (lv_at hl 1 rfl) ?_
    refine wk_read (va_runV (As := [.int z]) (rest := [.ref (a 0), .int (jVot (qN c 0) (qVo c) ((jHel (qN c 0) (qS c) (nI (i + 1))) &&& (jVoi (qN c 0) (qSo c) (qS c))))]) ⟨hx, hb, hml, hown, hts⟩ (c_X8_heldBy l G a c hc z) (cwV 1 hts gX8_most_X8_heldBy rfl rfl rfl hdV_X8_heldBy ⟨Nat.le_of_ble_eq_true rfl, Nat.le_of_ble_eq_true rfl⟩) (hR.pre (ci := 8) (q0 := 0) rfl rfl) rfl rfl hl.1 rfl (lv_room (Nat.le_of_ble_eq_true rfl)) dX8_most_35 ⟨hrc, hrs⟩) ?_
    refine lv_aload_n hx hb dX8_most_38 rfl (lv_at hl 2 rfl) ?_
    refine lv_aload_n hx hb dX8_most_39 rfl (lv_at hl 2 rfl) ?_
    refine va_get (D := G.1) (v := .ref (a 5)) hx hb hts hin8 hown hK hP 0 rfl rfl 15 (by decide) hf28 (fun _ h => h) rfl dX8_most_40 ?_
    refine wk_read (va_runV (As := [.ref (a 5)]) (rest := [.int (jHel (qN c 0) (qS c) z), .ref (a 0), .int (jVot (qN c 0) (qVo c) ((jHel (qN c 0) (qS c) (nI (i + 1))) &&& (jVoi (qN c 0) (qSo c) (qS c))))]) ⟨hx, hb, hml, hown, hts⟩ (c_X8_voices l G a c hc  false) (cwV 1 hts gX8_most_X8_voices rfl rfl rfl hdV_X8_voices ⟨Nat.le_of_ble_eq_true rfl, Nat.le_of_ble_eq_true rfl⟩) (hR.pre (ci := 8) (q0 := 0) rfl rfl) rfl rfl hl.1 rfl (lv_room (Nat.le_of_ble_eq_true rfl)) dX8_most_43 ⟨hrc, hrs⟩) ?_
    refine lv_iand hx hb dX8_most_46 ?_
    refine wk_read (va_runV (As := [.int ((jHel (qN c 0) (qS c) z) &&& (jVoi (qN c 0) (qSo c) (qS c)))]) (rest := [.int (jVot (qN c 0) (qVo c) ((jHel (qN c 0) (qS c) (nI (i + 1))) &&& (jVoi (qN c 0) (qSo c) (qS c))))]) ⟨hx, hb, hml, hown, hts⟩ (c_X8_votesOf l G a c hc ((jHel (qN c 0) (qS c) z) &&& (jVoi (qN c 0) (qSo c) (qS c)))) (cwV 1 hts gX8_most_X8_votesOf rfl rfl rfl hdV_X8_votesOf ⟨Nat.le_of_ble_eq_true rfl, Nat.le_of_ble_eq_true rfl⟩) (hR.pre (ci := 8) (q0 := 0) rfl rfl) rfl rfl hl.1 rfl (lv_room (Nat.le_of_ble_eq_true rfl)) dX8_most_47 ⟨hrc, hrs⟩) ?_
    refine lv_icmp_le (tgt := 57) hx hb dX8_most_50 (by decide) (fun c50 => ?_) (fun c50 => ?_)
    · refine lv_iload_n hx hb dX8_most_57 rfl (lv_at hl 1 rfl) ?_
      refine lv_istore_n (lv' := [(1, .int z), (2, .int (nI (i + 1))), (0, .ref (a 0))]) hx hb dX8_most_58 rfl hl (by decide) rfl (fun ls hl => ?_)
      refine lv_iinc (v := (nI ((i + 1) + 1))) (lv' := [(2, .int (nI ((i + 1) + 1))), (1, .int z), (0, .ref (a 0))]) hx hb dX8_most_59 hl (k := 1) rfl (wk_i1 (i + 1)) (by decide) rfl (fun ls hl => ?_)
      refine lv_goto (tgt := 4) hx hb dX8_most_62 (by decide) ?_
      exact ih4 (i + 1, z) (n4 - 1) ls (by omega) (⟨by omega, by rw [jMosF, fo_s, ← jMosF, ← hz]; exact (if_pos c50).symm⟩) (lv_sub hl [0, 1, 2] rfl)
    · refine lv_iload_n hx hb dX8_most_53 rfl (lv_at hl 0 rfl) ?_
      refine lv_goto (tgt := 58) hx hb dX8_most_54 (by decide) ?_
      refine lv_istore_n (lv' := [(1, .int (nI (i + 1))), (2, .int (nI (i + 1))), (0, .ref (a 0))]) hx hb dX8_most_58 rfl hl (by decide) rfl (fun ls hl => ?_)
      refine lv_iinc (v := (nI ((i + 1) + 1))) (lv' := [(2, .int (nI ((i + 1) + 1))), (1, .int (nI (i + 1))), (0, .ref (a 0))]) hx hb dX8_most_59 hl (k := 1) rfl (wk_i1 (i + 1)) (by decide) rfl (fun ls hl => ?_)
      refine lv_goto (tgt := 4) hx hb dX8_most_62 (by decide) ?_
      exact ih4 (i + 1, (nI (i + 1))) (n4 - 1) ls (by omega) (⟨by omega, by rw [jMosF, fo_s, ← jMosF, ← hz]; exact (if_neg c50).symm⟩) (lv_sub hl [0, 1, 2] rfl)
theorem hdV_X8_carries : yX8_carries.cls = RX8 ∧ yX8_carries.cls ≠ "java/lang/invoke/MethodHandle" ∧ yX8_carries.cls ≠ "java/lang/invoke/VarHandle" ∧ (parseMethodDescriptor yX8_carries.desc).map (fun d => d.parameters.length) = some 1 := by decide +kernel
set_option maxHeartbeats 600000 in
set_option maxRecDepth 100000 in
theorem c_X8_carries (l : Launch) (G : GG) (a : Nat → Nat) (c : JX) (hc : OkJ c) (x : Int32) : Met l yX8_carries wsX8_carries ({ frames := 2, cells := 0, slots := 0, locals := 46 }) (va_Pc [.ref (a 0), .int x] (fun U => PreW G (WM G a c) U U.heap)) (QcRead (b2i (jCar (qN c 0) (qSo c) (qVo c) (qS c) x))) 0 0 (fun _ => False) := by
  refine Met.ofW (cc := cX8_carries) (maxL := 2) (ret := (some .boolean)) (by decide) rfl ?_
  intro p e s m args below meth cd s₁ BB hml hv
  obtain ⟨rfl, hR⟩ := hv
  have hx := BB.exec
  have hb := BB.bytes
  have hr := BB.returns
  have hts := atoms_spec (ws := wsX8_carries) BB.pre
  have hown : s.vm.findClass RX8 = some m.cls := findClass_of_methodNamed BB.named
  have hlocks := BB.notSynchronized
  have hrc : 0 + 0 ≤ (headSpec wsX8_carries ({ frames := 2, cells := 0, slots := 0, locals := 46 })).room.cells := Nat.le_refl _
  have hrs : 0 + 0 ≤ (headSpec wsX8_carries ({ frames := 2, cells := 0, slots := 0, locals := 46 })).room.slots := Nat.le_refl _
  have hP := hR.1
  have hK := hR.2.1
  have hN := hR.2.2
  obtain ⟨hk7, ho1, ho5, hl200, hr6, hu10⟩ := id hc
  have hin8 : ∀ w ∈ u_ws RX8 TX8 24, w ∈ wsX8_carries := by decide +kernel
  have hf28 := hts (.fieldLink RX8 28 "RegaliaVotesModel" "s" "[I") (by decide +kernel)
  refine wk_enter (n := 2) (Nat.le_of_ble_eq_true rfl) (fun ls hl => ?_)
  have hl : lv_has ls 2 [(0, .ref (a 0)), (1, .int x)] := hl
  refine lv_iconst (v := 2) hx hb dX8_carries_0 (by decide) ?_
  refine lv_aload_n hx hb dX8_carries_1 rfl (lv_at hl 0 rfl) ?_
  refine lv_iload_n hx hb dX8_carries_2 rfl (lv_at hl 1 rfl) ?_
  refine wk_read (va_runV (As := [.int x]) (rest := [.int 2]) ⟨hx, hb, hml, hown, hts⟩ (c_X8_votesOf l G a c hc x) (cwV 1 hts gX8_carries_X8_votesOf rfl rfl rfl hdV_X8_votesOf ⟨Nat.le_of_ble_eq_true rfl, Nat.le_of_ble_eq_true rfl⟩) (hR.pre (ci := 8) (q0 := 0) rfl rfl) rfl rfl hl.1 rfl (lv_room (Nat.le_of_ble_eq_true rfl)) dX8_carries_3 ⟨hrc, hrs⟩) ?_
  refine lv_imul hx hb dX8_carries_6 ?_
  refine lv_aload_n hx hb dX8_carries_7 rfl (lv_at hl 0 rfl) ?_
  refine lv_aload_n hx hb dX8_carries_8 rfl (lv_at hl 0 rfl) ?_
  refine lv_aload_n hx hb dX8_carries_9 rfl (lv_at hl 0 rfl) ?_
  refine va_get (D := G.1) (v := .ref (a 5)) hx hb hts hin8 hown hK hP 0 rfl rfl 15 (by decide) hf28 (fun _ h => h) rfl dX8_carries_10 ?_
  refine wk_read (va_runV (As := [.ref (a 5)]) (rest := [.ref (a 0), .int (2 * (jVot (qN c 0) (qVo c) x))]) ⟨hx, hb, hml, hown, hts⟩ (c_X8_voices l G a c hc  false) (cwV 1 hts gX8_carries_X8_voices rfl rfl rfl hdV_X8_voices ⟨Nat.le_of_ble_eq_true rfl, Nat.le_of_ble_eq_true rfl⟩) (hR.pre (ci := 8) (q0 := 0) rfl rfl) rfl rfl hl.1 rfl (lv_room (Nat.le_of_ble_eq_true rfl)) dX8_carries_13 ⟨hrc, hrs⟩) ?_
  refine wk_read (va_runV (As := [.int (jVoi (qN c 0) (qSo c) (qS c))]) (rest := [.int (2 * (jVot (qN c 0) (qVo c) x))]) ⟨hx, hb, hml, hown, hts⟩ (c_X8_votesOf l G a c hc (jVoi (qN c 0) (qSo c) (qS c))) (cwV 1 hts gX8_carries_X8_votesOf rfl rfl rfl hdV_X8_votesOf ⟨Nat.le_of_ble_eq_true rfl, Nat.le_of_ble_eq_true rfl⟩) (hR.pre (ci := 8) (q0 := 0) rfl rfl) rfl rfl hl.1 rfl (lv_room (Nat.le_of_ble_eq_true rfl)) dX8_carries_16 ⟨hrc, hrs⟩) ?_
  refine lv_icmp_le (tgt := 26) hx hb dX8_carries_19 (by decide) (fun c19 => ?_) (fun c19 => ?_)
  · refine lv_iconst (v := 0) hx hb dX8_carries_26 (by decide) ?_
    exact wk_zret hx hb hr hlocks dX8_carries_27 (by rfl) (by simp [b2i, jCar, c19])
  · refine lv_iconst (v := 1) hx hb dX8_carries_22 (by decide) ?_
    refine lv_goto (tgt := 27) hx hb dX8_carries_23 (by decide) ?_
    exact wk_zret hx hb hr hlocks dX8_carries_27 (by rfl) (by simp [b2i, jCar, c19])
theorem hdV_X8_decides : yX8_decides.cls = RX8 ∧ yX8_decides.cls ≠ "java/lang/invoke/MethodHandle" ∧ yX8_decides.cls ≠ "java/lang/invoke/VarHandle" ∧ (parseMethodDescriptor yX8_decides.desc).map (fun d => d.parameters.length) = some 1 := by decide +kernel
set_option maxHeartbeats 600000 in
set_option maxRecDepth 100000 in
theorem c_X8_decides (l : Launch) (G : GG) (a : Nat → Nat) (c : JX) (hc : OkJ c) (t : Nat) : Met l yX8_decides wsX8_decides ({ frames := 3, cells := 0, slots := 0, locals := 67 }) (va_Pc [.ref (a 0), .int (nI t)] (fun U => PreW G (WM G a c) U U.heap)) (QcRead (jDec (qN c 0) (qSo c) (qVo c) (qS c) t)) 0 0 (fun _ => False) := by
  refine Met.ofW (cc := cX8_decides) (maxL := 6) (ret := (some .int)) (by decide) rfl ?_
  intro p e s m args below meth cd s₁ BB hml hv
  obtain ⟨rfl, hR⟩ := hv
  have hx := BB.exec
  have hb := BB.bytes
  have hr := BB.returns
  have hts := atoms_spec (ws := wsX8_decides) BB.pre
  have hown : s.vm.findClass RX8 = some m.cls := findClass_of_methodNamed BB.named
  have hlocks := BB.notSynchronized
  have hrc : 0 + 0 ≤ (headSpec wsX8_decides ({ frames := 3, cells := 0, slots := 0, locals := 67 })).room.cells := Nat.le_refl _
  have hrs : 0 + 0 ≤ (headSpec wsX8_decides ({ frames := 3, cells := 0, slots := 0, locals := 67 })).room.slots := Nat.le_refl _
  have hP := hR.1
  have hK := hR.2.1
  have hN := hR.2.2
  obtain ⟨hk7, ho1, ho5, hl200, hr6, hu10⟩ := id hc
  have hin8 : ∀ w ∈ u_ws RX8 TX8 24, w ∈ wsX8_decides := by decide +kernel
  have hf28 := hts (.fieldLink RX8 28 "RegaliaVotesModel" "s" "[I") (by decide +kernel)
  refine wk_enter (n := 6) (Nat.le_of_ble_eq_true rfl) (fun ls hl => ?_)
  have hl : lv_has ls 6 [(0, .ref (a 0)), (1, .int (nI t))] := hl
  refine lv_aload_n hx hb dX8_decides_0 rfl (lv_at hl 0 rfl) ?_
  refine lv_aload_n hx hb dX8_decides_1 rfl (lv_at hl 0 rfl) ?_
  refine va_get (D := G.1) (v := .ref (a 5)) hx hb hts hin8 hown hK hP 0 rfl rfl 15 (by decide) hf28 (fun _ h => h) rfl dX8_decides_2 ?_
  refine wk_read (va_runV (As := [.ref (a 5)]) (rest := []) ⟨hx, hb, hml, hown, hts⟩ (c_X8_voices l G a c hc  false) (cwV 1 hts gX8_decides_X8_voices rfl rfl rfl hdV_X8_voices ⟨Nat.le_of_ble_eq_true rfl, Nat.le_of_ble_eq_true rfl⟩) (hR.pre (ci := 8) (q0 := 0) rfl rfl) rfl rfl hl.1 rfl (lv_room (Nat.le_of_ble_eq_true rfl)) dX8_decides_5 ⟨hrc, hrs⟩) ?_
  refine lv_istore_n (lv' := [(2, .int (jVoi (qN c 0) (qSo c) (qS c))), (0, .ref (a 0)), (1, .int (nI t))]) hx hb dX8_decides_8 rfl hl (by decide) rfl (fun ls hl => ?_)
  refine lv_iconst (v := 0) hx hb dX8_decides_9 (by decide) ?_
  refine lv_istore_n (lv' := [(3, .int 0), (2, .int (jVoi (qN c 0) (qSo c) (qS c))), (0, .ref (a 0)), (1, .int (nI t))]) hx hb dX8_decides_10 rfl hl (by decide) rfl (fun ls hl => ?_)
  refine lv_iconst (v := 0) hx hb dX8_decides_11 (by decide) ?_
  refine lv_istore (lv' := [(4, .int 0), (3, .int 0), (2, .int (jVoi (qN c 0) (qSo c) (qS c))), (0, .ref (a 0)), (1, .int (nI t))]) hx hb dX8_decides_12 hl (by decide) rfl (fun ls hl => ?_)
  refine wk_loop (σ := Nat × Int32) (nL := 6) (fun xσ n => match xσ with | (i, z) => i + n = 128 ∧ z = jDecF (qN c 0) (qSo c) (qVo c) (qS c) t i) (fun xσ => match xσ with | (i, z) => [(4, .int (nI i)), (3, .int z), (2, .int (jVoi (qN c 0) (qSo c) (qS c))), (0, .ref (a 0)), (1, .int (nI t))]) (0, 0) 128 (⟨by omega, rfl⟩) hl ?_
  rintro n14 ⟨i, z⟩ ls hI14 hl ih14
  have hl : lv_has ls 6 [(4, .int (nI i)), (3, .int z), (2, .int (jVoi (qN c 0) (qSo c) (qS c))), (0, .ref (a 0)), (1, .int (nI t))] := hl
  obtain ⟨hi, hz⟩ := hI14
  refine lv_iload hx hb dX8_decides_14 (lv_at hl 0 rfl) ?_
  refine lv_sipush (v := 128) hx hb dX8_decides_16 (by decide) ?_
  refine wk_ge (x := i) (y := 128) (tgt := 111) hx hb (by omega) (by omega) dX8_decides_19 (by decide) (fun c19 => ?_) (fun c19 => ?_)
  · refine lv_iload_n hx hb dX8_decides_111 rfl (lv_at hl 1 rfl) ?_
    exact wk_ret hx hb hr hlocks dX8_decides_112 (by rw [hz, show i = 128 by omega]; rfl)
  · refine lv_iload hx hb dX8_decides_22 (lv_at hl 0 rfl) ?_
    refine lv_iload_n hx hb dX8_decides_24 rfl (lv_at hl 2 rfl) ?_
    refine lv_iconst (v := -1) hx hb dX8_decides_25 (by decide) ?_
    refine lv_ixor hx hb dX8_decides_26 ?_
    show W _ _ _ _ _ _ _ _ _ _ _ _ _ _ _ (F0 _ _ _ (.int (iv (jVoi (qN c 0) (qSo c) (qS c))) :: _))
    refine lv_iand hx hb dX8_decides_27 ?_
    refine lv_if_ne (tgt := 44) hx hb dX8_decides_28 (by decide) (fun c28 => ?_) (fun c28 => ?_)
    · refine lv_iconst (v := 0) hx hb dX8_decides_44 (by decide) ?_
      refine lv_istore (lv' := [(5, .int 0), (4, .int (nI i)), (3, .int z), (2, .int (jVoi (qN c 0) (qSo c) (qS c))), (0, .ref (a 0)), (1, .int (nI t))]) hx hb dX8_decides_45 hl (by decide) rfl (fun ls hl => ?_)
      refine lv_iload_n hx hb dX8_decides_47 rfl (lv_at hl 2 rfl) ?_
      refine lv_iload hx hb dX8_decides_48 (lv_at hl 0 rfl) ?_
      refine lv_if_eq (tgt := 102) hx hb dX8_decides_50 (by decide) (fun c50 => ?_) (fun c50 => ?_)
      · refine lv_iconst (v := 0) hx hb dX8_decides_102 (by decide) ?_
        refine lv_iadd hx hb dX8_decides_103 ?_
        refine lv_istore_n (lv' := [(3, .int (z + 0)), (5, .int 0), (4, .int (nI i)), (2, .int (jVoi (qN c 0) (qSo c) (qS c))), (0, .ref (a 0)), (1, .int (nI t))]) hx hb dX8_decides_104 rfl hl (by decide) rfl (fun ls hl => ?_)
        refine lv_iinc (v := (nI (i + 1))) (lv' := [(4, .int (nI (i + 1))), (3, .int (z + 0)), (5, .int 0), (2, .int (jVoi (qN c 0) (qSo c) (qS c))), (0, .ref (a 0)), (1, .int (nI t))]) hx hb dX8_decides_105 hl (k := 2) rfl (wk_i1 i) (by decide) rfl (fun ls hl => ?_)
        refine lv_goto (tgt := 14) hx hb dX8_decides_108 (by decide) ?_
        exact ih14 (i + 1, (z + 0)) (n14 - 1) ls (by omega) (⟨by omega, by rw [hz]; simp [jDecF, fo_s, c19, c28]⟩) (lv_sub hl [0, 1, 3, 4, 5] rfl)
      · exact absurd c50 (by decide)
    · refine lv_iload hx hb dX8_decides_31 (lv_at hl 0 rfl) ?_
      refine lv_iload_n hx hb dX8_decides_33 rfl (lv_at hl 4 rfl) ?_
      refine lv_ishr hx hb dX8_decides_34 ?_
      refine lv_iconst (v := 1) hx hb dX8_decides_35 (by decide) ?_
      refine lv_iand hx hb dX8_decides_36 ?_
      show W _ _ _ _ _ _ _ _ _ _ _ _ _ _ _ (F0 _ _ _ (.int (bitI (nI i) (nI t)) :: _))
      refine lv_if_ne (tgt := 44) hx hb dX8_decides_37 (by decide) (fun c37 => ?_) (fun c37 => ?_)
      · refine lv_iconst (v := 0) hx hb dX8_decides_44 (by decide) ?_
        refine lv_istore (lv' := [(5, .int 0), (4, .int (nI i)), (3, .int z), (2, .int (jVoi (qN c 0) (qSo c) (qS c))), (0, .ref (a 0)), (1, .int (nI t))]) hx hb dX8_decides_45 hl (by decide) rfl (fun ls hl => ?_)
        refine lv_iload_n hx hb dX8_decides_47 rfl (lv_at hl 2 rfl) ?_
        refine lv_iload hx hb dX8_decides_48 (lv_at hl 0 rfl) ?_
        refine lv_if_eq (tgt := 102) hx hb dX8_decides_50 (by decide) (fun c50 => ?_) (fun c50 => ?_)
        · refine lv_iconst (v := 0) hx hb dX8_decides_102 (by decide) ?_
          refine lv_iadd hx hb dX8_decides_103 ?_
          refine lv_istore_n (lv' := [(3, .int (z + 0)), (5, .int 0), (4, .int (nI i)), (2, .int (jVoi (qN c 0) (qSo c) (qS c))), (0, .ref (a 0)), (1, .int (nI t))]) hx hb dX8_decides_104 rfl hl (by decide) rfl (fun ls hl => ?_)
          refine lv_iinc (v := (nI (i + 1))) (lv' := [(4, .int (nI (i + 1))), (3, .int (z + 0)), (5, .int 0), (2, .int (jVoi (qN c 0) (qSo c) (qS c))), (0, .ref (a 0)), (1, .int (nI t))]) hx hb dX8_decides_105 hl (k := 2) rfl (wk_i1 i) (by decide) rfl (fun ls hl => ?_)
          refine lv_goto (tgt := 14) hx hb dX8_decides_108 (by decide) ?_
          exact ih14 (i + 1, (z + 0)) (n14 - 1) ls (by omega) (⟨by omega, by rw [hz]; simp [jDecF, fo_s, c19, c28, c37]⟩) (lv_sub hl [0, 1, 3, 4, 5] rfl)
        · exact absurd c50 (by decide)
      · refine lv_iconst (v := 1) hx hb dX8_decides_40 (by decide) ?_
        refine lv_goto (tgt := 45) hx hb dX8_decides_41 (by decide) ?_
        refine lv_istore (lv' := [(5, .int 1), (4, .int (nI i)), (3, .int z), (2, .int (jVoi (qN c 0) (qSo c) (qS c))), (0, .ref (a 0)), (1, .int (nI t))]) hx hb dX8_decides_45 hl (by decide) rfl (fun ls hl => ?_)
        refine lv_iload_n hx hb dX8_decides_47 rfl (lv_at hl 2 rfl) ?_
        refine lv_iload hx hb dX8_decides_48 (lv_at hl 0 rfl) ?_
        refine lv_if_eq (tgt := 102) hx hb dX8_decides_50 (by decide) (fun c50 => ?_) (fun c50 => ?_)
        · exact absurd c50 (by decide)
        · refine lv_aload_n hx hb dX8_decides_53 rfl (lv_at hl 4 rfl) ?_
          refine lv_iload hx hb dX8_decides_54 (lv_at hl 1 rfl) ?_
          refine wk_read (va_runV (As := [.int (nI i)]) (rest := [.int z]) ⟨hx, hb, hml, hown, hts⟩ (c_X8_carries l G a c hc (nI i)) (cwV 1 hts gX8_decides_X8_carries rfl rfl rfl hdV_X8_carries ⟨Nat.le_of_ble_eq_true rfl, Nat.le_of_ble_eq_true rfl⟩) (hR.pre (ci := 8) (q0 := 0) rfl rfl) rfl rfl hl.1 rfl (lv_room (Nat.le_of_ble_eq_true rfl)) dX8_decides_56 ⟨hrc, hrs⟩) ?_
          refine lv_if_ne (tgt := 102) hx hb dX8_decides_59 (by decide) (fun c59 => ?_) (fun c59 => ?_)
          · have c59 := b2i_t c59
            refine lv_iconst (v := 0) hx hb dX8_decides_102 (by decide) ?_
            refine lv_iadd hx hb dX8_decides_103 ?_
            refine lv_istore_n (lv' := [(3, .int (z + 0)), (5, .int 1), (4, .int (nI i)), (2, .int (jVoi (qN c 0) (qSo c) (qS c))), (0, .ref (a 0)), (1, .int (nI t))]) hx hb dX8_decides_104 rfl hl (by decide) rfl (fun ls hl => ?_)
            refine lv_iinc (v := (nI (i + 1))) (lv' := [(4, .int (nI (i + 1))), (3, .int (z + 0)), (5, .int 1), (2, .int (jVoi (qN c 0) (qSo c) (qS c))), (0, .ref (a 0)), (1, .int (nI t))]) hx hb dX8_decides_105 hl (k := 2) rfl (wk_i1 i) (by decide) rfl (fun ls hl => ?_)
            refine lv_goto (tgt := 14) hx hb dX8_decides_108 (by decide) ?_
            exact ih14 (i + 1, (z + 0)) (n14 - 1) ls (by omega) (⟨by omega, by rw [hz]; simp [jDecF, fo_s, c19, c28, c37, c59]⟩) (lv_sub hl [0, 1, 3, 4, 5] rfl)
          · have c59 := b2i_f c59
            refine lv_aload_n hx hb dX8_decides_62 rfl (lv_at hl 4 rfl) ?_
            refine lv_iload hx hb dX8_decides_63 (lv_at hl 1 rfl) ?_
            refine lv_iconst (v := 1) hx hb dX8_decides_65 (by decide) ?_
            refine lv_iload_n hx hb dX8_decides_66 rfl (lv_at hl 5 rfl) ?_
            refine lv_ishl hx hb dX8_decides_67 ?_
            show W _ _ _ _ _ _ _ _ _ _ _ _ _ _ _ (F0 _ _ _ (.int (sh1 (nI t)) :: _))
            refine lv_ior hx hb dX8_decides_68 ?_
            refine wk_read (va_runV (As := [.int ((nI i) ||| (sh1 (nI t)))]) (rest := [.int z]) ⟨hx, hb, hml, hown, hts⟩ (c_X8_carries l G a c hc ((nI i) ||| (sh1 (nI t)))) (cwV 1 hts gX8_decides_X8_carries rfl rfl rfl hdV_X8_carries ⟨Nat.le_of_ble_eq_true rfl, Nat.le_of_ble_eq_true rfl⟩) (hR.pre (ci := 8) (q0 := 0) rfl rfl) rfl rfl hl.1 rfl (lv_room (Nat.le_of_ble_eq_true rfl)) dX8_decides_69 ⟨hrc, hrs⟩) ?_
            refine lv_if_eq (tgt := 102) hx hb dX8_decides_72 (by decide) (fun c72 => ?_) (fun c72 => ?_)
            · have c72 := b2i_f c72
              refine lv_iconst (v := 0) hx hb dX8_decides_102 (by decide) ?_
              refine lv_iadd hx hb dX8_decides_103 ?_
              refine lv_istore_n (lv' := [(3, .int (z + 0)), (5, .int 1), (4, .int (nI i)), (2, .int (jVoi (qN c 0) (qSo c) (qS c))), (0, .ref (a 0)), (1, .int (nI t))]) hx hb dX8_decides_104 rfl hl (by decide) rfl (fun ls hl => ?_)
              refine lv_iinc (v := (nI (i + 1))) (lv' := [(4, .int (nI (i + 1))), (3, .int (z + 0)), (5, .int 1), (2, .int (jVoi (qN c 0) (qSo c) (qS c))), (0, .ref (a 0)), (1, .int (nI t))]) hx hb dX8_decides_105 hl (k := 2) rfl (wk_i1 i) (by decide) rfl (fun ls hl => ?_)
              refine lv_goto (tgt := 14) hx hb dX8_decides_108 (by decide) ?_
              exact ih14 (i + 1, (z + 0)) (n14 - 1) ls (by omega) (⟨by omega, by rw [hz]; simp [jDecF, fo_s, c19, c28, c37, c59, c72]⟩) (lv_sub hl [0, 1, 3, 4, 5] rfl)
            · have c72 := b2i_t c72
              refine lv_iload hx hb dX8_decides_75 (lv_at hl 1 rfl) ?_
              refine wk_read (va_runS (As := [.int (nI i)]) (rest := [.int z]) ⟨hx, hb, hml, hown, hts⟩ (c_X8_ones l (nI i)) (va_cwS 1 hts gX8_decides_X8_ones rfl rfl rfl hdS_X8_ones ⟨Nat.le_of_ble_eq_true rfl, Nat.le_of_ble_eq_true rfl⟩) preEq rfl rfl hl.1 rfl (lv_room (Nat.le_of_ble_eq_true rfl)) dX8_decides_77 ⟨hrc, hrs⟩) ?_
              refine wk_read (va_runS (As := [.int (jOnes (nI i))]) (rest := [.int z]) ⟨hx, hb, hml, hown, hts⟩ (c_X8_orders l (jOnes (nI i)) (jOnes_7 _)) (va_cwS 1 hts gX8_decides_X8_orders rfl rfl rfl hdS_X8_orders ⟨Nat.le_of_ble_eq_true rfl, Nat.le_of_ble_eq_true rfl⟩) preEq rfl rfl hl.1 rfl (lv_room (Nat.le_of_ble_eq_true rfl)) dX8_decides_80 ⟨hrc, hrs⟩) ?_
              refine lv_iload_n hx hb dX8_decides_83 rfl (lv_at hl 3 rfl) ?_
              refine wk_read (va_runS (As := [.int (jVoi (qN c 0) (qSo c) (qS c))]) (rest := [.int (jOrd (jOnes (nI i))), .int z]) ⟨hx, hb, hml, hown, hts⟩ (c_X8_ones l (jVoi (qN c 0) (qSo c) (qS c))) (va_cwS 1 hts gX8_decides_X8_ones rfl rfl rfl hdS_X8_ones ⟨Nat.le_of_ble_eq_true rfl, Nat.le_of_ble_eq_true rfl⟩) preEq rfl rfl hl.1 rfl (lv_room (Nat.le_of_ble_eq_true rfl)) dX8_decides_84 ⟨hrc, hrs⟩) ?_
              refine lv_iconst (v := 1) hx hb dX8_decides_87 (by decide) ?_
              refine lv_isub hx hb dX8_decides_88 ?_
              refine lv_iload hx hb dX8_decides_89 (lv_at hl 1 rfl) ?_
              refine wk_read (va_runS (As := [.int (nI i)]) (rest := [.int ((jOnes (jVoi (qN c 0) (qSo c) (qS c))) - 1), .int (jOrd (jOnes (nI i))), .int z]) ⟨hx, hb, hml, hown, hts⟩ (c_X8_ones l (nI i)) (va_cwS 1 hts gX8_decides_X8_ones rfl rfl rfl hdS_X8_ones ⟨Nat.le_of_ble_eq_true rfl, Nat.le_of_ble_eq_true rfl⟩) preEq rfl rfl hl.1 rfl (lv_room (Nat.le_of_ble_eq_true rfl)) dX8_decides_91 ⟨hrc, hrs⟩) ?_
              refine lv_isub hx hb dX8_decides_94 ?_
              refine wk_read (va_runS (As := [.int (((jOnes (jVoi (qN c 0) (qSo c) (qS c))) - 1) - (jOnes (nI i)))]) (rest := [.int (jOrd (jOnes (nI i))), .int z]) ⟨hx, hb, hml, hown, hts⟩ (c_X8_orders l (((jOnes (jVoi (qN c 0) (qSo c) (qS c))) - 1) - (jOnes (nI i))) (jOnes_s7 _ _)) (va_cwS 1 hts gX8_decides_X8_orders rfl rfl rfl hdS_X8_orders ⟨Nat.le_of_ble_eq_true rfl, Nat.le_of_ble_eq_true rfl⟩) preEq rfl rfl hl.1 rfl (lv_room (Nat.le_of_ble_eq_true rfl)) dX8_decides_95 ⟨hrc, hrs⟩) ?_
              refine lv_imul hx hb dX8_decides_98 ?_
              refine lv_goto (tgt := 103) hx hb dX8_decides_99 (by decide) ?_
              refine lv_iadd hx hb dX8_decides_103 ?_
              refine lv_istore_n (lv' := [(3, .int (z + ((jOrd (jOnes (nI i))) * (jOrd (((jOnes (jVoi (qN c 0) (qSo c) (qS c))) - 1) - (jOnes (nI i))))))), (5, .int 1), (4, .int (nI i)), (2, .int (jVoi (qN c 0) (qSo c) (qS c))), (0, .ref (a 0)), (1, .int (nI t))]) hx hb dX8_decides_104 rfl hl (by decide) rfl (fun ls hl => ?_)
              refine lv_iinc (v := (nI (i + 1))) (lv' := [(4, .int (nI (i + 1))), (3, .int (z + ((jOrd (jOnes (nI i))) * (jOrd (((jOnes (jVoi (qN c 0) (qSo c) (qS c))) - 1) - (jOnes (nI i))))))), (5, .int 1), (2, .int (jVoi (qN c 0) (qSo c) (qS c))), (0, .ref (a 0)), (1, .int (nI t))]) hx hb dX8_decides_105 hl (k := 2) rfl (wk_i1 i) (by decide) rfl (fun ls hl => ?_)
              refine lv_goto (tgt := 14) hx hb dX8_decides_108 (by decide) ?_
              exact ih14 (i + 1, (z + ((jOrd (jOnes (nI i))) * (jOrd (((jOnes (jVoi (qN c 0) (qSo c) (qS c))) - 1) - (jOnes (nI i))))))) (n14 - 1) ls (by omega) (⟨by omega, by rw [hz]; simp [jDecF, fo_s, c19, c28, c37, c59, c72]⟩) (lv_sub hl [0, 1, 3, 4, 5] rfl)
theorem hdV_X8_isLeast : yX8_isLeast.cls = RX8 ∧ yX8_isLeast.cls ≠ "java/lang/invoke/MethodHandle" ∧ yX8_isLeast.cls ≠ "java/lang/invoke/VarHandle" ∧ (parseMethodDescriptor yX8_isLeast.desc).map (fun d => d.parameters.length) = some 1 := by decide +kernel
set_option maxHeartbeats 600000 in
set_option maxRecDepth 100000 in
theorem c_X8_isLeast (l : Launch) (G : GG) (a : Nat → Nat) (c : JX) (hc : OkJ c) (x : Int32) : Met l yX8_isLeast wsX8_isLeast ({ frames := 3, cells := 0, slots := 0, locals := 67 }) (va_Pc [.ref (a 0), .int x] (fun U => PreW G (WM G a c) U U.heap)) (QcRead (b2i (jLea (qN c 0) (qSo c) (qVo c) (qS c) x))) 0 0 (fun _ => False) := by
  refine Met.ofW (cc := cX8_isLeast) (maxL := 4) (ret := (some .boolean)) (by decide) rfl ?_
  intro p e s m args below meth cd s₁ BB hml hv
  obtain ⟨rfl, hR⟩ := hv
  have hx := BB.exec
  have hb := BB.bytes
  have hr := BB.returns
  have hts := atoms_spec (ws := wsX8_isLeast) BB.pre
  have hown : s.vm.findClass RX8 = some m.cls := findClass_of_methodNamed BB.named
  have hlocks := BB.notSynchronized
  have hrc : 0 + 0 ≤ (headSpec wsX8_isLeast ({ frames := 3, cells := 0, slots := 0, locals := 67 })).room.cells := Nat.le_refl _
  have hrs : 0 + 0 ≤ (headSpec wsX8_isLeast ({ frames := 3, cells := 0, slots := 0, locals := 67 })).room.slots := Nat.le_refl _
  have hP := hR.1
  have hK := hR.2.1
  have hN := hR.2.2
  obtain ⟨hk7, ho1, ho5, hl200, hr6, hu10⟩ := id hc
  have hin8 : ∀ w ∈ u_ws RX8 TX8 24, w ∈ wsX8_isLeast := by decide +kernel
  have hf13 := hts (.fieldLink RX8 13 "RegaliaVotesModel" "many" "[I") (by decide +kernel)
  have hf28 := hts (.fieldLink RX8 28 "RegaliaVotesModel" "s" "[I") (by decide +kernel)
  refine wk_enter (n := 4) (Nat.le_of_ble_eq_true rfl) (fun ls hl => ?_)
  have hl : lv_has ls 4 [(0, .ref (a 0)), (1, .int x)] := hl
  refine wk_cut 28 [] (fun z => z = b2i (jLea0 (qN c 0) (qSo c) (qVo c) (qS c) x)) (fun x28 hx28 => ?_) (fun k28 => ?_)
  · subst hx28
    refine lv_istore_n (lv' := [(2, .int (b2i (jLea0 (qN c 0) (qSo c) (qVo c) (qS c) x))), (0, .ref (a 0)), (1, .int x)]) hx hb dX8_isLeast_28 rfl hl (by decide) rfl (fun ls hl => ?_)
    refine lv_iconst (v := 0) hx hb dX8_isLeast_29 (by decide) ?_
    refine lv_istore_n (lv' := [(3, .int 0), (2, .int (b2i (jLea0 (qN c 0) (qSo c) (qVo c) (qS c) x))), (0, .ref (a 0)), (1, .int x)]) hx hb dX8_isLeast_30 rfl hl (by decide) rfl (fun ls hl => ?_)
    refine wk_loop (σ := Nat × Bool) (nL := 4) (fun xσ n => match xσ with | (i, z) => i + n = qN c 0 ∧ z = (jLea0 (qN c 0) (qSo c) (qVo c) (qS c) x && allB (jLeaB (qN c 0) (qSo c) (qVo c) (qS c) x) i)) (fun xσ => match xσ with | (i, z) => [(3, .int (nI i)), (2, .int (b2i z)), (0, .ref (a 0)), (1, .int x)]) (0, jLea0 (qN c 0) (qSo c) (qVo c) (qS c) x) (qN c 0) (⟨by omega, by simp [allB]⟩) hl ?_
    rintro n31 ⟨i, z⟩ ls hI31 hl ih31
    have hl : lv_has ls 4 [(3, .int (nI i)), (2, .int (b2i z)), (0, .ref (a 0)), (1, .int x)] := hl
    obtain ⟨hi, hz⟩ := hI31
    refine lv_iload_n hx hb dX8_isLeast_31 rfl (lv_at hl 0 rfl) ?_
    refine lv_aload_n hx hb dX8_isLeast_32 rfl (lv_at hl 2 rfl) ?_
    refine va_get (D := G.1) (v := .ref (a 1)) hx hb hts hin8 hown hK hP 0 rfl rfl 9 (by decide) hf13 (fun _ h => h) rfl dX8_isLeast_33 ?_
    refine lv_iconst (v := 0) hx hb dX8_isLeast_36 (by decide) ?_
    refine wk_iald (i := 0) hx hb hK hP 1 1 rfl rfl (by omega) (Nat.le_of_ble_eq_true rfl) dX8_isLeast_37 ?_
    refine wk_ge (x := i) (y := (qN c 0)) (tgt := 79) hx hb (by omega) (by omega) dX8_isLeast_38 (by decide) (fun c38 => ?_) (fun c38 => ?_)
    · refine lv_iload_n hx hb dX8_isLeast_79 rfl (lv_at hl 1 rfl) ?_
      exact wk_zret hx hb hr hlocks dX8_isLeast_80 (b2i_nar _) (by rw [hz, show i = qN c 0 by omega]; rfl)
    · refine lv_iload_n hx hb dX8_isLeast_41 rfl (lv_at hl 1 rfl) ?_
      refine lv_if_eq (tgt := 71) hx hb dX8_isLeast_42 (by decide) (fun c42 => ?_) (fun c42 => ?_)
      · have c42 := b2i_f c42
        refine lv_iconst (v := 0) hx hb dX8_isLeast_71 (by decide) ?_
        refine lv_istore_n (lv' := [(2, .int 0), (3, .int (nI i)), (0, .ref (a 0)), (1, .int x)]) hx hb dX8_isLeast_72 rfl hl (by decide) rfl (fun ls hl => ?_)
        refine lv_iinc (v := (nI (i + 1))) (lv' := [(3, .int (nI (i + 1))), (2, .int 0), (0, .ref (a 0)), (1, .int x)]) hx hb dX8_isLeast_73 hl (k := 1) rfl (wk_i1 i) (by decide) rfl (fun ls hl => ?_)
        refine lv_goto (tgt := 31) hx hb dX8_isLeast_76 (by decide) ?_
        exact ih31 (i + 1, false) (n31 - 1) ls (by omega) (⟨by omega, by rw [allB, ← Bool.and_assoc, ← hz]; simp [jLeaB, c42]⟩) (lv_sub hl [0, 1, 2, 3] rfl)
      · have c42 := b2i_t c42
        refine lv_iload_n hx hb dX8_isLeast_45 rfl (lv_at hl 3 rfl) ?_
        refine lv_iload_n hx hb dX8_isLeast_46 rfl (lv_at hl 0 rfl) ?_
        refine lv_ishr hx hb dX8_isLeast_47 ?_
        refine lv_iconst (v := 1) hx hb dX8_isLeast_48 (by decide) ?_
        refine lv_iand hx hb dX8_isLeast_49 ?_
        show W _ _ _ _ _ _ _ _ _ _ _ _ _ _ _ (F0 _ _ _ (.int (bitI x (nI i)) :: _))
        refine lv_if_eq (tgt := 67) hx hb dX8_isLeast_50 (by decide) (fun c50 => ?_) (fun c50 => ?_)
        · refine lv_iconst (v := 1) hx hb dX8_isLeast_67 (by decide) ?_
          refine lv_goto (tgt := 72) hx hb dX8_isLeast_68 (by decide) ?_
          refine lv_istore_n (lv' := [(2, .int 1), (3, .int (nI i)), (0, .ref (a 0)), (1, .int x)]) hx hb dX8_isLeast_72 rfl hl (by decide) rfl (fun ls hl => ?_)
          refine lv_iinc (v := (nI (i + 1))) (lv' := [(3, .int (nI (i + 1))), (2, .int 1), (0, .ref (a 0)), (1, .int x)]) hx hb dX8_isLeast_73 hl (k := 1) rfl (wk_i1 i) (by decide) rfl (fun ls hl => ?_)
          refine lv_goto (tgt := 31) hx hb dX8_isLeast_76 (by decide) ?_
          exact ih31 (i + 1, true) (n31 - 1) ls (by omega) (⟨by omega, by rw [allB, ← Bool.and_assoc, ← hz]; simp [jLeaB, c42, c50]⟩) (lv_sub hl [0, 1, 2, 3] rfl)
        · refine lv_aload_n hx hb dX8_isLeast_53 rfl (lv_at hl 2 rfl) ?_
          refine lv_iload_n hx hb dX8_isLeast_54 rfl (lv_at hl 3 rfl) ?_
          refine lv_iconst (v := 1) hx hb dX8_isLeast_55 (by decide) ?_
          refine lv_iload_n hx hb dX8_isLeast_56 rfl (lv_at hl 0 rfl) ?_
          refine lv_ishl hx hb dX8_isLeast_57 ?_
          show W _ _ _ _ _ _ _ _ _ _ _ _ _ _ _ (F0 _ _ _ (.int (sh1 (nI i)) :: _))
          refine lv_iconst (v := -1) hx hb dX8_isLeast_58 (by decide) ?_
          refine lv_ixor hx hb dX8_isLeast_59 ?_
          show W _ _ _ _ _ _ _ _ _ _ _ _ _ _ _ (F0 _ _ _ (.int (iv (sh1 (nI i))) :: _))
          refine lv_iand hx hb dX8_isLeast_60 ?_
          refine wk_read (va_runV (As := [.int (x &&& (iv (sh1 (nI i))))]) (rest := []) ⟨hx, hb, hml, hown, hts⟩ (c_X8_carries l G a c hc (x &&& (iv (sh1 (nI i))))) (cwV 1 hts gX8_isLeast_X8_carries rfl rfl rfl hdV_X8_carries ⟨Nat.le_of_ble_eq_true rfl, Nat.le_of_ble_eq_true rfl⟩) (hR.pre (ci := 8) (q0 := 0) rfl rfl) rfl rfl hl.1 rfl (lv_room (Nat.le_of_ble_eq_true rfl)) dX8_isLeast_61 ⟨hrc, hrs⟩) ?_
          refine lv_if_ne (tgt := 71) hx hb dX8_isLeast_64 (by decide) (fun c64 => ?_) (fun c64 => ?_)
          · have c64 := b2i_t c64
            refine lv_iconst (v := 0) hx hb dX8_isLeast_71 (by decide) ?_
            refine lv_istore_n (lv' := [(2, .int 0), (3, .int (nI i)), (0, .ref (a 0)), (1, .int x)]) hx hb dX8_isLeast_72 rfl hl (by decide) rfl (fun ls hl => ?_)
            refine lv_iinc (v := (nI (i + 1))) (lv' := [(3, .int (nI (i + 1))), (2, .int 0), (0, .ref (a 0)), (1, .int x)]) hx hb dX8_isLeast_73 hl (k := 1) rfl (wk_i1 i) (by decide) rfl (fun ls hl => ?_)
            refine lv_goto (tgt := 31) hx hb dX8_isLeast_76 (by decide) ?_
            exact ih31 (i + 1, false) (n31 - 1) ls (by omega) (⟨by omega, by rw [allB, ← Bool.and_assoc, ← hz]; simp [jLeaB, c42, c50, c64]⟩) (lv_sub hl [0, 1, 2, 3] rfl)
          · have c64 := b2i_f c64
            refine lv_iconst (v := 1) hx hb dX8_isLeast_67 (by decide) ?_
            refine lv_goto (tgt := 72) hx hb dX8_isLeast_68 (by decide) ?_
            refine lv_istore_n (lv' := [(2, .int 1), (3, .int (nI i)), (0, .ref (a 0)), (1, .int x)]) hx hb dX8_isLeast_72 rfl hl (by decide) rfl (fun ls hl => ?_)
            refine lv_iinc (v := (nI (i + 1))) (lv' := [(3, .int (nI (i + 1))), (2, .int 1), (0, .ref (a 0)), (1, .int x)]) hx hb dX8_isLeast_73 hl (k := 1) rfl (wk_i1 i) (by decide) rfl (fun ls hl => ?_)
            refine lv_goto (tgt := 31) hx hb dX8_isLeast_76 (by decide) ?_
            exact ih31 (i + 1, true) (n31 - 1) ls (by omega) (⟨by omega, by rw [allB, ← Bool.and_assoc, ← hz]; simp [jLeaB, c42, c50, c64]⟩) (lv_sub hl [0, 1, 2, 3] rfl)
  · refine lv_iload_n hx hb dX8_isLeast_0 rfl (lv_at hl 1 rfl) ?_
    refine lv_aload_n hx hb dX8_isLeast_1 rfl (lv_at hl 0 rfl) ?_
    refine lv_aload_n hx hb dX8_isLeast_2 rfl (lv_at hl 0 rfl) ?_
    refine va_get (D := G.1) (v := .ref (a 5)) hx hb hts hin8 hown hK hP 0 rfl rfl 15 (by decide) hf28 (fun _ h => h) rfl dX8_isLeast_3 ?_
    refine wk_read (va_runV (As := [.ref (a 5)]) (rest := [.int x]) ⟨hx, hb, hml, hown, hts⟩ (c_X8_voices l G a c hc  false) (cwV 1 hts gX8_isLeast_X8_voices rfl rfl rfl hdV_X8_voices ⟨Nat.le_of_ble_eq_true rfl, Nat.le_of_ble_eq_true rfl⟩) (hR.pre (ci := 8) (q0 := 0) rfl rfl) rfl rfl hl.1 rfl (lv_room (Nat.le_of_ble_eq_true rfl)) dX8_isLeast_6 ⟨hrc, hrs⟩) ?_
    refine lv_iconst (v := -1) hx hb dX8_isLeast_9 (by decide) ?_
    refine lv_ixor hx hb dX8_isLeast_10 ?_
    show W _ _ _ _ _ _ _ _ _ _ _ _ _ _ _ (F0 _ _ _ (.int (iv (jVoi (qN c 0) (qSo c) (qS c))) :: _))
    refine lv_iand hx hb dX8_isLeast_11 ?_
    refine lv_if_ne (tgt := 27) hx hb dX8_isLeast_12 (by decide) (fun c12 => ?_) (fun c12 => ?_)
    · refine lv_iconst (v := 0) hx hb dX8_isLeast_27 (by decide) ?_
      exact k28 0 (by simp [b2i, jLea0, c12])
    · refine lv_aload_n hx hb dX8_isLeast_15 rfl (lv_at hl 0 rfl) ?_
      refine lv_iload_n hx hb dX8_isLeast_16 rfl (lv_at hl 1 rfl) ?_
      refine wk_read (va_runV (As := [.int x]) (rest := []) ⟨hx, hb, hml, hown, hts⟩ (c_X8_carries l G a c hc x) (cwV 1 hts gX8_isLeast_X8_carries rfl rfl rfl hdV_X8_carries ⟨Nat.le_of_ble_eq_true rfl, Nat.le_of_ble_eq_true rfl⟩) (hR.pre (ci := 8) (q0 := 0) rfl rfl) rfl rfl hl.1 rfl (lv_room (Nat.le_of_ble_eq_true rfl)) dX8_isLeast_17 ⟨hrc, hrs⟩) ?_
      refine lv_if_eq (tgt := 27) hx hb dX8_isLeast_20 (by decide) (fun c20 => ?_) (fun c20 => ?_)
      · have c20 := b2i_f c20
        refine lv_iconst (v := 0) hx hb dX8_isLeast_27 (by decide) ?_
        exact k28 0 (by simp [b2i, jLea0, c12, c20])
      · have c20 := b2i_t c20
        refine lv_iconst (v := 1) hx hb dX8_isLeast_23 (by decide) ?_
        refine lv_goto (tgt := 28) hx hb dX8_isLeast_24 (by decide) ?_
        exact k28 1 (by simp [b2i, jLea0, c12, c20])
theorem hdV_X8_swaysOf : yX8_swaysOf.cls = RX8 ∧ yX8_swaysOf.cls ≠ "java/lang/invoke/MethodHandle" ∧ yX8_swaysOf.cls ≠ "java/lang/invoke/VarHandle" ∧ (parseMethodDescriptor yX8_swaysOf.desc).map (fun d => d.parameters.length) = some 1 := by decide +kernel
set_option maxHeartbeats 600000 in
set_option maxRecDepth 100000 in
theorem c_X8_swaysOf (l : Launch) (G : GG) (a : Nat → Nat) (c : JX) (hc : OkJ c) (b : Int32) : Met l yX8_swaysOf wsX8_swaysOf ({ frames := 2, cells := 0, slots := 0, locals := 46 }) (va_Pc [.ref (a 0), .int b] (fun U => PreW G (WM G a c) U U.heap)) (QcRead (jSwy (qN c 0) (qSo c) (qVo c) (qBi c) (qS c) b)) 0 0 (fun _ => False) := by
  refine Met.ofW (cc := cX8_swaysOf) (maxL := 7) (ret := (some .int)) (by decide) rfl ?_
  intro p e s m args below meth cd s₁ BB hml hv
  obtain ⟨rfl, hR⟩ := hv
  have hx := BB.exec
  have hb := BB.bytes
  have hr := BB.returns
  have hts := atoms_spec (ws := wsX8_swaysOf) BB.pre
  have hown : s.vm.findClass RX8 = some m.cls := findClass_of_methodNamed BB.named
  have hlocks := BB.notSynchronized
  have hrc : 0 + 0 ≤ (headSpec wsX8_swaysOf ({ frames := 2, cells := 0, slots := 0, locals := 46 })).room.cells := Nat.le_refl _
  have hrs : 0 + 0 ≤ (headSpec wsX8_swaysOf ({ frames := 2, cells := 0, slots := 0, locals := 46 })).room.slots := Nat.le_refl _
  have hP := hR.1
  have hK := hR.2.1
  have hN := hR.2.2
  obtain ⟨hk7, ho1, ho5, hl200, hr6, hu10⟩ := id hc
  have hin8 : ∀ w ∈ u_ws RX8 TX8 24, w ∈ wsX8_swaysOf := by decide +kernel
  have hf13 := hts (.fieldLink RX8 13 "RegaliaVotesModel" "many" "[I") (by decide +kernel)
  have hf28 := hts (.fieldLink RX8 28 "RegaliaVotesModel" "s" "[I") (by decide +kernel)
  refine wk_enter (n := 7) (Nat.le_of_ble_eq_true rfl) (fun ls hl => ?_)
  have hl : lv_has ls 7 [(0, .ref (a 0)), (1, .int b)] := hl
  refine lv_aload_n hx hb dX8_swaysOf_0 rfl (lv_at hl 0 rfl) ?_
  refine lv_aload_n hx hb dX8_swaysOf_1 rfl (lv_at hl 0 rfl) ?_
  refine va_get (D := G.1) (v := .ref (a 5)) hx hb hts hin8 hown hK hP 0 rfl rfl 15 (by decide) hf28 (fun _ h => h) rfl dX8_swaysOf_2 ?_
  refine wk_read (va_runV (As := [.ref (a 5)]) (rest := []) ⟨hx, hb, hml, hown, hts⟩ (c_X8_voices l G a c hc  false) (cwV 1 hts gX8_swaysOf_X8_voices rfl rfl rfl hdV_X8_voices ⟨Nat.le_of_ble_eq_true rfl, Nat.le_of_ble_eq_true rfl⟩) (hR.pre (ci := 8) (q0 := 0) rfl rfl) rfl rfl hl.1 rfl (lv_room (Nat.le_of_ble_eq_true rfl)) dX8_swaysOf_5 ⟨hrc, hrs⟩) ?_
  refine lv_istore_n (lv' := [(2, .int (jVoi (qN c 0) (qSo c) (qS c))), (0, .ref (a 0)), (1, .int b)]) hx hb dX8_swaysOf_8 rfl hl (by decide) rfl (fun ls hl => ?_)
  refine lv_aload_n hx hb dX8_swaysOf_9 rfl (lv_at hl 1 rfl) ?_
  refine lv_aload_n hx hb dX8_swaysOf_10 rfl (lv_at hl 1 rfl) ?_
  refine va_get (D := G.1) (v := .ref (a 5)) hx hb hts hin8 hown hK hP 0 rfl rfl 15 (by decide) hf28 (fun _ h => h) rfl dX8_swaysOf_11 ?_
  refine lv_iload_n hx hb dX8_swaysOf_14 rfl (lv_at hl 2 rfl) ?_
  refine wk_read (va_runV (As := [.ref (a 5), .int b]) (rest := []) ⟨hx, hb, hml, hown, hts⟩ (c_X8_saysYes l G a c hc b false) (cwV 2 hts gX8_swaysOf_X8_saysYes rfl rfl rfl hdV_X8_saysYes ⟨Nat.le_of_ble_eq_true rfl, Nat.le_of_ble_eq_true rfl⟩) (hR.pre (ci := 8) (q0 := 0) rfl rfl) rfl rfl hl.1 rfl (lv_room (Nat.le_of_ble_eq_true rfl)) dX8_swaysOf_15 ⟨hrc, hrs⟩) ?_
  refine lv_istore_n (lv' := [(3, .int (jYes (qN c 0) (qBi c) (qS c) b)), (2, .int (jVoi (qN c 0) (qSo c) (qS c))), (0, .ref (a 0)), (1, .int b)]) hx hb dX8_swaysOf_18 rfl hl (by decide) rfl (fun ls hl => ?_)
  refine lv_iconst (v := 0) hx hb dX8_swaysOf_19 (by decide) ?_
  refine lv_istore (lv' := [(4, .int 0), (3, .int (jYes (qN c 0) (qBi c) (qS c) b)), (2, .int (jVoi (qN c 0) (qSo c) (qS c))), (0, .ref (a 0)), (1, .int b)]) hx hb dX8_swaysOf_20 hl (by decide) rfl (fun ls hl => ?_)
  refine lv_iconst (v := 0) hx hb dX8_swaysOf_22 (by decide) ?_
  refine lv_istore (lv' := [(5, .int 0), (4, .int 0), (3, .int (jYes (qN c 0) (qBi c) (qS c) b)), (2, .int (jVoi (qN c 0) (qSo c) (qS c))), (0, .ref (a 0)), (1, .int b)]) hx hb dX8_swaysOf_23 hl (by decide) rfl (fun ls hl => ?_)
  refine wk_loop (σ := Nat × Int32) (nL := 7) (fun xσ n => match xσ with | (i, z) => i + n = qN c 0 ∧ z = jSwyF (qN c 0) (qVo c) (jVoi (qN c 0) (qSo c) (qS c)) (jYes (qN c 0) (qBi c) (qS c) b) i) (fun xσ => match xσ with | (i, z) => [(5, .int (nI i)), (4, .int z), (3, .int (jYes (qN c 0) (qBi c) (qS c) b)), (2, .int (jVoi (qN c 0) (qSo c) (qS c))), (0, .ref (a 0)), (1, .int b)]) (0, 0) (qN c 0) (⟨by omega, rfl⟩) hl ?_
  rintro n25 ⟨i, z⟩ ls hI25 hl ih25
  have hl : lv_has ls 7 [(5, .int (nI i)), (4, .int z), (3, .int (jYes (qN c 0) (qBi c) (qS c) b)), (2, .int (jVoi (qN c 0) (qSo c) (qS c))), (0, .ref (a 0)), (1, .int b)] := hl
  obtain ⟨hi, hz⟩ := hI25
  refine lv_iload hx hb dX8_swaysOf_25 (lv_at hl 0 rfl) ?_
  refine lv_aload_n hx hb dX8_swaysOf_27 rfl (lv_at hl 4 rfl) ?_
  refine va_get (D := G.1) (v := .ref (a 1)) hx hb hts hin8 hown hK hP 0 rfl rfl 9 (by decide) hf13 (fun _ h => h) rfl dX8_swaysOf_28 ?_
  refine lv_iconst (v := 0) hx hb dX8_swaysOf_31 (by decide) ?_
  refine wk_iald (i := 0) hx hb hK hP 1 1 rfl rfl (by omega) (Nat.le_of_ble_eq_true rfl) dX8_swaysOf_32 ?_
  refine wk_ge (x := i) (y := (qN c 0)) (tgt := 99) hx hb (by omega) (by omega) dX8_swaysOf_33 (by decide) (fun c33 => ?_) (fun c33 => ?_)
  · refine lv_iload hx hb dX8_swaysOf_99 (lv_at hl 1 rfl) ?_
    exact wk_ret hx hb hr hlocks dX8_swaysOf_101 (by rw [hz, show i = qN c 0 by omega]; rfl)
  · refine lv_iload_n hx hb dX8_swaysOf_36 rfl (lv_at hl 3 rfl) ?_
    refine lv_iload hx hb dX8_swaysOf_37 (lv_at hl 0 rfl) ?_
    refine lv_ishr hx hb dX8_swaysOf_39 ?_
    refine lv_iconst (v := 1) hx hb dX8_swaysOf_40 (by decide) ?_
    refine lv_iand hx hb dX8_swaysOf_41 ?_
    show W _ _ _ _ _ _ _ _ _ _ _ _ _ _ _ (F0 _ _ _ (.int (bitI (jVoi (qN c 0) (qSo c) (qS c)) (nI i)) :: _))
    refine lv_iconst (v := 1) hx hb dX8_swaysOf_42 (by decide) ?_
    refine lv_icmp_ne (tgt := 72) hx hb dX8_swaysOf_43 (by decide) (fun c43 => ?_) (fun c43 => ?_)
    · refine lv_iconst (v := 0) hx hb dX8_swaysOf_72 (by decide) ?_
      refine lv_istore (lv' := [(6, .int 0), (5, .int (nI i)), (4, .int z), (3, .int (jYes (qN c 0) (qBi c) (qS c) b)), (2, .int (jVoi (qN c 0) (qSo c) (qS c))), (0, .ref (a 0)), (1, .int b)]) hx hb dX8_swaysOf_73 hl (by decide) rfl (fun ls hl => ?_)
      refine lv_iload hx hb dX8_swaysOf_75 (lv_at hl 2 rfl) ?_
      refine lv_iload hx hb dX8_swaysOf_77 (lv_at hl 0 rfl) ?_
      refine lv_if_eq (tgt := 89) hx hb dX8_swaysOf_79 (by decide) (fun c79 => ?_) (fun c79 => ?_)
      · refine lv_iconst (v := 0) hx hb dX8_swaysOf_89 (by decide) ?_
        refine lv_ior hx hb dX8_swaysOf_90 ?_
        refine lv_istore (lv' := [(4, .int (z ||| 0)), (6, .int 0), (5, .int (nI i)), (3, .int (jYes (qN c 0) (qBi c) (qS c) b)), (2, .int (jVoi (qN c 0) (qSo c) (qS c))), (0, .ref (a 0)), (1, .int b)]) hx hb dX8_swaysOf_91 hl (by decide) rfl (fun ls hl => ?_)
        refine lv_iinc (v := (nI (i + 1))) (lv' := [(5, .int (nI (i + 1))), (4, .int (z ||| 0)), (6, .int 0), (3, .int (jYes (qN c 0) (qBi c) (qS c) b)), (2, .int (jVoi (qN c 0) (qSo c) (qS c))), (0, .ref (a 0)), (1, .int b)]) hx hb dX8_swaysOf_93 hl (k := 2) rfl (wk_i1 i) (by decide) rfl (fun ls hl => ?_)
        refine lv_goto (tgt := 25) hx hb dX8_swaysOf_96 (by decide) ?_
        exact ih25 (i + 1, (z ||| 0)) (n25 - 1) ls (by omega) (⟨by omega, by rw [hz]; simp [jSwyF, jSwyB, fo_s, c33, c43]⟩) (lv_sub hl [0, 1, 3, 4, 5, 6] rfl)
      · exact absurd c79 (by decide)
    · refine lv_aload_n hx hb dX8_swaysOf_46 rfl (lv_at hl 4 rfl) ?_
      refine lv_iload_n hx hb dX8_swaysOf_47 rfl (lv_at hl 3 rfl) ?_
      refine lv_iconst (v := 1) hx hb dX8_swaysOf_48 (by decide) ?_
      refine lv_iload hx hb dX8_swaysOf_49 (lv_at hl 0 rfl) ?_
      refine lv_ishl hx hb dX8_swaysOf_51 ?_
      show W _ _ _ _ _ _ _ _ _ _ _ _ _ _ _ (F0 _ _ _ (.int (sh1 (nI i)) :: _))
      refine lv_iconst (v := -1) hx hb dX8_swaysOf_52 (by decide) ?_
      refine lv_ixor hx hb dX8_swaysOf_53 ?_
      show W _ _ _ _ _ _ _ _ _ _ _ _ _ _ _ (F0 _ _ _ (.int (iv (sh1 (nI i))) :: _))
      refine lv_iand hx hb dX8_swaysOf_54 ?_
      refine lv_iload_n hx hb dX8_swaysOf_55 rfl (lv_at hl 2 rfl) ?_
      refine wk_read (va_runV (As := [.int ((jVoi (qN c 0) (qSo c) (qS c)) &&& (iv (sh1 (nI i)))), .int (jYes (qN c 0) (qBi c) (qS c) b)]) (rest := []) ⟨hx, hb, hml, hown, hts⟩ (c_X8_passesBy l G a c hc ((jVoi (qN c 0) (qSo c) (qS c)) &&& (iv (sh1 (nI i)))) (jYes (qN c 0) (qBi c) (qS c) b)) (cwV 2 hts gX8_swaysOf_X8_passesBy rfl rfl rfl hdV_X8_passesBy ⟨Nat.le_of_ble_eq_true rfl, Nat.le_of_ble_eq_true rfl⟩) (hR.pre (ci := 8) (q0 := 0) rfl rfl) rfl rfl hl.1 rfl (lv_room (Nat.le_of_ble_eq_true rfl)) dX8_swaysOf_56 ⟨hrc, hrs⟩) ?_
      refine lv_aload_n hx hb dX8_swaysOf_59 rfl (lv_at hl 4 rfl) ?_
      refine lv_iload_n hx hb dX8_swaysOf_60 rfl (lv_at hl 3 rfl) ?_
      refine lv_iload_n hx hb dX8_swaysOf_61 rfl (lv_at hl 2 rfl) ?_
      refine wk_read (va_runV (As := [.int (jVoi (qN c 0) (qSo c) (qS c)), .int (jYes (qN c 0) (qBi c) (qS c) b)]) (rest := [.int (b2i (jPBy (qN c 0) (qVo c) ((jVoi (qN c 0) (qSo c) (qS c)) &&& (iv (sh1 (nI i)))) (jYes (qN c 0) (qBi c) (qS c) b)))]) ⟨hx, hb, hml, hown, hts⟩ (c_X8_passesBy l G a c hc (jVoi (qN c 0) (qSo c) (qS c)) (jYes (qN c 0) (qBi c) (qS c) b)) (cwV 2 hts gX8_swaysOf_X8_passesBy rfl rfl rfl hdV_X8_passesBy ⟨Nat.le_of_ble_eq_true rfl, Nat.le_of_ble_eq_true rfl⟩) (hR.pre (ci := 8) (q0 := 0) rfl rfl) rfl rfl hl.1 rfl (lv_room (Nat.le_of_ble_eq_true rfl)) dX8_swaysOf_62 ⟨hrc, hrs⟩) ?_
      refine lv_icmp_eq (tgt := 72) hx hb dX8_swaysOf_65 (by decide) (fun c65 => ?_) (fun c65 => ?_)
      · have c65 := b2i_inj c65
        refine lv_iconst (v := 0) hx hb dX8_swaysOf_72 (by decide) ?_
        refine lv_istore (lv' := [(6, .int 0), (5, .int (nI i)), (4, .int z), (3, .int (jYes (qN c 0) (qBi c) (qS c) b)), (2, .int (jVoi (qN c 0) (qSo c) (qS c))), (0, .ref (a 0)), (1, .int b)]) hx hb dX8_swaysOf_73 hl (by decide) rfl (fun ls hl => ?_)
        refine lv_iload hx hb dX8_swaysOf_75 (lv_at hl 2 rfl) ?_
        refine lv_iload hx hb dX8_swaysOf_77 (lv_at hl 0 rfl) ?_
        refine lv_if_eq (tgt := 89) hx hb dX8_swaysOf_79 (by decide) (fun c79 => ?_) (fun c79 => ?_)
        · refine lv_iconst (v := 0) hx hb dX8_swaysOf_89 (by decide) ?_
          refine lv_ior hx hb dX8_swaysOf_90 ?_
          refine lv_istore (lv' := [(4, .int (z ||| 0)), (6, .int 0), (5, .int (nI i)), (3, .int (jYes (qN c 0) (qBi c) (qS c) b)), (2, .int (jVoi (qN c 0) (qSo c) (qS c))), (0, .ref (a 0)), (1, .int b)]) hx hb dX8_swaysOf_91 hl (by decide) rfl (fun ls hl => ?_)
          refine lv_iinc (v := (nI (i + 1))) (lv' := [(5, .int (nI (i + 1))), (4, .int (z ||| 0)), (6, .int 0), (3, .int (jYes (qN c 0) (qBi c) (qS c) b)), (2, .int (jVoi (qN c 0) (qSo c) (qS c))), (0, .ref (a 0)), (1, .int b)]) hx hb dX8_swaysOf_93 hl (k := 2) rfl (wk_i1 i) (by decide) rfl (fun ls hl => ?_)
          refine lv_goto (tgt := 25) hx hb dX8_swaysOf_96 (by decide) ?_
          exact ih25 (i + 1, (z ||| 0)) (n25 - 1) ls (by omega) (⟨by omega, by rw [hz]; simp [jSwyF, jSwyB, fo_s, c33, c43, c65]⟩) (lv_sub hl [0, 1, 3, 4, 5, 6] rfl)
        · exact absurd c79 (by decide)
      · have c65 := b2i_ninj c65
        refine lv_iconst (v := 1) hx hb dX8_swaysOf_68 (by decide) ?_
        refine lv_goto (tgt := 73) hx hb dX8_swaysOf_69 (by decide) ?_
        refine lv_istore (lv' := [(6, .int 1), (5, .int (nI i)), (4, .int z), (3, .int (jYes (qN c 0) (qBi c) (qS c) b)), (2, .int (jVoi (qN c 0) (qSo c) (qS c))), (0, .ref (a 0)), (1, .int b)]) hx hb dX8_swaysOf_73 hl (by decide) rfl (fun ls hl => ?_)
        refine lv_iload hx hb dX8_swaysOf_75 (lv_at hl 2 rfl) ?_
        refine lv_iload hx hb dX8_swaysOf_77 (lv_at hl 0 rfl) ?_
        refine lv_if_eq (tgt := 89) hx hb dX8_swaysOf_79 (by decide) (fun c79 => ?_) (fun c79 => ?_)
        · exact absurd c79 (by decide)
        · refine lv_iconst (v := 1) hx hb dX8_swaysOf_82 (by decide) ?_
          refine lv_iload hx hb dX8_swaysOf_83 (lv_at hl 1 rfl) ?_
          refine lv_ishl hx hb dX8_swaysOf_85 ?_
          show W _ _ _ _ _ _ _ _ _ _ _ _ _ _ _ (F0 _ _ _ (.int (sh1 (nI i)) :: _))
          refine lv_goto (tgt := 90) hx hb dX8_swaysOf_86 (by decide) ?_
          refine lv_ior hx hb dX8_swaysOf_90 ?_
          refine lv_istore (lv' := [(4, .int (z ||| (sh1 (nI i)))), (6, .int 1), (5, .int (nI i)), (3, .int (jYes (qN c 0) (qBi c) (qS c) b)), (2, .int (jVoi (qN c 0) (qSo c) (qS c))), (0, .ref (a 0)), (1, .int b)]) hx hb dX8_swaysOf_91 hl (by decide) rfl (fun ls hl => ?_)
          refine lv_iinc (v := (nI (i + 1))) (lv' := [(5, .int (nI (i + 1))), (4, .int (z ||| (sh1 (nI i)))), (6, .int 1), (3, .int (jYes (qN c 0) (qBi c) (qS c) b)), (2, .int (jVoi (qN c 0) (qSo c) (qS c))), (0, .ref (a 0)), (1, .int b)]) hx hb dX8_swaysOf_93 hl (k := 2) rfl (wk_i1 i) (by decide) rfl (fun ls hl => ?_)
          refine lv_goto (tgt := 25) hx hb dX8_swaysOf_96 (by decide) ?_
          exact ih25 (i + 1, (z ||| (sh1 (nI i)))) (n25 - 1) ls (by omega) (⟨by omega, by rw [hz]; simp [jSwyF, jSwyB, fo_s, c33, c43, c65]⟩) (lv_sub hl [0, 1, 3, 4, 5, 6] rfl)
theorem hdV_X8_isAsRecorded : yX8_isAsRecorded.cls = RX8 ∧ yX8_isAsRecorded.cls ≠ "java/lang/invoke/MethodHandle" ∧ yX8_isAsRecorded.cls ≠ "java/lang/invoke/VarHandle" ∧ (parseMethodDescriptor yX8_isAsRecorded.desc).map (fun d => d.parameters.length) = some 1 := by decide +kernel
set_option maxHeartbeats 600000 in
set_option maxRecDepth 100000 in
theorem c_X8_isAsRecorded (l : Launch) (G : GG) (a : Nat → Nat) (c : JX) (hc : OkJ c) (q : Bool) : Met l yX8_isAsRecorded wsX8_isAsRecorded ({ frames := 3, cells := 0, slots := 0, locals := 68 }) (va_Pc [.ref (a 0), .ref (a (rP q))] (fun U => PreW G (WM G a c) U U.heap)) (QcRead (b2i (jRec (qN c 0) (qSo c) (qVo c) (qBi c) (rF c q) (qRb c) (qRi c) (qRm c)))) 0 0 (fun _ => False) := by
  refine Met.ofW (cc := cX8_isAsRecorded) (maxL := 4) (ret := (some .boolean)) (by decide) rfl ?_
  intro p e s m args below meth cd s₁ BB hml hv
  obtain ⟨rfl, hR⟩ := hv
  have hx := BB.exec
  have hb := BB.bytes
  have hr := BB.returns
  have hts := atoms_spec (ws := wsX8_isAsRecorded) BB.pre
  have hown : s.vm.findClass RX8 = some m.cls := findClass_of_methodNamed BB.named
  have hlocks := BB.notSynchronized
  have hrc : 0 + 0 ≤ (headSpec wsX8_isAsRecorded ({ frames := 3, cells := 0, slots := 0, locals := 68 })).room.cells := Nat.le_refl _
  have hrs : 0 + 0 ≤ (headSpec wsX8_isAsRecorded ({ frames := 3, cells := 0, slots := 0, locals := 68 })).room.slots := Nat.le_refl _
  have hP := hR.1
  have hK := hR.2.1
  have hN := hR.2.2
  obtain ⟨hk7, ho1, ho5, hl200, hr6, hu10⟩ := id hc
  have hin8 : ∀ w ∈ u_ws RX8 TX8 24, w ∈ wsX8_isAsRecorded := by decide +kernel
  have hf44 := hts (.fieldLink RX8 44 "RegaliaVotesModel" "recordBill" "[I") (by decide +kernel)
  have hf47 := hts (.fieldLink RX8 47 "RegaliaVotesModel" "recordIs" "[I") (by decide +kernel)
  have hf106 := hts (.fieldLink RX8 106 "RegaliaVotesModel" "recordMany" "I") (by decide +kernel)
  refine wk_enter (n := 4) (Nat.le_of_ble_eq_true rfl) (fun ls hl => ?_)
  have hl : lv_has ls 4 [(0, .ref (a 0)), (1, .ref (a (rP q)))] := hl
  refine lv_iconst (v := 1) hx hb dX8_isAsRecorded_0 (by decide) ?_
  refine lv_istore_n (lv' := [(2, .int 1), (0, .ref (a 0)), (1, .ref (a (rP q)))]) hx hb dX8_isAsRecorded_1 rfl hl (by decide) rfl (fun ls hl => ?_)
  refine lv_iconst (v := 0) hx hb dX8_isAsRecorded_2 (by decide) ?_
  refine lv_istore_n (lv' := [(3, .int 0), (2, .int 1), (0, .ref (a 0)), (1, .ref (a (rP q)))]) hx hb dX8_isAsRecorded_3 rfl hl (by decide) rfl (fun ls hl => ?_)
  refine wk_loop (σ := Nat × Bool) (nL := 4) (fun xσ n => match xσ with | (i, z) => i + n = qRm c ∧ z = allB (jRecB (qN c 0) (qSo c) (qVo c) (qBi c) (rF c q) (qRb c) (qRi c)) i) (fun xσ => match xσ with | (i, z) => [(3, .int (nI i)), (2, .int (b2i z)), (0, .ref (a 0)), (1, .ref (a (rP q)))]) (0, true) (qRm c) (⟨by omega, rfl⟩) hl ?_
  rintro n4 ⟨i, z⟩ ls hI4 hl ih4
  have hl : lv_has ls 4 [(3, .int (nI i)), (2, .int (b2i z)), (0, .ref (a 0)), (1, .ref (a (rP q)))] := hl
  obtain ⟨hi, hz⟩ := hI4
  refine lv_iload_n hx hb dX8_isAsRecorded_4 rfl (lv_at hl 0 rfl) ?_
  refine lv_aload_n hx hb dX8_isAsRecorded_5 rfl (lv_at hl 2 rfl) ?_
  refine va_get (D := G.1) (v := .int (nI (qRm c))) hx hb hts hin8 hown hK hP 0 rfl rfl 23 (by decide) hf106 (fun _ h => h) rfl dX8_isAsRecorded_6 ?_
  refine wk_ge (x := i) (y := (qRm c)) (tgt := 57) hx hb (by omega) (by omega) dX8_isAsRecorded_9 (by decide) (fun c9 => ?_) (fun c9 => ?_)
  · refine lv_iload_n hx hb dX8_isAsRecorded_57 rfl (lv_at hl 1 rfl) ?_
    exact wk_zret hx hb hr hlocks dX8_isAsRecorded_58 (b2i_nar _) (by rw [hz, show i = qRm c by omega]; rfl)
  · refine lv_iload_n hx hb dX8_isAsRecorded_12 rfl (lv_at hl 1 rfl) ?_
    refine lv_if_eq (tgt := 49) hx hb dX8_isAsRecorded_13 (by decide) (fun c13 => ?_) (fun c13 => ?_)
    · have c13 := b2i_f c13
      refine lv_iconst (v := 0) hx hb dX8_isAsRecorded_49 (by decide) ?_
      refine lv_istore_n (lv' := [(2, .int 0), (3, .int (nI i)), (0, .ref (a 0)), (1, .ref (a (rP q)))]) hx hb dX8_isAsRecorded_50 rfl hl (by decide) rfl (fun ls hl => ?_)
      refine lv_iinc (v := (nI (i + 1))) (lv' := [(3, .int (nI (i + 1))), (2, .int 0), (0, .ref (a 0)), (1, .ref (a (rP q)))]) hx hb dX8_isAsRecorded_51 hl (k := 1) rfl (wk_i1 i) (by decide) rfl (fun ls hl => ?_)
      refine lv_goto (tgt := 4) hx hb dX8_isAsRecorded_54 (by decide) ?_
      exact ih4 (i + 1, false) (n4 - 1) ls (by omega) (⟨by omega, by rw [allB, ← hz]; simp [jRecB, c13]⟩) (lv_sub hl [0, 1, 2, 3] rfl)
    · have c13 := b2i_t c13
      refine lv_aload_n hx hb dX8_isAsRecorded_16 rfl (lv_at hl 2 rfl) ?_
      refine lv_aload_n hx hb dX8_isAsRecorded_17 rfl (lv_at hl 3 rfl) ?_
      refine lv_aload_n hx hb dX8_isAsRecorded_18 rfl (lv_at hl 2 rfl) ?_
      refine va_get (D := G.1) (v := .ref (a 7)) hx hb hts hin8 hown hK hP 0 rfl rfl 21 (by decide) hf44 (fun _ h => h) rfl dX8_isAsRecorded_19 ?_
      refine lv_iload_n hx hb dX8_isAsRecorded_22 rfl (lv_at hl 0 rfl) ?_
      refine wk_iald (i := i) hx hb hK hP 7 1 rfl rfl (by omega) (Nat.le_of_ble_eq_true rfl) dX8_isAsRecorded_23 ?_
      refine wk_read (va_runV (As := [.ref (a (rP q)), .int (qRb c i)]) (rest := []) ⟨hx, hb, hml, hown, hts⟩ (c_X8_passes l G a c hc (qRb c i) q) (cwV 2 hts gX8_isAsRecorded_X8_passes rfl rfl rfl hdV_X8_passes ⟨Nat.le_of_ble_eq_true rfl, Nat.le_of_ble_eq_true rfl⟩) (hR.pre (ci := 8) (q0 := 0) rfl rfl) rfl rfl hl.1 rfl (lv_room (Nat.le_of_ble_eq_true rfl)) dX8_isAsRecorded_24 ⟨hrc, hrs⟩) ?_
      refine lv_aload_n hx hb dX8_isAsRecorded_27 rfl (lv_at hl 2 rfl) ?_
      refine va_get (D := G.1) (v := .ref (a 8)) hx hb hts hin8 hown hK hP 0 rfl rfl 22 (by decide) hf47 (fun _ h => h) rfl dX8_isAsRecorded_28 ?_
      refine lv_iload_n hx hb dX8_isAsRecorded_31 rfl (lv_at hl 0 rfl) ?_
      refine wk_iald (i := i) hx hb hK hP 8 1 rfl rfl (by omega) (Nat.le_of_ble_eq_true rfl) dX8_isAsRecorded_32 ?_
      refine lv_iconst (v := 1) hx hb dX8_isAsRecorded_33 (by decide) ?_
      refine lv_icmp_ne (tgt := 41) hx hb dX8_isAsRecorded_34 (by decide) (fun c34 => ?_) (fun c34 => ?_)
      · refine lv_iconst (v := 0) hx hb dX8_isAsRecorded_41 (by decide) ?_
        refine lv_icmp_ne (tgt := 49) hx hb dX8_isAsRecorded_42 (by decide) (fun c42 => ?_) (fun c42 => ?_)
        · have c42 := b2i_ninj (y := false) c42
          refine lv_iconst (v := 0) hx hb dX8_isAsRecorded_49 (by decide) ?_
          refine lv_istore_n (lv' := [(2, .int 0), (3, .int (nI i)), (0, .ref (a 0)), (1, .ref (a (rP q)))]) hx hb dX8_isAsRecorded_50 rfl hl (by decide) rfl (fun ls hl => ?_)
          refine lv_iinc (v := (nI (i + 1))) (lv' := [(3, .int (nI (i + 1))), (2, .int 0), (0, .ref (a 0)), (1, .ref (a (rP q)))]) hx hb dX8_isAsRecorded_51 hl (k := 1) rfl (wk_i1 i) (by decide) rfl (fun ls hl => ?_)
          refine lv_goto (tgt := 4) hx hb dX8_isAsRecorded_54 (by decide) ?_
          exact ih4 (i + 1, false) (n4 - 1) ls (by omega) (⟨by omega, by rw [allB, ← hz]; simp [jRecB, c13, c34, c42]⟩) (lv_sub hl [0, 1, 2, 3] rfl)
        · have c42 := b2i_inj (y := false) c42
          refine lv_iconst (v := 1) hx hb dX8_isAsRecorded_45 (by decide) ?_
          refine lv_goto (tgt := 50) hx hb dX8_isAsRecorded_46 (by decide) ?_
          refine lv_istore_n (lv' := [(2, .int 1), (3, .int (nI i)), (0, .ref (a 0)), (1, .ref (a (rP q)))]) hx hb dX8_isAsRecorded_50 rfl hl (by decide) rfl (fun ls hl => ?_)
          refine lv_iinc (v := (nI (i + 1))) (lv' := [(3, .int (nI (i + 1))), (2, .int 1), (0, .ref (a 0)), (1, .ref (a (rP q)))]) hx hb dX8_isAsRecorded_51 hl (k := 1) rfl (wk_i1 i) (by decide) rfl (fun ls hl => ?_)
          refine lv_goto (tgt := 4) hx hb dX8_isAsRecorded_54 (by decide) ?_
          exact ih4 (i + 1, true) (n4 - 1) ls (by omega) (⟨by omega, by rw [allB, ← hz]; simp [jRecB, c13, c34, c42]⟩) (lv_sub hl [0, 1, 2, 3] rfl)
      · refine lv_iconst (v := 1) hx hb dX8_isAsRecorded_37 (by decide) ?_
        refine lv_goto (tgt := 42) hx hb dX8_isAsRecorded_38 (by decide) ?_
        refine lv_icmp_ne (tgt := 49) hx hb dX8_isAsRecorded_42 (by decide) (fun c42 => ?_) (fun c42 => ?_)
        · have c42 := b2i_ninj (y := true) c42
          refine lv_iconst (v := 0) hx hb dX8_isAsRecorded_49 (by decide) ?_
          refine lv_istore_n (lv' := [(2, .int 0), (3, .int (nI i)), (0, .ref (a 0)), (1, .ref (a (rP q)))]) hx hb dX8_isAsRecorded_50 rfl hl (by decide) rfl (fun ls hl => ?_)
          refine lv_iinc (v := (nI (i + 1))) (lv' := [(3, .int (nI (i + 1))), (2, .int 0), (0, .ref (a 0)), (1, .ref (a (rP q)))]) hx hb dX8_isAsRecorded_51 hl (k := 1) rfl (wk_i1 i) (by decide) rfl (fun ls hl => ?_)
          refine lv_goto (tgt := 4) hx hb dX8_isAsRecorded_54 (by decide) ?_
          exact ih4 (i + 1, false) (n4 - 1) ls (by omega) (⟨by omega, by rw [allB, ← hz]; simp [jRecB, c13, c34, c42]⟩) (lv_sub hl [0, 1, 2, 3] rfl)
        · have c42 := b2i_inj (y := true) c42
          refine lv_iconst (v := 1) hx hb dX8_isAsRecorded_45 (by decide) ?_
          refine lv_goto (tgt := 50) hx hb dX8_isAsRecorded_46 (by decide) ?_
          refine lv_istore_n (lv' := [(2, .int 1), (3, .int (nI i)), (0, .ref (a 0)), (1, .ref (a (rP q)))]) hx hb dX8_isAsRecorded_50 rfl hl (by decide) rfl (fun ls hl => ?_)
          refine lv_iinc (v := (nI (i + 1))) (lv' := [(3, .int (nI (i + 1))), (2, .int 1), (0, .ref (a 0)), (1, .ref (a (rP q)))]) hx hb dX8_isAsRecorded_51 hl (k := 1) rfl (wk_i1 i) (by decide) rfl (fun ls hl => ?_)
          refine lv_goto (tgt := 4) hx hb dX8_isAsRecorded_54 (by decide) ?_
          exact ih4 (i + 1, true) (n4 - 1) ls (by omega) (⟨by omega, by rw [allB, ← hz]; simp [jRecB, c13, c34, c42]⟩) (lv_sub hl [0, 1, 2, 3] rfl)

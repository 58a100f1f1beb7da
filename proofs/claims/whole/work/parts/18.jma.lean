theorem hdV_X8_type : yX8_type.cls = RX8 ∧ yX8_type.cls ≠ "java/lang/invoke/MethodHandle" ∧ yX8_type.cls ≠ "java/lang/invoke/VarHandle" ∧ (parseMethodDescriptor yX8_type.desc).map (fun d => d.parameters.length) = some 1 := by decide +kernel
set_option maxHeartbeats 600000 in
set_option maxRecDepth 100000 in
theorem c_X8_type (l : Launch) (G : GG) (a : Nat → Nat) (c : JX) (hc : OkJ c) (u : Int32) (sz : Nat) : Met l yX8_type wsX8_type ({ frames := 1, cells := 0, slots := 0, locals := 22 }) (va_Pc [.ref (a 0), .int u] (fun U => PreM G (WM G a c) sz U U.heap)) (Qm G.1 vwCl (some (.int (yType c u).1)) (WM G a ((yType c u).2)) (va_A (WM G a c) sz)) 0 0 (va_A (WM G a c) sz) := by
  refine Met.ofW (cc := cX8_type) (maxL := 2) (ret := (some .int)) (by decide) rfl ?_
  intro p e s m args below meth cd s₁ BB hml hv
  obtain ⟨rfl, ⟨hP, hK, hN⟩, hD0, hsz⟩ := hv
  have hx := BB.exec
  have hb := BB.bytes
  have hr := BB.returns
  have hts := atoms_spec (ws := wsX8_type) BB.pre
  have hown : s.vm.findClass RX8 = some m.cls := findClass_of_methodNamed BB.named
  have hlocks := BB.notSynchronized
  have hrc : 0 + 0 ≤ (headSpec wsX8_type ({ frames := 1, cells := 0, slots := 0, locals := 22 })).room.cells := Nat.le_refl _
  have hrs : 0 + 0 ≤ (headSpec wsX8_type ({ frames := 1, cells := 0, slots := 0, locals := 22 })).room.slots := Nat.le_refl _
  subst hsz
  have hD := hD0.self (sz := s.heap.size)
  generalize hAe : va_A (WM G a c) s.heap.size = A at hD ⊢
  have hA : ∀ q : Nat, s.heap.size ≤ q → A q := fun q h => by rw [← hAe]; exact Or.inr h
  have hS : va_S A s.heap s.heap [] := va_S.rf
  obtain ⟨hk7, ho1, ho5, hl200, hr6, hu10⟩ := id hc
  have hin8 : ∀ w ∈ u_ws RX8 TX8 24, w ∈ wsX8_type := by decide +kernel
  have hf7 := hts (.fieldLink RX8 7 "RegaliaVotesModel" "text" "[I") (by decide +kernel)
  have hf50 := hts (.fieldLink RX8 50 "RegaliaVotesModel" "thrown" "I") (by decide +kernel)
  have hf58 := hts (.fieldLink RX8 58 "RegaliaVotesModel" "typed" "I") (by decide +kernel)
  refine wk_enter (n := 2) (Nat.le_of_ble_eq_true rfl) (fun ls hl => ?_)
  have hl : lv_has ls 2 [(0, .ref (a 0)), (1, .int u)] := hl
  refine lv_aload_n hx hb dX8_type_0 rfl (lv_at hl 0 rfl) ?_
  refine lv_iconst (v := 0) hx hb dX8_type_1 (by decide) ?_
  refine va_put (D := G.1) (v := .int 0) (ty := .int) hx hb hts hin8 tyX8 tyX8_ok nmX8 hown hK hP hD hS 0 (WM_0 G a c) rfl 0 (by decide) hf50 (fun _ h => h) rfl (by decide +kernel) rfl rfl (Nat.le_of_ble_eq_true rfl) dX8_type_2 (fun H locs hP hD hS => ?_)
  rw [WM_p0_0] at hP hD
  refine lv_iload_n hx hb dX8_type_5 rfl (lv_at hl 1 rfl) ?_
  refine lv_iconst (v := 0) hx hb dX8_type_6 (by decide) ?_
  refine lv_sipush (v := 255) hx hb dX8_type_7 (by decide) ?_
  refine wk_read (va_runS (As := [.int u, .int 0, .int 255]) (rest := []) ⟨hx, hb, hml, hown, hts⟩ (c_X8_in l u 0 255) (va_cwS 3 hts gX8_type_X8_in rfl rfl rfl hdS_X8_in ⟨Nat.le_of_ble_eq_true rfl, Nat.le_of_ble_eq_true rfl⟩) preEq rfl rfl hl.1 rfl (lv_room (Nat.le_of_ble_eq_true rfl)) dX8_type_10 ⟨hrc, hrs⟩) ?_
  refine lv_if_ne (tgt := 18) hx hb dX8_type_13 (by decide) (fun c13 => ?_) (fun c13 => ?_)
  · have c13 := b2i_t c13
    refine lv_aload_n hx hb dX8_type_18 rfl (lv_at hl 0 rfl) ?_
    refine va_get (D := G.1) (v := .int (nI (qTy c))) hx hb hts hin8 hown hK hP 0 (WM_0 G a c) rfl 3 (by decide) hf58 (fun _ h => h) rfl dX8_type_19 ?_
    refine lv_sipush (v := 200) hx hb dX8_type_22 (by decide) ?_
    refine wk_ne (x := (qTy c)) (y := 200) (tgt := 31) hx hb (by omega) (by omega) dX8_type_25 (by decide) (fun c25 => ?_) (fun c25 => ?_)
    · refine lv_aload_n hx hb dX8_type_31 rfl (lv_at hl 0 rfl) ?_
      refine va_get (D := G.1) (v := .ref (a 9)) hx hb hts hin8 hown hK hP 0 (WM_0 G a c) rfl 2 (by decide) hf7 (fun _ h => h) rfl dX8_type_32 ?_
      refine lv_aload_n hx hb dX8_type_35 rfl (lv_at hl 0 rfl) ?_
      refine va_get (D := G.1) (v := .int (nI (qTy c))) hx hb hts hin8 hown hK hP 0 (WM_0 G a c) rfl 3 (by decide) hf58 (fun _ h => h) rfl dX8_type_36 ?_
      refine lv_iload_n hx hb dX8_type_39 rfl (lv_at hl 1 rfl) ?_
      refine wk_iast (i := (qTy c)) hx hb hK hP hD hS 9 1 (WM_9 G a c) rfl (by omega) (Nat.le_of_ble_eq_true rfl) dX8_type_40 (fun H locs hP hD hS => ?_)
      rw [WM_p9] at hP hD
      refine lv_aload_n hx hb dX8_type_41 rfl (lv_at hl 0 rfl) ?_
      refine lv_dup hx hb dX8_type_42 rfl ?_
      refine va_get (D := G.1) (v := .int (nI (qTy c))) hx hb hts hin8 hown hK hP 0 (WM_0 G a (wTx c (upd (qTx c) (qTy c) u))) rfl 3 (by decide) hf58 (fun _ h => h) rfl dX8_type_43 ?_
      refine lv_iconst (v := 1) hx hb dX8_type_46 (by decide) ?_
      refine wk_iadd (x := (qTy c)) (y := 1) hx hb dX8_type_47 ?_
      refine va_put (D := G.1) (v := .int (nI ((qTy c) + 1))) (ty := .int) hx hb hts hin8 tyX8 tyX8_ok nmX8 hown hK hP hD hS 0 (WM_0 G a (wTx c (upd (qTx c) (qTy c) u))) rfl 3 (by decide) hf58 (fun _ h => h) rfl (by decide +kernel) rfl rfl (Nat.le_of_ble_eq_true rfl) dX8_type_48 (fun H locs hP hD hS => ?_)
      rw [WM_p0_3] at hP hD
      replace hP : va_P G.1 vwCl (WM G a (wTy (wTx c (upd (qTx c) (qTy c) u)) ((qTy c) + 1))) H := hP
      replace hD : va_D A (WM G a (wTy (wTx c (upd (qTx c) (qTy c) u)) ((qTy c) + 1))) := hD
      refine lv_aload_n hx hb dX8_type_51 rfl (lv_at hl 0 rfl) ?_
      refine va_get (D := G.1) (v := .int (nI ((qTy c) + 1))) hx hb hts hin8 hown hK hP 0 (WM_0 G a (wTy (wTx c (upd (qTx c) (qTy c) u)) ((qTy c) + 1))) rfl 3 (by decide) hf58 (fun _ h => h) rfl dX8_type_52 ?_
      have hq : yType c u = ((nI ((qTy c) + 1)), wTy (wTx c (upd (qTx c) (qTy c) u)) ((qTy c) + 1)) := by (simp only [yType, c13, c25, if_true, if_false, reduceIte, not_true_eq_false, not_false_eq_true, Bool.and_true, Bool.true_and, Bool.and_self, Bool.and_false, Bool.false_and, Bool.false_eq_true]) <;> rfl
      exact wk_mret' hx hb hr hlocks dX8_type_55 hP hS (congrArg (fun z => some (Value.int z.1)) hq) (congrArg (fun z => WM G a z.2) hq)
    · refine lv_bipush (v := -3) hx hb dX8_type_28 (by decide) ?_
      have hq : yType c u = ((-3), c) := by (simp only [yType, c13, c25, if_true, if_false, reduceIte, not_true_eq_false, not_false_eq_true, Bool.and_true, Bool.true_and, Bool.and_self, Bool.and_false, Bool.false_and, Bool.false_eq_true]) <;> rfl
      exact wk_mret' hx hb hr hlocks dX8_type_30 hP hS (congrArg (fun z => some (Value.int z.1)) hq) (congrArg (fun z => WM G a z.2) hq)
  · have c13 := b2i_f c13
    refine lv_iconst (v := -1) hx hb dX8_type_16 (by decide) ?_
    have hq : yType c u = ((-1), c) := by (simp only [yType, c13, if_true, if_false, reduceIte, not_true_eq_false, not_false_eq_true, Bool.and_true, Bool.true_and, Bool.and_self, Bool.and_false, Bool.false_and, Bool.false_eq_true]) <;> rfl
    exact wk_mret' hx hb hr hlocks dX8_type_17 hP hS (congrArg (fun z => some (Value.int z.1)) hq) (congrArg (fun z => WM G a z.2) hq)
theorem hdV_X8_clear : yX8_clear.cls = RX8 ∧ yX8_clear.cls ≠ "java/lang/invoke/MethodHandle" ∧ yX8_clear.cls ≠ "java/lang/invoke/VarHandle" ∧ (parseMethodDescriptor yX8_clear.desc).map (fun d => d.parameters.length) = some 0 := by decide +kernel
set_option maxHeartbeats 600000 in
set_option maxRecDepth 100000 in
theorem c_X8_clear (l : Launch) (G : GG) (a : Nat → Nat) (c : JX) (hc : OkJ c) (sz : Nat) : Met l yX8_clear wsX8_clear ({ frames := 0, cells := 0, slots := 0, locals := 0 }) (va_Pc [.ref (a 0)] (fun U => PreM G (WM G a c) sz U U.heap)) (Qm G.1 vwCl (some (.int (yClear c).1)) (WM G a ((yClear c).2)) (va_A (WM G a c) sz)) 0 0 (va_A (WM G a c) sz) := by
  refine Met.ofW (cc := cX8_clear) (maxL := 2) (ret := (some .int)) (by decide) rfl ?_
  intro p e s m args below meth cd s₁ BB hml hv
  obtain ⟨rfl, ⟨hP, hK, hN⟩, hD0, hsz⟩ := hv
  have hx := BB.exec
  have hb := BB.bytes
  have hr := BB.returns
  have hts := atoms_spec (ws := wsX8_clear) BB.pre
  have hown : s.vm.findClass RX8 = some m.cls := findClass_of_methodNamed BB.named
  have hlocks := BB.notSynchronized
  have hrc : 0 + 0 ≤ (headSpec wsX8_clear ({ frames := 0, cells := 0, slots := 0, locals := 0 })).room.cells := Nat.le_refl _
  have hrs : 0 + 0 ≤ (headSpec wsX8_clear ({ frames := 0, cells := 0, slots := 0, locals := 0 })).room.slots := Nat.le_refl _
  subst hsz
  have hD := hD0.self (sz := s.heap.size)
  generalize hAe : va_A (WM G a c) s.heap.size = A at hD ⊢
  have hA : ∀ q : Nat, s.heap.size ≤ q → A q := fun q h => by rw [← hAe]; exact Or.inr h
  have hS : va_S A s.heap s.heap [] := va_S.rf
  obtain ⟨hk7, ho1, ho5, hl200, hr6, hu10⟩ := id hc
  have hin8 : ∀ w ∈ u_ws RX8 TX8 24, w ∈ wsX8_clear := by decide +kernel
  have hf50 := hts (.fieldLink RX8 50 "RegaliaVotesModel" "thrown" "I") (by decide +kernel)
  have hf58 := hts (.fieldLink RX8 58 "RegaliaVotesModel" "typed" "I") (by decide +kernel)
  refine wk_enter (n := 2) (Nat.le_of_ble_eq_true rfl) (fun ls hl => ?_)
  have hl : lv_has ls 2 [(0, .ref (a 0))] := hl
  refine lv_aload_n hx hb dX8_clear_0 rfl (lv_at hl 0 rfl) ?_
  refine lv_iconst (v := 0) hx hb dX8_clear_1 (by decide) ?_
  refine va_put (D := G.1) (v := .int 0) (ty := .int) hx hb hts hin8 tyX8 tyX8_ok nmX8 hown hK hP hD hS 0 (WM_0 G a c) rfl 0 (by decide) hf50 (fun _ h => h) rfl (by decide +kernel) rfl rfl (Nat.le_of_ble_eq_true rfl) dX8_clear_2 (fun H locs hP hD hS => ?_)
  rw [WM_p0_0] at hP hD
  refine lv_aload_n hx hb dX8_clear_5 rfl (lv_at hl 0 rfl) ?_
  refine va_get (D := G.1) (v := .int (nI (qTy c))) hx hb hts hin8 hown hK hP 0 (WM_0 G a c) rfl 3 (by decide) hf58 (fun _ h => h) rfl dX8_clear_6 ?_
  refine lv_istore_n (lv' := [(1, .int (nI (qTy c))), (0, .ref (a 0))]) hx hb dX8_clear_9 rfl hl (by decide) rfl (fun ls hl => ?_)
  refine lv_aload_n hx hb dX8_clear_10 rfl (lv_at hl 1 rfl) ?_
  refine lv_iconst (v := 0) hx hb dX8_clear_11 (by decide) ?_
  refine va_put (D := G.1) (v := .int (nI 0)) (ty := .int) hx hb hts hin8 tyX8 tyX8_ok nmX8 hown hK hP hD hS 0 (WM_0 G a c) rfl 3 (by decide) hf58 (fun _ h => h) rfl (by decide +kernel) rfl rfl (Nat.le_of_ble_eq_true rfl) dX8_clear_12 (fun H locs hP hD hS => ?_)
  rw [WM_p0_3] at hP hD
  refine lv_iload_n hx hb dX8_clear_15 rfl (lv_at hl 0 rfl) ?_
  have hq : yClear c = ((nI (qTy c)), wTy c 0) := by (simp only [yClear, if_true, if_false, reduceIte, not_true_eq_false, not_false_eq_true, Bool.and_true, Bool.true_and, Bool.and_self, Bool.and_false, Bool.false_and, Bool.false_eq_true]) <;> rfl
  exact wk_mret' hx hb hr hlocks dX8_clear_16 hP hS (congrArg (fun z => some (Value.int z.1)) hq) (congrArg (fun z => WM G a z.2) hq)
theorem hdV_X8_forget : yX8_forget.cls = RX8 ∧ yX8_forget.cls ≠ "java/lang/invoke/MethodHandle" ∧ yX8_forget.cls ≠ "java/lang/invoke/VarHandle" ∧ (parseMethodDescriptor yX8_forget.desc).map (fun d => d.parameters.length) = some 0 := by decide +kernel
set_option maxHeartbeats 600000 in
set_option maxRecDepth 100000 in
theorem c_X8_forget (l : Launch) (G : GG) (a : Nat → Nat) (c : JX) (hc : OkJ c) (sz : Nat) : Met l yX8_forget wsX8_forget ({ frames := 0, cells := 0, slots := 0, locals := 0 }) (va_Pc [.ref (a 0)] (fun U => PreM G (WM G a c) sz U U.heap)) (Qm G.1 vwCl (some (.int (yForget c).1)) (WM G a ((yForget c).2)) (va_A (WM G a c) sz)) 0 0 (va_A (WM G a c) sz) := by
  refine Met.ofW (cc := cX8_forget) (maxL := 2) (ret := (some .int)) (by decide) rfl ?_
  intro p e s m args below meth cd s₁ BB hml hv
  obtain ⟨rfl, ⟨hP, hK, hN⟩, hD0, hsz⟩ := hv
  have hx := BB.exec
  have hb := BB.bytes
  have hr := BB.returns
  have hts := atoms_spec (ws := wsX8_forget) BB.pre
  have hown : s.vm.findClass RX8 = some m.cls := findClass_of_methodNamed BB.named
  have hlocks := BB.notSynchronized
  have hrc : 0 + 0 ≤ (headSpec wsX8_forget ({ frames := 0, cells := 0, slots := 0, locals := 0 })).room.cells := Nat.le_refl _
  have hrs : 0 + 0 ≤ (headSpec wsX8_forget ({ frames := 0, cells := 0, slots := 0, locals := 0 })).room.slots := Nat.le_refl _
  subst hsz
  have hD := hD0.self (sz := s.heap.size)
  generalize hAe : va_A (WM G a c) s.heap.size = A at hD ⊢
  have hA : ∀ q : Nat, s.heap.size ≤ q → A q := fun q h => by rw [← hAe]; exact Or.inr h
  have hS : va_S A s.heap s.heap [] := va_S.rf
  obtain ⟨hk7, ho1, ho5, hl200, hr6, hu10⟩ := id hc
  have hin8 : ∀ w ∈ u_ws RX8 TX8 24, w ∈ wsX8_forget := by decide +kernel
  have hf50 := hts (.fieldLink RX8 50 "RegaliaVotesModel" "thrown" "I") (by decide +kernel)
  have hf106 := hts (.fieldLink RX8 106 "RegaliaVotesModel" "recordMany" "I") (by decide +kernel)
  refine wk_enter (n := 2) (Nat.le_of_ble_eq_true rfl) (fun ls hl => ?_)
  have hl : lv_has ls 2 [(0, .ref (a 0))] := hl
  refine lv_aload_n hx hb dX8_forget_0 rfl (lv_at hl 0 rfl) ?_
  refine lv_iconst (v := 0) hx hb dX8_forget_1 (by decide) ?_
  refine va_put (D := G.1) (v := .int 0) (ty := .int) hx hb hts hin8 tyX8 tyX8_ok nmX8 hown hK hP hD hS 0 (WM_0 G a c) rfl 0 (by decide) hf50 (fun _ h => h) rfl (by decide +kernel) rfl rfl (Nat.le_of_ble_eq_true rfl) dX8_forget_2 (fun H locs hP hD hS => ?_)
  rw [WM_p0_0] at hP hD
  refine lv_aload_n hx hb dX8_forget_5 rfl (lv_at hl 0 rfl) ?_
  refine va_get (D := G.1) (v := .int (nI (qRm c))) hx hb hts hin8 hown hK hP 0 (WM_0 G a c) rfl 23 (by decide) hf106 (fun _ h => h) rfl dX8_forget_6 ?_
  refine lv_istore_n (lv' := [(1, .int (nI (qRm c))), (0, .ref (a 0))]) hx hb dX8_forget_9 rfl hl (by decide) rfl (fun ls hl => ?_)
  refine lv_aload_n hx hb dX8_forget_10 rfl (lv_at hl 1 rfl) ?_
  refine lv_iconst (v := 0) hx hb dX8_forget_11 (by decide) ?_
  refine va_put (D := G.1) (v := .int (nI 0)) (ty := .int) hx hb hts hin8 tyX8 tyX8_ok nmX8 hown hK hP hD hS 0 (WM_0 G a c) rfl 23 (by decide) hf106 (fun _ h => h) rfl (by decide +kernel) rfl rfl (Nat.le_of_ble_eq_true rfl) dX8_forget_12 (fun H locs hP hD hS => ?_)
  rw [WM_p0_23] at hP hD
  refine lv_iload_n hx hb dX8_forget_15 rfl (lv_at hl 0 rfl) ?_
  have hq : yForget c = ((nI (qRm c)), wRm c 0) := by (simp only [yForget, if_true, if_false, reduceIte, not_true_eq_false, not_false_eq_true, Bool.and_true, Bool.true_and, Bool.and_self, Bool.and_false, Bool.false_and, Bool.false_eq_true]) <;> rfl
  exact wk_mret' hx hb hr hlocks dX8_forget_16 hP hS (congrArg (fun z => some (Value.int z.1)) hq) (congrArg (fun z => WM G a z.2) hq)
theorem hdV_X8_record : yX8_record.cls = RX8 ∧ yX8_record.cls ≠ "java/lang/invoke/MethodHandle" ∧ yX8_record.cls ≠ "java/lang/invoke/VarHandle" ∧ (parseMethodDescriptor yX8_record.desc).map (fun d => d.parameters.length) = some 2 := by decide +kernel
set_option maxHeartbeats 600000 in
set_option maxRecDepth 100000 in
theorem c_X8_record (l : Launch) (G : GG) (a : Nat → Nat) (c : JX) (hc : OkJ c) (b : Int32) (u : Int32) (sz : Nat) : Met l yX8_record wsX8_record ({ frames := 2, cells := 0, slots := 0, locals := 42 }) (va_Pc [.ref (a 0), .int b, .int u] (fun U => PreM G (WM G a c) sz U U.heap)) (Qm G.1 vwCl (some (.int (yRecord c b u).1)) (WM G a ((yRecord c b u).2)) (va_A (WM G a c) sz)) 0 0 (va_A (WM G a c) sz) := by
  refine Met.ofW (cc := cX8_record) (maxL := 3) (ret := (some .int)) (by decide) rfl ?_
  intro p e s m args below meth cd s₁ BB hml hv
  obtain ⟨rfl, ⟨hP, hK, hN⟩, hD0, hsz⟩ := hv
  have hx := BB.exec
  have hb := BB.bytes
  have hr := BB.returns
  have hts := atoms_spec (ws := wsX8_record) BB.pre
  have hown : s.vm.findClass RX8 = some m.cls := findClass_of_methodNamed BB.named
  have hlocks := BB.notSynchronized
  have hrc : 0 + 0 ≤ (headSpec wsX8_record ({ frames := 2, cells := 0, slots := 0, locals := 42 })).room.cells := Nat.le_refl _
  have hrs : 0 + 0 ≤ (headSpec wsX8_record ({ frames := 2, cells := 0, slots := 0, locals := 42 })).room.slots := Nat.le_refl _
  subst hsz
  have hD := hD0.self (sz := s.heap.size)
  generalize hAe : va_A (WM G a c) s.heap.size = A at hD ⊢
  have hA : ∀ q : Nat, s.heap.size ≤ q → A q := fun q h => by rw [← hAe]; exact Or.inr h
  have hS : va_S A s.heap s.heap [] := va_S.rf
  obtain ⟨hk7, ho1, ho5, hl200, hr6, hu10⟩ := id hc
  have hin8 : ∀ w ∈ u_ws RX8 TX8 24, w ∈ wsX8_record := by decide +kernel
  have hf44 := hts (.fieldLink RX8 44 "RegaliaVotesModel" "recordBill" "[I") (by decide +kernel)
  have hf47 := hts (.fieldLink RX8 47 "RegaliaVotesModel" "recordIs" "[I") (by decide +kernel)
  have hf50 := hts (.fieldLink RX8 50 "RegaliaVotesModel" "thrown" "I") (by decide +kernel)
  have hf106 := hts (.fieldLink RX8 106 "RegaliaVotesModel" "recordMany" "I") (by decide +kernel)
  refine wk_enter (n := 3) (Nat.le_of_ble_eq_true rfl) (fun ls hl => ?_)
  have hl : lv_has ls 3 [(0, .ref (a 0)), (1, .int b), (2, .int u)] := hl
  refine lv_aload_n hx hb dX8_record_0 rfl (lv_at hl 0 rfl) ?_
  refine lv_iconst (v := 0) hx hb dX8_record_1 (by decide) ?_
  refine va_put (D := G.1) (v := .int 0) (ty := .int) hx hb hts hin8 tyX8 tyX8_ok nmX8 hown hK hP hD hS 0 (WM_0 G a c) rfl 0 (by decide) hf50 (fun _ h => h) rfl (by decide +kernel) rfl rfl (Nat.le_of_ble_eq_true rfl) dX8_record_2 (fun H locs hP hD hS => ?_)
  rw [WM_p0_0] at hP hD
  refine lv_iload_n hx hb dX8_record_5 rfl (lv_at hl 1 rfl) ?_
  refine wk_read (va_runS (As := [.int b]) (rest := []) ⟨hx, hb, hml, hown, hts⟩ (c_X8_isBill l b) (va_cwS 1 hts gX8_record_X8_isBill rfl rfl rfl hdS_X8_isBill ⟨Nat.le_of_ble_eq_true rfl, Nat.le_of_ble_eq_true rfl⟩) preEq rfl rfl hl.1 rfl (lv_room (Nat.le_of_ble_eq_true rfl)) dX8_record_6 ⟨hrc, hrs⟩) ?_
  refine lv_if_eq (tgt := 21) hx hb dX8_record_9 (by decide) (fun c9 => ?_) (fun c9 => ?_)
  · have c9 := b2i_f c9
    refine lv_iconst (v := -1) hx hb dX8_record_21 (by decide) ?_
    have hq : yRecord c b u = ((-1), c) := by (simp only [yRecord, c9, if_true, if_false, reduceIte, not_true_eq_false, not_false_eq_true, Bool.and_true, Bool.true_and, Bool.and_self, Bool.and_false, Bool.false_and, Bool.false_eq_true]) <;> rfl
    exact wk_mret' hx hb hr hlocks dX8_record_22 hP hS (congrArg (fun z => some (Value.int z.1)) hq) (congrArg (fun z => WM G a z.2) hq)
  · have c9 := b2i_t c9
    refine lv_iload_n hx hb dX8_record_12 rfl (lv_at hl 2 rfl) ?_
    refine lv_iconst (v := 0) hx hb dX8_record_13 (by decide) ?_
    refine lv_iconst (v := 1) hx hb dX8_record_14 (by decide) ?_
    refine wk_read (va_runS (As := [.int u, .int 0, .int 1]) (rest := []) ⟨hx, hb, hml, hown, hts⟩ (c_X8_in l u 0 1) (va_cwS 3 hts gX8_record_X8_in rfl rfl rfl hdS_X8_in ⟨Nat.le_of_ble_eq_true rfl, Nat.le_of_ble_eq_true rfl⟩) preEq rfl rfl hl.1 rfl (lv_room (Nat.le_of_ble_eq_true rfl)) dX8_record_15 ⟨hrc, hrs⟩) ?_
    refine lv_if_ne (tgt := 23) hx hb dX8_record_18 (by decide) (fun c18 => ?_) (fun c18 => ?_)
    · have c18 := b2i_t c18
      refine lv_aload_n hx hb dX8_record_23 rfl (lv_at hl 0 rfl) ?_
      refine va_get (D := G.1) (v := .int (nI (qRm c))) hx hb hts hin8 hown hK hP 0 (WM_0 G a c) rfl 23 (by decide) hf106 (fun _ h => h) rfl dX8_record_24 ?_
      refine lv_bipush (v := 6) hx hb dX8_record_27 (by decide) ?_
      refine wk_ne (x := (qRm c)) (y := 6) (tgt := 35) hx hb (by omega) (by omega) dX8_record_29 (by decide) (fun c29 => ?_) (fun c29 => ?_)
      · refine lv_aload_n hx hb dX8_record_35 rfl (lv_at hl 0 rfl) ?_
        refine va_get (D := G.1) (v := .ref (a 7)) hx hb hts hin8 hown hK hP 0 (WM_0 G a c) rfl 21 (by decide) hf44 (fun _ h => h) rfl dX8_record_36 ?_
        refine lv_aload_n hx hb dX8_record_39 rfl (lv_at hl 0 rfl) ?_
        refine va_get (D := G.1) (v := .int (nI (qRm c))) hx hb hts hin8 hown hK hP 0 (WM_0 G a c) rfl 23 (by decide) hf106 (fun _ h => h) rfl dX8_record_40 ?_
        refine lv_iload_n hx hb dX8_record_43 rfl (lv_at hl 1 rfl) ?_
        refine wk_iast (i := (qRm c)) hx hb hK hP hD hS 7 1 (WM_7 G a c) rfl (by omega) (Nat.le_of_ble_eq_true rfl) dX8_record_44 (fun H locs hP hD hS => ?_)
        rw [WM_p7] at hP hD
        refine lv_aload_n hx hb dX8_record_45 rfl (lv_at hl 0 rfl) ?_
        refine va_get (D := G.1) (v := .ref (a 8)) hx hb hts hin8 hown hK hP 0 (WM_0 G a (wRb c (upd (qRb c) (qRm c) b))) rfl 22 (by decide) hf47 (fun _ h => h) rfl dX8_record_46 ?_
        refine lv_aload_n hx hb dX8_record_49 rfl (lv_at hl 0 rfl) ?_
        refine va_get (D := G.1) (v := .int (nI (qRm c))) hx hb hts hin8 hown hK hP 0 (WM_0 G a (wRb c (upd (qRb c) (qRm c) b))) rfl 23 (by decide) hf106 (fun _ h => h) rfl dX8_record_50 ?_
        refine lv_iload_n hx hb dX8_record_53 rfl (lv_at hl 2 rfl) ?_
        refine wk_iast (i := (qRm c)) hx hb hK hP hD hS 8 1 (WM_8 G a (wRb c (upd (qRb c) (qRm c) b))) rfl (by omega) (Nat.le_of_ble_eq_true rfl) dX8_record_54 (fun H locs hP hD hS => ?_)
        rw [WM_p8] at hP hD
        replace hP : va_P G.1 vwCl (WM G a (wRi (wRb c (upd (qRb c) (qRm c) b)) (upd (qRi c) (qRm c) u))) H := hP
        replace hD : va_D A (WM G a (wRi (wRb c (upd (qRb c) (qRm c) b)) (upd (qRi c) (qRm c) u))) := hD
        refine lv_aload_n hx hb dX8_record_55 rfl (lv_at hl 0 rfl) ?_
        refine lv_dup hx hb dX8_record_56 rfl ?_
        refine va_get (D := G.1) (v := .int (nI (qRm c))) hx hb hts hin8 hown hK hP 0 (WM_0 G a (wRi (wRb c (upd (qRb c) (qRm c) b)) (upd (qRi c) (qRm c) u))) rfl 23 (by decide) hf106 (fun _ h => h) rfl dX8_record_57 ?_
        refine lv_iconst (v := 1) hx hb dX8_record_60 (by decide) ?_
        refine wk_iadd (x := (qRm c)) (y := 1) hx hb dX8_record_61 ?_
        refine va_put (D := G.1) (v := .int (nI ((qRm c) + 1))) (ty := .int) hx hb hts hin8 tyX8 tyX8_ok nmX8 hown hK hP hD hS 0 (WM_0 G a (wRi (wRb c (upd (qRb c) (qRm c) b)) (upd (qRi c) (qRm c) u))) rfl 23 (by decide) hf106 (fun _ h => h) rfl (by decide +kernel) rfl rfl (Nat.le_of_ble_eq_true rfl) dX8_record_62 (fun H locs hP hD hS => ?_)
        rw [WM_p0_23] at hP hD
        replace hP : va_P G.1 vwCl (WM G a (wRm (wRi (wRb c (upd (qRb c) (qRm c) b)) (upd (qRi c) (qRm c) u)) ((qRm c) + 1))) H := hP
        replace hD : va_D A (WM G a (wRm (wRi (wRb c (upd (qRb c) (qRm c) b)) (upd (qRi c) (qRm c) u)) ((qRm c) + 1))) := hD
        refine lv_aload_n hx hb dX8_record_65 rfl (lv_at hl 0 rfl) ?_
        refine va_get (D := G.1) (v := .int (nI ((qRm c) + 1))) hx hb hts hin8 hown hK hP 0 (WM_0 G a (wRm (wRi (wRb c (upd (qRb c) (qRm c) b)) (upd (qRi c) (qRm c) u)) ((qRm c) + 1))) rfl 23 (by decide) hf106 (fun _ h => h) rfl dX8_record_66 ?_
        have hq : yRecord c b u = ((nI ((qRm c) + 1)), wRm (wRi (wRb c (upd (qRb c) (qRm c) b)) (upd (qRi c) (qRm c) u)) ((qRm c) + 1)) := by (simp only [yRecord, c9, c18, c29, if_true, if_false, reduceIte, not_true_eq_false, not_false_eq_true, Bool.and_true, Bool.true_and, Bool.and_self, Bool.and_false, Bool.false_and, Bool.false_eq_true]) <;> rfl
        exact wk_mret' hx hb hr hlocks dX8_record_69 hP hS (congrArg (fun z => some (Value.int z.1)) hq) (congrArg (fun z => WM G a z.2) hq)
      · refine lv_bipush (v := -3) hx hb dX8_record_32 (by decide) ?_
        have hq : yRecord c b u = ((-3), c) := by (simp only [yRecord, c9, c18, c29, if_true, if_false, reduceIte, not_true_eq_false, not_false_eq_true, Bool.and_true, Bool.true_and, Bool.and_self, Bool.and_false, Bool.false_and, Bool.false_eq_true]) <;> rfl
        exact wk_mret' hx hb hr hlocks dX8_record_34 hP hS (congrArg (fun z => some (Value.int z.1)) hq) (congrArg (fun z => WM G a z.2) hq)
    · have c18 := b2i_f c18
      refine lv_iconst (v := -1) hx hb dX8_record_21 (by decide) ?_
      have hq : yRecord c b u = ((-1), c) := by (simp only [yRecord, c9, c18, if_true, if_false, reduceIte, not_true_eq_false, not_false_eq_true, Bool.and_true, Bool.true_and, Bool.and_self, Bool.and_false, Bool.false_and, Bool.false_eq_true]) <;> rfl
      exact wk_mret' hx hb hr hlocks dX8_record_22 hP hS (congrArg (fun z => some (Value.int z.1)) hq) (congrArg (fun z => WM G a z.2) hq)
theorem hdV_X8_thing : yX8_thing.cls = RX8 ∧ yX8_thing.cls ≠ "java/lang/invoke/MethodHandle" ∧ yX8_thing.cls ≠ "java/lang/invoke/VarHandle" ∧ (parseMethodDescriptor yX8_thing.desc).map (fun d => d.parameters.length) = some 2 := by decide +kernel
set_option maxHeartbeats 600000 in
set_option maxRecDepth 100000 in
theorem c_X8_thing (l : Launch) (G : GG) (a : Nat → Nat) (c : JX) (hc : OkJ c) (t : Int32) (w : Int32) (sz : Nat) : Met l yX8_thing wsX8_thing ({ frames := 2, cells := 0, slots := 0, locals := 43 }) (va_Pc [.ref (a 0), .int t, .int w] (fun U => PreM G (WM G a c) sz U U.heap)) (Qm G.1 vwCl (some (.int (yThing c t w))) (WM G a c) (va_A (WM G a c) sz)) 0 0 (va_A (WM G a c) sz) := by
  refine Met.ofW (cc := cX8_thing) (maxL := 3) (ret := (some .int)) (by decide) rfl ?_
  intro p e s m args below meth cd s₁ BB hml hv
  obtain ⟨rfl, ⟨hP, hK, hN⟩, hD0, hsz⟩ := hv
  have hx := BB.exec
  have hb := BB.bytes
  have hr := BB.returns
  have hts := atoms_spec (ws := wsX8_thing) BB.pre
  have hown : s.vm.findClass RX8 = some m.cls := findClass_of_methodNamed BB.named
  have hlocks := BB.notSynchronized
  have hrc : 0 + 0 ≤ (headSpec wsX8_thing ({ frames := 2, cells := 0, slots := 0, locals := 43 })).room.cells := Nat.le_refl _
  have hrs : 0 + 0 ≤ (headSpec wsX8_thing ({ frames := 2, cells := 0, slots := 0, locals := 43 })).room.slots := Nat.le_refl _
  subst hsz
  have hD := hD0.self (sz := s.heap.size)
  generalize hAe : va_A (WM G a c) s.heap.size = A at hD ⊢
  have hA : ∀ q : Nat, s.heap.size ≤ q → A q := fun q h => by rw [← hAe]; exact Or.inr h
  have hS : va_S A s.heap s.heap [] := va_S.rf
  obtain ⟨hk7, ho1, ho5, hl200, hr6, hu10⟩ := id hc
  have hin8 : ∀ w ∈ u_ws RX8 TX8 24, w ∈ wsX8_thing := by decide +kernel
  have hf16 := hts (.fieldLink RX8 16 "RegaliaVotesModel" "sort" "[I") (by decide +kernel)
  have hf19 := hts (.fieldLink RX8 19 "RegaliaVotesModel" "votes" "[I") (by decide +kernel)
  have hf22 := hts (.fieldLink RX8 22 "RegaliaVotesModel" "bills" "[I") (by decide +kernel)
  have hf28 := hts (.fieldLink RX8 28 "RegaliaVotesModel" "s" "[I") (by decide +kernel)
  have hf50 := hts (.fieldLink RX8 50 "RegaliaVotesModel" "thrown" "I") (by decide +kernel)
  refine wk_enter (n := 3) (Nat.le_of_ble_eq_true rfl) (fun ls hl => ?_)
  have hl : lv_has ls 3 [(0, .ref (a 0)), (1, .int t), (2, .int w)] := hl
  refine lv_aload_n hx hb dX8_thing_0 rfl (lv_at hl 0 rfl) ?_
  refine lv_iconst (v := 0) hx hb dX8_thing_1 (by decide) ?_
  refine va_put (D := G.1) (v := .int 0) (ty := .int) hx hb hts hin8 tyX8 tyX8_ok nmX8 hown hK hP hD hS 0 (WM_0 G a c) rfl 0 (by decide) hf50 (fun _ h => h) rfl (by decide +kernel) rfl rfl (Nat.le_of_ble_eq_true rfl) dX8_thing_2 (fun H locs hP hD hS => ?_)
  rw [WM_p0_0] at hP hD
  refine lv_aload_n hx hb dX8_thing_5 rfl (lv_at hl 0 rfl) ?_
  refine lv_iload_n hx hb dX8_thing_6 rfl (lv_at hl 1 rfl) ?_
  refine wk_read (va_runV (As := [.int t]) (rest := []) ⟨hx, hb, hml, hown, hts⟩ (c_X8_isThing l G a c hc t) (cwV 1 hts gX8_thing_X8_isThing rfl rfl rfl hdV_X8_isThing ⟨Nat.le_of_ble_eq_true rfl, Nat.le_of_ble_eq_true rfl⟩) (PreW.pre (G := G) (W0 := WM G a c) ⟨hP, hK, hN⟩ (ci := 8) (q0 := 0) rfl rfl) rfl rfl hl.1 rfl (lv_room (Nat.le_of_ble_eq_true rfl)) dX8_thing_7 ⟨hrc, hrs⟩) ?_
  refine lv_if_eq (tgt := 23) hx hb dX8_thing_10 (by decide) (fun c10 => ?_) (fun c10 => ?_)
  · have c10 := b2i_f c10
    refine lv_iconst (v := -1) hx hb dX8_thing_23 (by decide) ?_
    exact wk_mret' hx hb hr hlocks dX8_thing_24 hP hS (congrArg (fun z => some (Value.int z)) (show yThing c t w = (-1) from by (simp only [yThing, c10, if_true, if_false, reduceIte, not_true_eq_false, not_false_eq_true, Bool.and_true, Bool.true_and, Bool.and_self, Bool.and_false, Bool.false_and, Bool.false_eq_true]) <;> simp [b2i])) (rfl)
  · have c10 := b2i_t c10
    obtain ⟨j, hj, rfl⟩ := jIsT_n c10 hk7
    have hcl := nI_clamp (show j < 2 ^ 31 by omega)
    refine lv_iload_n hx hb dX8_thing_13 rfl (lv_at hl 2 rfl) ?_
    refine lv_iconst (v := 0) hx hb dX8_thing_14 (by decide) ?_
    refine lv_bipush (v := 7) hx hb dX8_thing_15 (by decide) ?_
    refine wk_read (va_runS (As := [.int w, .int 0, .int 7]) (rest := []) ⟨hx, hb, hml, hown, hts⟩ (c_X8_in l w 0 7) (va_cwS 3 hts gX8_thing_X8_in rfl rfl rfl hdS_X8_in ⟨Nat.le_of_ble_eq_true rfl, Nat.le_of_ble_eq_true rfl⟩) preEq rfl rfl hl.1 rfl (lv_room (Nat.le_of_ble_eq_true rfl)) dX8_thing_17 ⟨hrc, hrs⟩) ?_
    refine lv_if_ne (tgt := 25) hx hb dX8_thing_20 (by decide) (fun c20 => ?_) (fun c20 => ?_)
    · have c20 := b2i_t c20
      refine lv_iload_n hx hb dX8_thing_25 rfl (lv_at hl 2 rfl) ?_
      refine lv_iconst (v := 4) hx hb dX8_thing_26 (by decide) ?_
      refine lv_icmp_ge (tgt := 80) hx hb dX8_thing_27 (by decide) (fun c27 => ?_) (fun c27 => ?_)
      · refine lv_iload_n hx hb dX8_thing_80 rfl (lv_at hl 2 rfl) ?_
        refine lv_iconst (v := 4) hx hb dX8_thing_81 (by decide) ?_
        refine lv_icmp_ne (tgt := 99) hx hb dX8_thing_82 (by decide) (fun c82 => ?_) (fun c82 => ?_)
        · refine lv_iload_n hx hb dX8_thing_99 rfl (lv_at hl 2 rfl) ?_
          refine lv_iconst (v := 5) hx hb dX8_thing_100 (by decide) ?_
          refine lv_icmp_ne (tgt := 118) hx hb dX8_thing_101 (by decide) (fun c101 => ?_) (fun c101 => ?_)
          · refine lv_iload_n hx hb dX8_thing_118 rfl (lv_at hl 2 rfl) ?_
            refine lv_bipush (v := 6) hx hb dX8_thing_119 (by decide) ?_
            refine lv_icmp_ne (tgt := 136) hx hb dX8_thing_121 (by decide) (fun c121 => ?_) (fun c121 => ?_)
            · refine lv_aload_n hx hb dX8_thing_136 rfl (lv_at hl 0 rfl) ?_
              refine lv_aload_n hx hb dX8_thing_137 rfl (lv_at hl 0 rfl) ?_
              refine va_get (D := G.1) (v := .ref (a 5)) hx hb hts hin8 hown hK hP 0 (WM_0 G a c) rfl 15 (by decide) hf28 (fun _ h => h) rfl dX8_thing_138 ?_
              refine lv_iload_n hx hb dX8_thing_141 rfl (lv_at hl 1 rfl) ?_
              refine wk_read (va_runV (As := [.ref (a 5), .int (nI j)]) (rest := []) ⟨hx, hb, hml, hown, hts⟩ (c_X8_speaks l G a c hc j false (by omega)) (cwV 2 hts gX8_thing_X8_speaks rfl rfl rfl hdV_X8_speaks ⟨Nat.le_of_ble_eq_true rfl, Nat.le_of_ble_eq_true rfl⟩) (PreW.pre (G := G) (W0 := WM G a c) ⟨hP, hK, hN⟩ (ci := 8) (q0 := 0) rfl rfl) rfl rfl hl.1 rfl (lv_room (Nat.le_of_ble_eq_true rfl)) dX8_thing_142 ⟨hrc, hrs⟩) ?_
              refine W.eq (g2 := F0 m 145 ls [.int (b2i (jSpk (qSo c) (qS c) j))]) rfl ?_
              refine lv_if_eq (tgt := 152) hx hb dX8_thing_145 (by decide) (fun c145 => ?_) (fun c145 => ?_)
              · have c145 := b2i_f c145
                refine lv_iconst (v := 0) hx hb dX8_thing_152 (by decide) ?_
                exact wk_mret' hx hb hr hlocks dX8_thing_153 hP hS (congrArg (fun z => some (Value.int z)) (show yThing c (nI j) w = 0 from by (simp only [yThing, hcl, c10, c20, if_true, if_false, reduceIte, not_true_eq_false, not_false_eq_true, Bool.and_true, Bool.true_and, Bool.and_self, Bool.and_false, Bool.false_and, Bool.false_eq_true]) <;> simp [b2i, c27, c82, c101, c121, c145])) (rfl)
              · have c145 := b2i_t c145
                refine lv_iconst (v := 1) hx hb dX8_thing_148 (by decide) ?_
                refine lv_goto (tgt := 153) hx hb dX8_thing_149 (by decide) ?_
                exact wk_mret' hx hb hr hlocks dX8_thing_153 hP hS (congrArg (fun z => some (Value.int z)) (show yThing c (nI j) w = 1 from by (simp only [yThing, hcl, c10, c20, if_true, if_false, reduceIte, not_true_eq_false, not_false_eq_true, Bool.and_true, Bool.true_and, Bool.and_self, Bool.and_false, Bool.false_and, Bool.false_eq_true]) <;> simp [b2i, c27, c82, c101, c121, c145])) (rfl)
            · refine lv_aload_n hx hb dX8_thing_124 rfl (lv_at hl 0 rfl) ?_
              refine va_get (D := G.1) (v := .ref (a 5)) hx hb hts hin8 hown hK hP 0 (WM_0 G a c) rfl 15 (by decide) hf28 (fun _ h => h) rfl dX8_thing_125 ?_
              refine lv_bipush (v := 7) hx hb dX8_thing_128 (by decide) ?_
              refine lv_iload_n hx hb dX8_thing_130 rfl (lv_at hl 1 rfl) ?_
              refine wk_iadd (x := 7) (y := j) hx hb dX8_thing_131 ?_
              refine wk_iald (i := (7 + j)) hx hb hK hP 5 1 (WM_5 G a c) rfl (by omega) (Nat.le_of_ble_eq_true rfl) dX8_thing_132 ?_
              refine lv_goto (tgt := 153) hx hb dX8_thing_133 (by decide) ?_
              exact wk_mret' hx hb hr hlocks dX8_thing_153 hP hS (congrArg (fun z => some (Value.int z)) (show yThing c (nI j) w = (qS c (7 + j)) from by (simp only [yThing, hcl, c10, c20, if_true, if_false, reduceIte, not_true_eq_false, not_false_eq_true, Bool.and_true, Bool.true_and, Bool.and_self, Bool.and_false, Bool.false_and, Bool.false_eq_true]) <;> simp [b2i, c27, c82, c101, c121])) (rfl)
          · refine lv_aload_n hx hb dX8_thing_104 rfl (lv_at hl 0 rfl) ?_
            refine va_get (D := G.1) (v := .ref (a 5)) hx hb hts hin8 hown hK hP 0 (WM_0 G a c) rfl 15 (by decide) hf28 (fun _ h => h) rfl dX8_thing_105 ?_
            refine lv_bipush (v := 15) hx hb dX8_thing_108 (by decide) ?_
            refine wk_iald (i := 15) hx hb hK hP 5 1 (WM_5 G a c) rfl (by omega) (Nat.le_of_ble_eq_true rfl) dX8_thing_110 ?_
            refine lv_iload_n hx hb dX8_thing_111 rfl (lv_at hl 1 rfl) ?_
            refine lv_ishr hx hb dX8_thing_112 ?_
            refine lv_iconst (v := 1) hx hb dX8_thing_113 (by decide) ?_
            refine lv_iand hx hb dX8_thing_114 ?_
            show W _ _ _ _ _ _ _ _ _ _ _ _ _ _ _ (F0 _ _ _ (.int (bitI (qS c 15) (nI j)) :: _))
            refine lv_goto (tgt := 153) hx hb dX8_thing_115 (by decide) ?_
            exact wk_mret' hx hb hr hlocks dX8_thing_153 hP hS (congrArg (fun z => some (Value.int z)) (show yThing c (nI j) w = (bitI (qS c 15) (nI j)) from by (simp only [yThing, hcl, c10, c20, if_true, if_false, reduceIte, not_true_eq_false, not_false_eq_true, Bool.and_true, Bool.true_and, Bool.and_self, Bool.and_false, Bool.false_and, Bool.false_eq_true]) <;> simp [b2i, c27, c82, c101])) (rfl)
        · refine lv_aload_n hx hb dX8_thing_85 rfl (lv_at hl 0 rfl) ?_
          refine va_get (D := G.1) (v := .ref (a 5)) hx hb hts hin8 hown hK hP 0 (WM_0 G a c) rfl 15 (by decide) hf28 (fun _ h => h) rfl dX8_thing_86 ?_
          refine lv_bipush (v := 14) hx hb dX8_thing_89 (by decide) ?_
          refine wk_iald (i := 14) hx hb hK hP 5 1 (WM_5 G a c) rfl (by omega) (Nat.le_of_ble_eq_true rfl) dX8_thing_91 ?_
          refine lv_iload_n hx hb dX8_thing_92 rfl (lv_at hl 1 rfl) ?_
          refine lv_ishr hx hb dX8_thing_93 ?_
          refine lv_iconst (v := 1) hx hb dX8_thing_94 (by decide) ?_
          refine lv_iand hx hb dX8_thing_95 ?_
          show W _ _ _ _ _ _ _ _ _ _ _ _ _ _ _ (F0 _ _ _ (.int (bitI (qS c 14) (nI j)) :: _))
          refine lv_goto (tgt := 153) hx hb dX8_thing_96 (by decide) ?_
          exact wk_mret' hx hb hr hlocks dX8_thing_153 hP hS (congrArg (fun z => some (Value.int z)) (show yThing c (nI j) w = (bitI (qS c 14) (nI j)) from by (simp only [yThing, hcl, c10, c20, if_true, if_false, reduceIte, not_true_eq_false, not_false_eq_true, Bool.and_true, Bool.true_and, Bool.and_self, Bool.and_false, Bool.false_and, Bool.false_eq_true]) <;> simp [b2i, c27, c82])) (rfl)
      · refine lv_iload_n hx hb dX8_thing_30 rfl (lv_at hl 2 rfl) ?_
        refine lv_if_ne (tgt := 43) hx hb dX8_thing_31 (by decide) (fun c31 => ?_) (fun c31 => ?_)
        · refine lv_iload_n hx hb dX8_thing_43 rfl (lv_at hl 2 rfl) ?_
          refine lv_iconst (v := 1) hx hb dX8_thing_44 (by decide) ?_
          refine lv_icmp_ne (tgt := 57) hx hb dX8_thing_45 (by decide) (fun c45 => ?_) (fun c45 => ?_)
          · refine lv_iload_n hx hb dX8_thing_57 rfl (lv_at hl 2 rfl) ?_
            refine lv_iconst (v := 2) hx hb dX8_thing_58 (by decide) ?_
            refine lv_icmp_ne (tgt := 71) hx hb dX8_thing_59 (by decide) (fun c59 => ?_) (fun c59 => ?_)
            · refine lv_aload_n hx hb dX8_thing_71 rfl (lv_at hl 0 rfl) ?_
              refine va_get (D := G.1) (v := .ref (a 5)) hx hb hts hin8 hown hK hP 0 (WM_0 G a c) rfl 15 (by decide) hf28 (fun _ h => h) rfl dX8_thing_72 ?_
              refine lv_iconst (v := 0) hx hb dX8_thing_75 (by decide) ?_
              refine lv_iload_n hx hb dX8_thing_76 rfl (lv_at hl 1 rfl) ?_
              refine wk_add0 (x := j) hx hb dX8_thing_77 ?_
              refine wk_iald (i := j) hx hb hK hP 5 1 (WM_5 G a c) rfl (by omega) (Nat.le_of_ble_eq_true rfl) dX8_thing_78 ?_
              exact wk_mret' hx hb hr hlocks dX8_thing_79 hP hS (congrArg (fun z => some (Value.int z)) (show yThing c (nI j) w = (qS c j) from by (simp only [yThing, hcl, c10, c20, if_true, if_false, reduceIte, not_true_eq_false, not_false_eq_true, Bool.and_true, Bool.true_and, Bool.and_self, Bool.and_false, Bool.false_and, Bool.false_eq_true]) <;> simp [b2i, c27, c31, c45, c59])) (rfl)
            · refine lv_aload_n hx hb dX8_thing_62 rfl (lv_at hl 0 rfl) ?_
              refine va_get (D := G.1) (v := .ref (a 4)) hx hb hts hin8 hown hK hP 0 (WM_0 G a c) rfl 12 (by decide) hf22 (fun _ h => h) rfl dX8_thing_63 ?_
              refine lv_iload_n hx hb dX8_thing_66 rfl (lv_at hl 1 rfl) ?_
              refine wk_iald (i := j) hx hb hK hP 4 1 (WM_4 G a c) rfl (by omega) (Nat.le_of_ble_eq_true rfl) dX8_thing_67 ?_
              refine lv_goto (tgt := 79) hx hb dX8_thing_68 (by decide) ?_
              exact wk_mret' hx hb hr hlocks dX8_thing_79 hP hS (congrArg (fun z => some (Value.int z)) (show yThing c (nI j) w = (qBi c j) from by (simp only [yThing, hcl, c10, c20, if_true, if_false, reduceIte, not_true_eq_false, not_false_eq_true, Bool.and_true, Bool.true_and, Bool.and_self, Bool.and_false, Bool.false_and, Bool.false_eq_true]) <;> simp [b2i, c27, c31, c45, c59])) (rfl)
          · refine lv_aload_n hx hb dX8_thing_48 rfl (lv_at hl 0 rfl) ?_
            refine va_get (D := G.1) (v := .ref (a 3)) hx hb hts hin8 hown hK hP 0 (WM_0 G a c) rfl 11 (by decide) hf19 (fun _ h => h) rfl dX8_thing_49 ?_
            refine lv_iload_n hx hb dX8_thing_52 rfl (lv_at hl 1 rfl) ?_
            refine wk_iald (i := j) hx hb hK hP 3 1 (WM_3 G a c) rfl (by omega) (Nat.le_of_ble_eq_true rfl) dX8_thing_53 ?_
            refine lv_goto (tgt := 79) hx hb dX8_thing_54 (by decide) ?_
            exact wk_mret' hx hb hr hlocks dX8_thing_79 hP hS (congrArg (fun z => some (Value.int z)) (show yThing c (nI j) w = (qVo c j) from by (simp only [yThing, hcl, c10, c20, if_true, if_false, reduceIte, not_true_eq_false, not_false_eq_true, Bool.and_true, Bool.true_and, Bool.and_self, Bool.and_false, Bool.false_and, Bool.false_eq_true]) <;> simp [b2i, c27, c31, c45])) (rfl)
        · refine lv_aload_n hx hb dX8_thing_34 rfl (lv_at hl 0 rfl) ?_
          refine va_get (D := G.1) (v := .ref (a 2)) hx hb hts hin8 hown hK hP 0 (WM_0 G a c) rfl 10 (by decide) hf16 (fun _ h => h) rfl dX8_thing_35 ?_
          refine lv_iload_n hx hb dX8_thing_38 rfl (lv_at hl 1 rfl) ?_
          refine wk_iald (i := j) hx hb hK hP 2 1 (WM_2 G a c) rfl (by omega) (Nat.le_of_ble_eq_true rfl) dX8_thing_39 ?_
          refine lv_goto (tgt := 79) hx hb dX8_thing_40 (by decide) ?_
          exact wk_mret' hx hb hr hlocks dX8_thing_79 hP hS (congrArg (fun z => some (Value.int z)) (show yThing c (nI j) w = (qSo c j) from by (simp only [yThing, hcl, c10, c20, if_true, if_false, reduceIte, not_true_eq_false, not_false_eq_true, Bool.and_true, Bool.true_and, Bool.and_self, Bool.and_false, Bool.false_and, Bool.false_eq_true]) <;> simp [b2i, c27, c31])) (rfl)
    · have c20 := b2i_f c20
      refine lv_iconst (v := -1) hx hb dX8_thing_23 (by decide) ?_
      exact wk_mret' hx hb hr hlocks dX8_thing_24 hP hS (congrArg (fun z => some (Value.int z)) (show yThing c (nI j) w = (-1) from by (simp only [yThing, hcl, c10, c20, if_true, if_false, reduceIte, not_true_eq_false, not_false_eq_true, Bool.and_true, Bool.true_and, Bool.and_self, Bool.and_false, Bool.false_and, Bool.false_eq_true]) <;> simp [b2i])) (rfl)
theorem hdV_X8_officer : yX8_officer.cls = RX8 ∧ yX8_officer.cls ≠ "java/lang/invoke/MethodHandle" ∧ yX8_officer.cls ≠ "java/lang/invoke/VarHandle" ∧ (parseMethodDescriptor yX8_officer.desc).map (fun d => d.parameters.length) = some 2 := by decide +kernel
set_option maxHeartbeats 600000 in
set_option maxRecDepth 100000 in
theorem c_X8_officer (l : Launch) (G : GG) (a : Nat → Nat) (c : JX) (hc : OkJ c) (t : Int32) (w : Int32) (sz : Nat) : Met l yX8_officer wsX8_officer ({ frames := 2, cells := 0, slots := 0, locals := 46 }) (va_Pc [.ref (a 0), .int t, .int w] (fun U => PreM G (WM G a c) sz U U.heap)) (Qm G.1 vwCl (some (.int (yOff c t w))) (WM G a c) (va_A (WM G a c) sz)) 0 0 (va_A (WM G a c) sz) := by
  refine Met.ofW (cc := cX8_officer) (maxL := 3) (ret := (some .int)) (by decide) rfl ?_
  intro p e s m args below meth cd s₁ BB hml hv
  obtain ⟨rfl, ⟨hP, hK, hN⟩, hD0, hsz⟩ := hv
  have hx := BB.exec
  have hb := BB.bytes
  have hr := BB.returns
  have hts := atoms_spec (ws := wsX8_officer) BB.pre
  have hown : s.vm.findClass RX8 = some m.cls := findClass_of_methodNamed BB.named
  have hlocks := BB.notSynchronized
  have hrc : 0 + 0 ≤ (headSpec wsX8_officer ({ frames := 2, cells := 0, slots := 0, locals := 46 })).room.cells := Nat.le_refl _
  have hrs : 0 + 0 ≤ (headSpec wsX8_officer ({ frames := 2, cells := 0, slots := 0, locals := 46 })).room.slots := Nat.le_refl _
  subst hsz
  have hD := hD0.self (sz := s.heap.size)
  generalize hAe : va_A (WM G a c) s.heap.size = A at hD ⊢
  have hA : ∀ q : Nat, s.heap.size ≤ q → A q := fun q h => by rw [← hAe]; exact Or.inr h
  have hS : va_S A s.heap s.heap [] := va_S.rf
  obtain ⟨hk7, ho1, ho5, hl200, hr6, hu10⟩ := id hc
  have hin8 : ∀ w ∈ u_ws RX8 TX8 24, w ∈ wsX8_officer := by decide +kernel
  have hf28 := hts (.fieldLink RX8 28 "RegaliaVotesModel" "s" "[I") (by decide +kernel)
  have hf50 := hts (.fieldLink RX8 50 "RegaliaVotesModel" "thrown" "I") (by decide +kernel)
  refine wk_enter (n := 3) (Nat.le_of_ble_eq_true rfl) (fun ls hl => ?_)
  have hl : lv_has ls 3 [(0, .ref (a 0)), (1, .int t), (2, .int w)] := hl
  refine lv_aload_n hx hb dX8_officer_0 rfl (lv_at hl 0 rfl) ?_
  refine lv_iconst (v := 0) hx hb dX8_officer_1 (by decide) ?_
  refine va_put (D := G.1) (v := .int 0) (ty := .int) hx hb hts hin8 tyX8 tyX8_ok nmX8 hown hK hP hD hS 0 (WM_0 G a c) rfl 0 (by decide) hf50 (fun _ h => h) rfl (by decide +kernel) rfl rfl (Nat.le_of_ble_eq_true rfl) dX8_officer_2 (fun H locs hP hD hS => ?_)
  rw [WM_p0_0] at hP hD
  refine lv_aload_n hx hb dX8_officer_5 rfl (lv_at hl 0 rfl) ?_
  refine lv_iload_n hx hb dX8_officer_6 rfl (lv_at hl 1 rfl) ?_
  refine wk_read (va_runV (As := [.int t]) (rest := []) ⟨hx, hb, hml, hown, hts⟩ (c_X8_isOfficer l G a c hc t) (cwV 1 hts gX8_officer_X8_isOfficer rfl rfl rfl hdV_X8_isOfficer ⟨Nat.le_of_ble_eq_true rfl, Nat.le_of_ble_eq_true rfl⟩) (PreW.pre (G := G) (W0 := WM G a c) ⟨hP, hK, hN⟩ (ci := 8) (q0 := 0) rfl rfl) rfl rfl hl.1 rfl (lv_room (Nat.le_of_ble_eq_true rfl)) dX8_officer_7 ⟨hrc, hrs⟩) ?_
  refine lv_if_eq (tgt := 22) hx hb dX8_officer_10 (by decide) (fun c10 => ?_) (fun c10 => ?_)
  · have c10 := b2i_f c10
    refine lv_iconst (v := -1) hx hb dX8_officer_22 (by decide) ?_
    exact wk_mret' hx hb hr hlocks dX8_officer_23 hP hS (congrArg (fun z => some (Value.int z)) (show yOff c t w = (-1) from by (simp only [yOff, jVHe, c10, if_true, if_false, reduceIte, not_true_eq_false, not_false_eq_true, Bool.and_true, Bool.true_and, Bool.and_self, Bool.and_false, Bool.false_and, Bool.false_eq_true]) <;> simp [])) (rfl)
  · have c10 := b2i_t c10
    refine lv_iload_n hx hb dX8_officer_13 rfl (lv_at hl 2 rfl) ?_
    refine lv_iconst (v := 0) hx hb dX8_officer_14 (by decide) ?_
    refine lv_iconst (v := 2) hx hb dX8_officer_15 (by decide) ?_
    refine wk_read (va_runS (As := [.int w, .int 0, .int 2]) (rest := []) ⟨hx, hb, hml, hown, hts⟩ (c_X8_in l w 0 2) (va_cwS 3 hts gX8_officer_X8_in rfl rfl rfl hdS_X8_in ⟨Nat.le_of_ble_eq_true rfl, Nat.le_of_ble_eq_true rfl⟩) preEq rfl rfl hl.1 rfl (lv_room (Nat.le_of_ble_eq_true rfl)) dX8_officer_16 ⟨hrc, hrs⟩) ?_
    refine lv_if_ne (tgt := 24) hx hb dX8_officer_19 (by decide) (fun c19 => ?_) (fun c19 => ?_)
    · have c19 := b2i_t c19
      refine lv_iload_n hx hb dX8_officer_24 rfl (lv_at hl 2 rfl) ?_
      refine lv_if_ne (tgt := 42) hx hb dX8_officer_25 (by decide) (fun c25 => ?_) (fun c25 => ?_)
      · refine lv_iload_n hx hb dX8_officer_42 rfl (lv_at hl 2 rfl) ?_
        refine lv_iconst (v := 1) hx hb dX8_officer_43 (by decide) ?_
        refine lv_icmp_ne (tgt := 55) hx hb dX8_officer_44 (by decide) (fun c44 => ?_) (fun c44 => ?_)
        · refine lv_aload_n hx hb dX8_officer_55 rfl (lv_at hl 0 rfl) ?_
          refine lv_aload_n hx hb dX8_officer_56 rfl (lv_at hl 0 rfl) ?_
          refine lv_iload_n hx hb dX8_officer_57 rfl (lv_at hl 1 rfl) ?_
          refine wk_read (va_runV (As := [.int t]) (rest := [.ref (a 0)]) ⟨hx, hb, hml, hown, hts⟩ (c_X8_heldBy l G a c hc t) (cwV 1 hts gX8_officer_X8_heldBy rfl rfl rfl hdV_X8_heldBy ⟨Nat.le_of_ble_eq_true rfl, Nat.le_of_ble_eq_true rfl⟩) (PreW.pre (G := G) (W0 := WM G a c) ⟨hP, hK, hN⟩ (ci := 8) (q0 := 0) rfl rfl) rfl rfl hl.1 rfl (lv_room (Nat.le_of_ble_eq_true rfl)) dX8_officer_58 ⟨hrc, hrs⟩) ?_
          refine lv_aload_n hx hb dX8_officer_61 rfl (lv_at hl 0 rfl) ?_
          refine lv_aload_n hx hb dX8_officer_62 rfl (lv_at hl 0 rfl) ?_
          refine va_get (D := G.1) (v := .ref (a 5)) hx hb hts hin8 hown hK hP 0 (WM_0 G a c) rfl 15 (by decide) hf28 (fun _ h => h) rfl dX8_officer_63 ?_
          refine wk_read (va_runV (As := [.ref (a 5)]) (rest := [.int (jHel (qN c 0) (qS c) t), .ref (a 0)]) ⟨hx, hb, hml, hown, hts⟩ (c_X8_voices l G a c hc  false) (cwV 1 hts gX8_officer_X8_voices rfl rfl rfl hdV_X8_voices ⟨Nat.le_of_ble_eq_true rfl, Nat.le_of_ble_eq_true rfl⟩) (PreW.pre (G := G) (W0 := WM G a c) ⟨hP, hK, hN⟩ (ci := 8) (q0 := 0) rfl rfl) rfl rfl hl.1 rfl (lv_room (Nat.le_of_ble_eq_true rfl)) dX8_officer_66 ⟨hrc, hrs⟩) ?_
          refine W.eq (g2 := F0 m 69 ls [.int (jVoi (qN c 0) (qSo c) (qS c)), .int (jHel (qN c 0) (qS c) t), .ref (a 0)]) rfl ?_
          refine lv_iand hx hb dX8_officer_69 ?_
          refine wk_read (va_runV (As := [.int ((jHel (qN c 0) (qS c) t) &&& (jVoi (qN c 0) (qSo c) (qS c)))]) (rest := []) ⟨hx, hb, hml, hown, hts⟩ (c_X8_votesOf l G a c hc ((jHel (qN c 0) (qS c) t) &&& (jVoi (qN c 0) (qSo c) (qS c)))) (cwV 1 hts gX8_officer_X8_votesOf rfl rfl rfl hdV_X8_votesOf ⟨Nat.le_of_ble_eq_true rfl, Nat.le_of_ble_eq_true rfl⟩) (PreW.pre (G := G) (W0 := WM G a c) ⟨hP, hK, hN⟩ (ci := 8) (q0 := 0) rfl rfl) rfl rfl hl.1 rfl (lv_room (Nat.le_of_ble_eq_true rfl)) dX8_officer_70 ⟨hrc, hrs⟩) ?_
          exact wk_mret' hx hb hr hlocks dX8_officer_73 hP hS (congrArg (fun z => some (Value.int z)) (show yOff c t w = (jVot (qN c 0) (qVo c) ((jHel (qN c 0) (qS c) t) &&& (jVoi (qN c 0) (qSo c) (qS c)))) from by (simp only [yOff, jVHe, c10, c19, if_true, if_false, reduceIte, not_true_eq_false, not_false_eq_true, Bool.and_true, Bool.true_and, Bool.and_self, Bool.and_false, Bool.false_and, Bool.false_eq_true]) <;> simp [c25, c44])) (rfl)
        · refine lv_aload_n hx hb dX8_officer_47 rfl (lv_at hl 0 rfl) ?_
          refine lv_iload_n hx hb dX8_officer_48 rfl (lv_at hl 1 rfl) ?_
          refine wk_read (va_runV (As := [.int t]) (rest := []) ⟨hx, hb, hml, hown, hts⟩ (c_X8_heldBy l G a c hc t) (cwV 1 hts gX8_officer_X8_heldBy rfl rfl rfl hdV_X8_heldBy ⟨Nat.le_of_ble_eq_true rfl, Nat.le_of_ble_eq_true rfl⟩) (PreW.pre (G := G) (W0 := WM G a c) ⟨hP, hK, hN⟩ (ci := 8) (q0 := 0) rfl rfl) rfl rfl hl.1 rfl (lv_room (Nat.le_of_ble_eq_true rfl)) dX8_officer_49 ⟨hrc, hrs⟩) ?_
          refine lv_goto (tgt := 73) hx hb dX8_officer_52 (by decide) ?_
          exact wk_mret' hx hb hr hlocks dX8_officer_73 hP hS (congrArg (fun z => some (Value.int z)) (show yOff c t w = (jHel (qN c 0) (qS c) t) from by (simp only [yOff, jVHe, c10, c19, if_true, if_false, reduceIte, not_true_eq_false, not_false_eq_true, Bool.and_true, Bool.true_and, Bool.and_self, Bool.and_false, Bool.false_and, Bool.false_eq_true]) <;> simp [c25, c44])) (rfl)
      · refine lv_aload_n hx hb dX8_officer_28 rfl (lv_at hl 0 rfl) ?_
        refine va_get (D := G.1) (v := .ref (a 5)) hx hb hts hin8 hown hK hP 0 (WM_0 G a c) rfl 15 (by decide) hf28 (fun _ h => h) rfl dX8_officer_29 ?_
        refine lv_bipush (v := 16) hx hb dX8_officer_32 (by decide) ?_
        refine wk_iald (i := 16) hx hb hK hP 5 1 (WM_5 G a c) rfl (by omega) (Nat.le_of_ble_eq_true rfl) dX8_officer_34 ?_
        refine lv_iload_n hx hb dX8_officer_35 rfl (lv_at hl 1 rfl) ?_
        refine lv_ishr hx hb dX8_officer_36 ?_
        refine lv_iconst (v := 1) hx hb dX8_officer_37 (by decide) ?_
        refine lv_iand hx hb dX8_officer_38 ?_
        show W _ _ _ _ _ _ _ _ _ _ _ _ _ _ _ (F0 _ _ _ (.int (bitI (qS c 16) t) :: _))
        refine lv_goto (tgt := 73) hx hb dX8_officer_39 (by decide) ?_
        exact wk_mret' hx hb hr hlocks dX8_officer_73 hP hS (congrArg (fun z => some (Value.int z)) (show yOff c t w = (bitI (qS c 16) t) from by (simp only [yOff, jVHe, c10, c19, if_true, if_false, reduceIte, not_true_eq_false, not_false_eq_true, Bool.and_true, Bool.true_and, Bool.and_self, Bool.and_false, Bool.false_and, Bool.false_eq_true]) <;> simp [c25])) (rfl)
    · have c19 := b2i_f c19
      refine lv_iconst (v := -1) hx hb dX8_officer_22 (by decide) ?_
      exact wk_mret' hx hb hr hlocks dX8_officer_23 hP hS (congrArg (fun z => some (Value.int z)) (show yOff c t w = (-1) from by (simp only [yOff, jVHe, c10, c19, if_true, if_false, reduceIte, not_true_eq_false, not_false_eq_true, Bool.and_true, Bool.true_and, Bool.and_self, Bool.and_false, Bool.false_and, Bool.false_eq_true]) <;> simp [])) (rfl)
theorem hdV_X8_bill : yX8_bill.cls = RX8 ∧ yX8_bill.cls ≠ "java/lang/invoke/MethodHandle" ∧ yX8_bill.cls ≠ "java/lang/invoke/VarHandle" ∧ (parseMethodDescriptor yX8_bill.desc).map (fun d => d.parameters.length) = some 2 := by decide +kernel
set_option maxHeartbeats 600000 in
set_option maxRecDepth 100000 in
theorem c_X8_bill (l : Launch) (G : GG) (a : Nat → Nat) (c : JX) (hc : OkJ c) (b : Int32) (w : Int32) (sz : Nat) : Met l yX8_bill wsX8_bill ({ frames := 3, cells := 0, slots := 0, locals := 68 }) (va_Pc [.ref (a 0), .int b, .int w] (fun U => PreM G (WM G a c) sz U U.heap)) (Qm G.1 vwCl (some (.int (yBill c b w))) (WM G a c) (va_A (WM G a c) sz)) 0 0 (va_A (WM G a c) sz) := by
  refine Met.ofW (cc := cX8_bill) (maxL := 5) (ret := (some .int)) (by decide) rfl ?_
  intro p e s m args below meth cd s₁ BB hml hv
  obtain ⟨rfl, ⟨hP, hK, hN⟩, hD0, hsz⟩ := hv
  have hx := BB.exec
  have hb := BB.bytes
  have hr := BB.returns
  have hts := atoms_spec (ws := wsX8_bill) BB.pre
  have hown : s.vm.findClass RX8 = some m.cls := findClass_of_methodNamed BB.named
  have hlocks := BB.notSynchronized
  have hrc : 0 + 0 ≤ (headSpec wsX8_bill ({ frames := 3, cells := 0, slots := 0, locals := 68 })).room.cells := Nat.le_refl _
  have hrs : 0 + 0 ≤ (headSpec wsX8_bill ({ frames := 3, cells := 0, slots := 0, locals := 68 })).room.slots := Nat.le_refl _
  subst hsz
  have hD := hD0.self (sz := s.heap.size)
  generalize hAe : va_A (WM G a c) s.heap.size = A at hD ⊢
  have hA : ∀ q : Nat, s.heap.size ≤ q → A q := fun q h => by rw [← hAe]; exact Or.inr h
  have hS : va_S A s.heap s.heap [] := va_S.rf
  obtain ⟨hk7, ho1, ho5, hl200, hr6, hu10⟩ := id hc
  have hin8 : ∀ w ∈ u_ws RX8 TX8 24, w ∈ wsX8_bill := by decide +kernel
  have hf28 := hts (.fieldLink RX8 28 "RegaliaVotesModel" "s" "[I") (by decide +kernel)
  have hf50 := hts (.fieldLink RX8 50 "RegaliaVotesModel" "thrown" "I") (by decide +kernel)
  refine wk_enter (n := 5) (Nat.le_of_ble_eq_true rfl) (fun ls hl => ?_)
  have hl : lv_has ls 5 [(0, .ref (a 0)), (1, .int b), (2, .int w)] := hl
  refine lv_aload_n hx hb dX8_bill_0 rfl (lv_at hl 0 rfl) ?_
  refine lv_iconst (v := 0) hx hb dX8_bill_1 (by decide) ?_
  refine va_put (D := G.1) (v := .int 0) (ty := .int) hx hb hts hin8 tyX8 tyX8_ok nmX8 hown hK hP hD hS 0 (WM_0 G a c) rfl 0 (by decide) hf50 (fun _ h => h) rfl (by decide +kernel) rfl rfl (Nat.le_of_ble_eq_true rfl) dX8_bill_2 (fun H locs hP hD hS => ?_)
  rw [WM_p0_0] at hP hD
  refine lv_iload_n hx hb dX8_bill_5 rfl (lv_at hl 1 rfl) ?_
  refine wk_read (va_runS (As := [.int b]) (rest := []) ⟨hx, hb, hml, hown, hts⟩ (c_X8_isBill l b) (va_cwS 1 hts gX8_bill_X8_isBill rfl rfl rfl hdS_X8_isBill ⟨Nat.le_of_ble_eq_true rfl, Nat.le_of_ble_eq_true rfl⟩) preEq rfl rfl hl.1 rfl (lv_room (Nat.le_of_ble_eq_true rfl)) dX8_bill_6 ⟨hrc, hrs⟩) ?_
  refine lv_if_eq (tgt := 21) hx hb dX8_bill_9 (by decide) (fun c9 => ?_) (fun c9 => ?_)
  · have c9 := b2i_f c9
    refine lv_iconst (v := -1) hx hb dX8_bill_21 (by decide) ?_
    exact wk_mret' hx hb hr hlocks dX8_bill_22 hP hS (congrArg (fun z => some (Value.int z)) (show yBill c b w = (-1) from by (simp only [yBill, c9, if_true, if_false, reduceIte, not_true_eq_false, not_false_eq_true, Bool.and_true, Bool.true_and, Bool.and_self, Bool.and_false, Bool.false_and, Bool.false_eq_true]) <;> simp [b2i])) (rfl)
  · have c9 := b2i_t c9
    refine lv_iload_n hx hb dX8_bill_12 rfl (lv_at hl 2 rfl) ?_
    refine lv_iconst (v := 0) hx hb dX8_bill_13 (by decide) ?_
    refine lv_iconst (v := 3) hx hb dX8_bill_14 (by decide) ?_
    refine wk_read (va_runS (As := [.int w, .int 0, .int 3]) (rest := []) ⟨hx, hb, hml, hown, hts⟩ (c_X8_in l w 0 3) (va_cwS 3 hts gX8_bill_X8_in rfl rfl rfl hdS_X8_in ⟨Nat.le_of_ble_eq_true rfl, Nat.le_of_ble_eq_true rfl⟩) preEq rfl rfl hl.1 rfl (lv_room (Nat.le_of_ble_eq_true rfl)) dX8_bill_15 ⟨hrc, hrs⟩) ?_
    refine lv_if_ne (tgt := 23) hx hb dX8_bill_18 (by decide) (fun c18 => ?_) (fun c18 => ?_)
    · have c18 := b2i_t c18
      refine lv_aload_n hx hb dX8_bill_23 rfl (lv_at hl 0 rfl) ?_
      refine lv_aload_n hx hb dX8_bill_24 rfl (lv_at hl 0 rfl) ?_
      refine va_get (D := G.1) (v := .ref (a 5)) hx hb hts hin8 hown hK hP 0 (WM_0 G a c) rfl 15 (by decide) hf28 (fun _ h => h) rfl dX8_bill_25 ?_
      refine wk_read (va_runV (As := [.ref (a 5)]) (rest := []) ⟨hx, hb, hml, hown, hts⟩ (c_X8_voices l G a c hc  false) (cwV 1 hts gX8_bill_X8_voices rfl rfl rfl hdV_X8_voices ⟨Nat.le_of_ble_eq_true rfl, Nat.le_of_ble_eq_true rfl⟩) (PreW.pre (G := G) (W0 := WM G a c) ⟨hP, hK, hN⟩ (ci := 8) (q0 := 0) rfl rfl) rfl rfl hl.1 rfl (lv_room (Nat.le_of_ble_eq_true rfl)) dX8_bill_28 ⟨hrc, hrs⟩) ?_
      refine W.eq (g2 := F0 m 31 ls [.int (jVoi (qN c 0) (qSo c) (qS c))]) rfl ?_
      refine lv_aload_n hx hb dX8_bill_31 rfl (lv_at hl 0 rfl) ?_
      refine lv_aload_n hx hb dX8_bill_32 rfl (lv_at hl 0 rfl) ?_
      refine va_get (D := G.1) (v := .ref (a 5)) hx hb hts hin8 hown hK hP 0 (WM_0 G a c) rfl 15 (by decide) hf28 (fun _ h => h) rfl dX8_bill_33 ?_
      refine lv_iload_n hx hb dX8_bill_36 rfl (lv_at hl 1 rfl) ?_
      refine wk_read (va_runV (As := [.ref (a 5), .int b]) (rest := [.int (jVoi (qN c 0) (qSo c) (qS c))]) ⟨hx, hb, hml, hown, hts⟩ (c_X8_saysYes l G a c hc b false) (cwV 2 hts gX8_bill_X8_saysYes rfl rfl rfl hdV_X8_saysYes ⟨Nat.le_of_ble_eq_true rfl, Nat.le_of_ble_eq_true rfl⟩) (PreW.pre (G := G) (W0 := WM G a c) ⟨hP, hK, hN⟩ (ci := 8) (q0 := 0) rfl rfl) rfl rfl hl.1 rfl (lv_room (Nat.le_of_ble_eq_true rfl)) dX8_bill_37 ⟨hrc, hrs⟩) ?_
      refine W.eq (g2 := F0 m 40 ls [.int (jYes (qN c 0) (qBi c) (qS c) b), .int (jVoi (qN c 0) (qSo c) (qS c))]) rfl ?_
      refine lv_iand hx hb dX8_bill_40 ?_
      refine lv_istore_n (lv' := [(3, .int ((jVoi (qN c 0) (qSo c) (qS c)) &&& (jYes (qN c 0) (qBi c) (qS c) b))), (0, .ref (a 0)), (1, .int b), (2, .int w)]) hx hb dX8_bill_41 rfl hl (by decide) rfl (fun ls hl => ?_)
      refine lv_aload_n hx hb dX8_bill_42 rfl (lv_at hl 1 rfl) ?_
      refine lv_aload_n hx hb dX8_bill_43 rfl (lv_at hl 1 rfl) ?_
      refine va_get (D := G.1) (v := .ref (a 5)) hx hb hts hin8 hown hK hP 0 (WM_0 G a c) rfl 15 (by decide) hf28 (fun _ h => h) rfl dX8_bill_44 ?_
      refine wk_read (va_runV (As := [.ref (a 5)]) (rest := []) ⟨hx, hb, hml, hown, hts⟩ (c_X8_voices l G a c hc  false) (cwV 1 hts gX8_bill_X8_voices rfl rfl rfl hdV_X8_voices ⟨Nat.le_of_ble_eq_true rfl, Nat.le_of_ble_eq_true rfl⟩) (PreW.pre (G := G) (W0 := WM G a c) ⟨hP, hK, hN⟩ (ci := 8) (q0 := 0) rfl rfl) rfl rfl hl.1 rfl (lv_room (Nat.le_of_ble_eq_true rfl)) dX8_bill_47 ⟨hrc, hrs⟩) ?_
      refine W.eq (g2 := F0 m 50 ls [.int (jVoi (qN c 0) (qSo c) (qS c))]) rfl ?_
      refine lv_aload_n hx hb dX8_bill_50 rfl (lv_at hl 1 rfl) ?_
      refine lv_aload_n hx hb dX8_bill_51 rfl (lv_at hl 1 rfl) ?_
      refine va_get (D := G.1) (v := .ref (a 5)) hx hb hts hin8 hown hK hP 0 (WM_0 G a c) rfl 15 (by decide) hf28 (fun _ h => h) rfl dX8_bill_52 ?_
      refine lv_iload_n hx hb dX8_bill_55 rfl (lv_at hl 2 rfl) ?_
      refine wk_read (va_runV (As := [.ref (a 5), .int b]) (rest := [.int (jVoi (qN c 0) (qSo c) (qS c))]) ⟨hx, hb, hml, hown, hts⟩ (c_X8_saysYes l G a c hc b false) (cwV 2 hts gX8_bill_X8_saysYes rfl rfl rfl hdV_X8_saysYes ⟨Nat.le_of_ble_eq_true rfl, Nat.le_of_ble_eq_true rfl⟩) (PreW.pre (G := G) (W0 := WM G a c) ⟨hP, hK, hN⟩ (ci := 8) (q0 := 0) rfl rfl) rfl rfl hl.1 rfl (lv_room (Nat.le_of_ble_eq_true rfl)) dX8_bill_56 ⟨hrc, hrs⟩) ?_
      refine W.eq (g2 := F0 m 59 ls [.int (jYes (qN c 0) (qBi c) (qS c) b), .int (jVoi (qN c 0) (qSo c) (qS c))]) rfl ?_
      refine lv_iconst (v := -1) hx hb dX8_bill_59 (by decide) ?_
      refine lv_ixor hx hb dX8_bill_60 ?_
      show W _ _ _ _ _ _ _ _ _ _ _ _ _ _ _ (F0 _ _ _ (.int (iv (jYes (qN c 0) (qBi c) (qS c) b)) :: _))
      refine lv_iand hx hb dX8_bill_61 ?_
      refine lv_istore (lv' := [(4, .int ((jVoi (qN c 0) (qSo c) (qS c)) &&& (iv (jYes (qN c 0) (qBi c) (qS c) b)))), (3, .int ((jVoi (qN c 0) (qSo c) (qS c)) &&& (jYes (qN c 0) (qBi c) (qS c) b))), (0, .ref (a 0)), (1, .int b), (2, .int w)]) hx hb dX8_bill_62 hl (by decide) rfl (fun ls hl => ?_)
      refine lv_iload_n hx hb dX8_bill_64 rfl (lv_at hl 4 rfl) ?_
      refine lv_if_ne (tgt := 76) hx hb dX8_bill_65 (by decide) (fun c65 => ?_) (fun c65 => ?_)
      · refine lv_iload_n hx hb dX8_bill_76 rfl (lv_at hl 4 rfl) ?_
        refine lv_iconst (v := 1) hx hb dX8_bill_77 (by decide) ?_
        refine lv_icmp_ne (tgt := 90) hx hb dX8_bill_78 (by decide) (fun c78 => ?_) (fun c78 => ?_)
        · refine lv_iload_n hx hb dX8_bill_90 rfl (lv_at hl 4 rfl) ?_
          refine lv_iconst (v := 2) hx hb dX8_bill_91 (by decide) ?_
          refine lv_icmp_ne (tgt := 115) hx hb dX8_bill_92 (by decide) (fun c92 => ?_) (fun c92 => ?_)
          · refine lv_iload_n hx hb dX8_bill_115 rfl (lv_at hl 1 rfl) ?_
            exact wk_mret' hx hb hr hlocks dX8_bill_116 hP hS (congrArg (fun z => some (Value.int z)) (show yBill c b w = ((jVoi (qN c 0) (qSo c) (qS c)) &&& (jYes (qN c 0) (qBi c) (qS c) b)) from by (simp only [yBill, c9, c18, if_true, if_false, reduceIte, not_true_eq_false, not_false_eq_true, Bool.and_true, Bool.true_and, Bool.and_self, Bool.and_false, Bool.false_and, Bool.false_eq_true]) <;> simp [b2i, c65, c78, c92])) (rfl)
          · refine lv_aload_n hx hb dX8_bill_95 rfl (lv_at hl 2 rfl) ?_
            refine lv_aload_n hx hb dX8_bill_96 rfl (lv_at hl 2 rfl) ?_
            refine va_get (D := G.1) (v := .ref (a 5)) hx hb hts hin8 hown hK hP 0 (WM_0 G a c) rfl 15 (by decide) hf28 (fun _ h => h) rfl dX8_bill_97 ?_
            refine lv_iload_n hx hb dX8_bill_100 rfl (lv_at hl 3 rfl) ?_
            refine wk_read (va_runV (As := [.ref (a 5), .int b]) (rest := []) ⟨hx, hb, hml, hown, hts⟩ (c_X8_passes l G a c hc b false) (cwV 2 hts gX8_bill_X8_passes rfl rfl rfl hdV_X8_passes ⟨Nat.le_of_ble_eq_true rfl, Nat.le_of_ble_eq_true rfl⟩) (PreW.pre (G := G) (W0 := WM G a c) ⟨hP, hK, hN⟩ (ci := 8) (q0 := 0) rfl rfl) rfl rfl hl.1 rfl (lv_room (Nat.le_of_ble_eq_true rfl)) dX8_bill_101 ⟨hrc, hrs⟩) ?_
            refine W.eq (g2 := F0 m 104 ls [.int (b2i (jPas (qN c 0) (qSo c) (qVo c) (qBi c) (qS c) b))]) rfl ?_
            refine lv_if_eq (tgt := 111) hx hb dX8_bill_104 (by decide) (fun c104 => ?_) (fun c104 => ?_)
            · have c104 := b2i_f c104
              refine lv_iconst (v := 0) hx hb dX8_bill_111 (by decide) ?_
              refine lv_goto (tgt := 116) hx hb dX8_bill_112 (by decide) ?_
              exact wk_mret' hx hb hr hlocks dX8_bill_116 hP hS (congrArg (fun z => some (Value.int z)) (show yBill c b w = 0 from by (simp only [yBill, c9, c18, if_true, if_false, reduceIte, not_true_eq_false, not_false_eq_true, Bool.and_true, Bool.true_and, Bool.and_self, Bool.and_false, Bool.false_and, Bool.false_eq_true]) <;> simp [b2i, c65, c78, c92, c104])) (rfl)
            · have c104 := b2i_t c104
              refine lv_iconst (v := 1) hx hb dX8_bill_107 (by decide) ?_
              refine lv_goto (tgt := 116) hx hb dX8_bill_108 (by decide) ?_
              exact wk_mret' hx hb hr hlocks dX8_bill_116 hP hS (congrArg (fun z => some (Value.int z)) (show yBill c b w = 1 from by (simp only [yBill, c9, c18, if_true, if_false, reduceIte, not_true_eq_false, not_false_eq_true, Bool.and_true, Bool.true_and, Bool.and_self, Bool.and_false, Bool.false_and, Bool.false_eq_true]) <;> simp [b2i, c65, c78, c92, c104])) (rfl)
        · refine lv_aload_n hx hb dX8_bill_81 rfl (lv_at hl 2 rfl) ?_
          refine lv_iload hx hb dX8_bill_82 (lv_at hl 0 rfl) ?_
          refine wk_read (va_runV (As := [.int ((jVoi (qN c 0) (qSo c) (qS c)) &&& (iv (jYes (qN c 0) (qBi c) (qS c) b)))]) (rest := []) ⟨hx, hb, hml, hown, hts⟩ (c_X8_votesOf l G a c hc ((jVoi (qN c 0) (qSo c) (qS c)) &&& (iv (jYes (qN c 0) (qBi c) (qS c) b)))) (cwV 1 hts gX8_bill_X8_votesOf rfl rfl rfl hdV_X8_votesOf ⟨Nat.le_of_ble_eq_true rfl, Nat.le_of_ble_eq_true rfl⟩) (PreW.pre (G := G) (W0 := WM G a c) ⟨hP, hK, hN⟩ (ci := 8) (q0 := 0) rfl rfl) rfl rfl hl.1 rfl (lv_room (Nat.le_of_ble_eq_true rfl)) dX8_bill_84 ⟨hrc, hrs⟩) ?_
          refine lv_goto (tgt := 116) hx hb dX8_bill_87 (by decide) ?_
          exact wk_mret' hx hb hr hlocks dX8_bill_116 hP hS (congrArg (fun z => some (Value.int z)) (show yBill c b w = (jVot (qN c 0) (qVo c) ((jVoi (qN c 0) (qSo c) (qS c)) &&& (iv (jYes (qN c 0) (qBi c) (qS c) b)))) from by (simp only [yBill, c9, c18, if_true, if_false, reduceIte, not_true_eq_false, not_false_eq_true, Bool.and_true, Bool.true_and, Bool.and_self, Bool.and_false, Bool.false_and, Bool.false_eq_true]) <;> simp [b2i, c65, c78])) (rfl)
      · refine lv_aload_n hx hb dX8_bill_68 rfl (lv_at hl 2 rfl) ?_
        refine lv_iload_n hx hb dX8_bill_69 rfl (lv_at hl 1 rfl) ?_
        refine wk_read (va_runV (As := [.int ((jVoi (qN c 0) (qSo c) (qS c)) &&& (jYes (qN c 0) (qBi c) (qS c) b))]) (rest := []) ⟨hx, hb, hml, hown, hts⟩ (c_X8_votesOf l G a c hc ((jVoi (qN c 0) (qSo c) (qS c)) &&& (jYes (qN c 0) (qBi c) (qS c) b))) (cwV 1 hts gX8_bill_X8_votesOf rfl rfl rfl hdV_X8_votesOf ⟨Nat.le_of_ble_eq_true rfl, Nat.le_of_ble_eq_true rfl⟩) (PreW.pre (G := G) (W0 := WM G a c) ⟨hP, hK, hN⟩ (ci := 8) (q0 := 0) rfl rfl) rfl rfl hl.1 rfl (lv_room (Nat.le_of_ble_eq_true rfl)) dX8_bill_70 ⟨hrc, hrs⟩) ?_
        refine lv_goto (tgt := 116) hx hb dX8_bill_73 (by decide) ?_
        exact wk_mret' hx hb hr hlocks dX8_bill_116 hP hS (congrArg (fun z => some (Value.int z)) (show yBill c b w = (jVot (qN c 0) (qVo c) ((jVoi (qN c 0) (qSo c) (qS c)) &&& (jYes (qN c 0) (qBi c) (qS c) b))) from by (simp only [yBill, c9, c18, if_true, if_false, reduceIte, not_true_eq_false, not_false_eq_true, Bool.and_true, Bool.true_and, Bool.and_self, Bool.and_false, Bool.false_and, Bool.false_eq_true]) <;> simp [b2i, c65])) (rfl)
    · have c18 := b2i_f c18
      refine lv_iconst (v := -1) hx hb dX8_bill_21 (by decide) ?_
      exact wk_mret' hx hb hr hlocks dX8_bill_22 hP hS (congrArg (fun z => some (Value.int z)) (show yBill c b w = (-1) from by (simp only [yBill, c9, c18, if_true, if_false, reduceIte, not_true_eq_false, not_false_eq_true, Bool.and_true, Bool.true_and, Bool.and_self, Bool.and_false, Bool.false_and, Bool.false_eq_true]) <;> simp [b2i])) (rfl)
theorem hdV_X8_now : yX8_now.cls = RX8 ∧ yX8_now.cls ≠ "java/lang/invoke/MethodHandle" ∧ yX8_now.cls ≠ "java/lang/invoke/VarHandle" ∧ (parseMethodDescriptor yX8_now.desc).map (fun d => d.parameters.length) = some 1 := by decide +kernel
set_option maxHeartbeats 600000 in
set_option maxRecDepth 100000 in
theorem c_X8_now (l : Launch) (G : GG) (a : Nat → Nat) (c : JX) (hc : OkJ c) (w : Int32) (sz : Nat) : Met l yX8_now wsX8_now ({ frames := 3, cells := 0, slots := 0, locals := 68 }) (va_Pc [.ref (a 0), .int w] (fun U => PreM G (WM G a c) sz U U.heap)) (Qm G.1 vwCl (some (.int (yNow c w))) (WM G a c) (va_A (WM G a c) sz)) 0 0 (va_A (WM G a c) sz) := by
  refine Met.ofW (cc := cX8_now) (maxL := 2) (ret := (some .int)) (by decide) rfl ?_
  intro p e s m args below meth cd s₁ BB hml hv
  obtain ⟨rfl, ⟨hP, hK, hN⟩, hD0, hsz⟩ := hv
  have hx := BB.exec
  have hb := BB.bytes
  have hr := BB.returns
  have hts := atoms_spec (ws := wsX8_now) BB.pre
  have hown : s.vm.findClass RX8 = some m.cls := findClass_of_methodNamed BB.named
  have hlocks := BB.notSynchronized
  have hrc : 0 + 0 ≤ (headSpec wsX8_now ({ frames := 3, cells := 0, slots := 0, locals := 68 })).room.cells := Nat.le_refl _
  have hrs : 0 + 0 ≤ (headSpec wsX8_now ({ frames := 3, cells := 0, slots := 0, locals := 68 })).room.slots := Nat.le_refl _
  subst hsz
  have hD := hD0.self (sz := s.heap.size)
  generalize hAe : va_A (WM G a c) s.heap.size = A at hD ⊢
  have hA : ∀ q : Nat, s.heap.size ≤ q → A q := fun q h => by rw [← hAe]; exact Or.inr h
  have hS : va_S A s.heap s.heap [] := va_S.rf
  obtain ⟨hk7, ho1, ho5, hl200, hr6, hu10⟩ := id hc
  have hin8 : ∀ w ∈ u_ws RX8 TX8 24, w ∈ wsX8_now := by decide +kernel
  have hf28 := hts (.fieldLink RX8 28 "RegaliaVotesModel" "s" "[I") (by decide +kernel)
  have hf50 := hts (.fieldLink RX8 50 "RegaliaVotesModel" "thrown" "I") (by decide +kernel)
  have hf109 := hts (.fieldLink RX8 109 "RegaliaVotesModel" "undoMany" "I") (by decide +kernel)
  refine wk_enter (n := 2) (Nat.le_of_ble_eq_true rfl) (fun ls hl => ?_)
  have hl : lv_has ls 2 [(0, .ref (a 0)), (1, .int w)] := hl
  refine lv_aload_n hx hb dX8_now_0 rfl (lv_at hl 0 rfl) ?_
  refine lv_iconst (v := 0) hx hb dX8_now_1 (by decide) ?_
  refine va_put (D := G.1) (v := .int 0) (ty := .int) hx hb hts hin8 tyX8 tyX8_ok nmX8 hown hK hP hD hS 0 (WM_0 G a c) rfl 0 (by decide) hf50 (fun _ h => h) rfl (by decide +kernel) rfl rfl (Nat.le_of_ble_eq_true rfl) dX8_now_2 (fun H locs hP hD hS => ?_)
  rw [WM_p0_0] at hP hD
  refine lv_iload_n hx hb dX8_now_5 rfl (lv_at hl 1 rfl) ?_
  refine lv_iconst (v := 0) hx hb dX8_now_6 (by decide) ?_
  refine lv_iconst (v := 5) hx hb dX8_now_7 (by decide) ?_
  refine wk_read (va_runS (As := [.int w, .int 0, .int 5]) (rest := []) ⟨hx, hb, hml, hown, hts⟩ (c_X8_in l w 0 5) (va_cwS 3 hts gX8_now_X8_in rfl rfl rfl hdS_X8_in ⟨Nat.le_of_ble_eq_true rfl, Nat.le_of_ble_eq_true rfl⟩) preEq rfl rfl hl.1 rfl (lv_room (Nat.le_of_ble_eq_true rfl)) dX8_now_8 ⟨hrc, hrs⟩) ?_
  refine lv_if_ne (tgt := 16) hx hb dX8_now_11 (by decide) (fun c11 => ?_) (fun c11 => ?_)
  · have c11 := b2i_t c11
    refine lv_iload_n hx hb dX8_now_16 rfl (lv_at hl 1 rfl) ?_
    refine lv_iconst (v := 2) hx hb dX8_now_17 (by decide) ?_
    refine lv_icmp_ge (tgt := 33) hx hb dX8_now_18 (by decide) (fun c18 => ?_) (fun c18 => ?_)
    · refine lv_iload_n hx hb dX8_now_33 rfl (lv_at hl 1 rfl) ?_
      refine lv_iconst (v := 2) hx hb dX8_now_34 (by decide) ?_
      refine lv_icmp_ne (tgt := 49) hx hb dX8_now_35 (by decide) (fun c35 => ?_) (fun c35 => ?_)
      · refine lv_iload_n hx hb dX8_now_49 rfl (lv_at hl 1 rfl) ?_
        refine lv_iconst (v := 3) hx hb dX8_now_50 (by decide) ?_
        refine lv_icmp_ne (tgt := 64) hx hb dX8_now_51 (by decide) (fun c51 => ?_) (fun c51 => ?_)
        · refine lv_iload_n hx hb dX8_now_64 rfl (lv_at hl 1 rfl) ?_
          refine lv_iconst (v := 4) hx hb dX8_now_65 (by decide) ?_
          refine lv_icmp_ne (tgt := 76) hx hb dX8_now_66 (by decide) (fun c66 => ?_) (fun c66 => ?_)
          · refine lv_aload_n hx hb dX8_now_76 rfl (lv_at hl 0 rfl) ?_
            refine va_get (D := G.1) (v := .int (nI (qUm c))) hx hb hts hin8 hown hK hP 0 (WM_0 G a c) rfl 20 (by decide) hf109 (fun _ h => h) rfl dX8_now_77 ?_
            exact wk_mret' hx hb hr hlocks dX8_now_80 hP hS (congrArg (fun z => some (Value.int z)) (show yNow c w = (nI (qUm c)) from by (simp only [yNow, c11, if_true, if_false, reduceIte, not_true_eq_false, not_false_eq_true, Bool.and_true, Bool.true_and, Bool.and_self, Bool.and_false, Bool.false_and, Bool.false_eq_true]) <;> simp [c18, c35, c51, c66])) (rfl)
          · refine lv_aload_n hx hb dX8_now_69 rfl (lv_at hl 0 rfl) ?_
            refine wk_read (va_runV (As := []) (rest := []) ⟨hx, hb, hml, hown, hts⟩ (c_X8_most l G a c hc) (cwV 0 hts gX8_now_X8_most rfl rfl rfl hdV_X8_most ⟨Nat.le_of_ble_eq_true rfl, Nat.le_of_ble_eq_true rfl⟩) (PreW.pre (G := G) (W0 := WM G a c) ⟨hP, hK, hN⟩ (ci := 8) (q0 := 0) rfl rfl) rfl rfl hl.1 rfl (lv_room (Nat.le_of_ble_eq_true rfl)) dX8_now_70 ⟨hrc, hrs⟩) ?_
            refine lv_goto (tgt := 80) hx hb dX8_now_73 (by decide) ?_
            exact wk_mret' hx hb hr hlocks dX8_now_80 hP hS (congrArg (fun z => some (Value.int z)) (show yNow c w = (jMos (qN c 0) (qN c 1) (qSo c) (qVo c) (qS c)) from by (simp only [yNow, c11, if_true, if_false, reduceIte, not_true_eq_false, not_false_eq_true, Bool.and_true, Bool.true_and, Bool.and_self, Bool.and_false, Bool.false_and, Bool.false_eq_true]) <;> simp [c18, c35, c51, c66])) (rfl)
        · refine lv_aload_n hx hb dX8_now_54 rfl (lv_at hl 0 rfl) ?_
          refine va_get (D := G.1) (v := .ref (a 5)) hx hb hts hin8 hown hK hP 0 (WM_0 G a c) rfl 15 (by decide) hf28 (fun _ h => h) rfl dX8_now_55 ?_
          refine lv_bipush (v := 16) hx hb dX8_now_58 (by decide) ?_
          refine wk_iald (i := 16) hx hb hK hP 5 1 (WM_5 G a c) rfl (by omega) (Nat.le_of_ble_eq_true rfl) dX8_now_60 ?_
          refine lv_goto (tgt := 80) hx hb dX8_now_61 (by decide) ?_
          exact wk_mret' hx hb hr hlocks dX8_now_80 hP hS (congrArg (fun z => some (Value.int z)) (show yNow c w = (qS c 16) from by (simp only [yNow, c11, if_true, if_false, reduceIte, not_true_eq_false, not_false_eq_true, Bool.and_true, Bool.true_and, Bool.and_self, Bool.and_false, Bool.false_and, Bool.false_eq_true]) <;> simp [c18, c35, c51])) (rfl)
      · refine lv_aload_n hx hb dX8_now_38 rfl (lv_at hl 0 rfl) ?_
        refine lv_aload_n hx hb dX8_now_39 rfl (lv_at hl 0 rfl) ?_
        refine va_get (D := G.1) (v := .ref (a 5)) hx hb hts hin8 hown hK hP 0 (WM_0 G a c) rfl 15 (by decide) hf28 (fun _ h => h) rfl dX8_now_40 ?_
        refine wk_read (va_runV (As := [.ref (a 5)]) (rest := []) ⟨hx, hb, hml, hown, hts⟩ (c_X8_voices l G a c hc  false) (cwV 1 hts gX8_now_X8_voices rfl rfl rfl hdV_X8_voices ⟨Nat.le_of_ble_eq_true rfl, Nat.le_of_ble_eq_true rfl⟩) (PreW.pre (G := G) (W0 := WM G a c) ⟨hP, hK, hN⟩ (ci := 8) (q0 := 0) rfl rfl) rfl rfl hl.1 rfl (lv_room (Nat.le_of_ble_eq_true rfl)) dX8_now_43 ⟨hrc, hrs⟩) ?_
        refine W.eq (g2 := F0 m 46 ls [.int (jVoi (qN c 0) (qSo c) (qS c))]) rfl ?_
        refine lv_goto (tgt := 80) hx hb dX8_now_46 (by decide) ?_
        exact wk_mret' hx hb hr hlocks dX8_now_80 hP hS (congrArg (fun z => some (Value.int z)) (show yNow c w = (jVoi (qN c 0) (qSo c) (qS c)) from by (simp only [yNow, c11, if_true, if_false, reduceIte, not_true_eq_false, not_false_eq_true, Bool.and_true, Bool.true_and, Bool.and_self, Bool.and_false, Bool.false_and, Bool.false_eq_true]) <;> simp [c18, c35])) (rfl)
    · obtain ⟨j, hj, rfl⟩ := pIn_n (m := 5) c11 (by decide)
      have hcl := nI_clamp (show j < 2 ^ 31 by omega)
      refine lv_aload_n hx hb dX8_now_21 rfl (lv_at hl 0 rfl) ?_
      refine va_get (D := G.1) (v := .ref (a 5)) hx hb hts hin8 hown hK hP 0 (WM_0 G a c) rfl 15 (by decide) hf28 (fun _ h => h) rfl dX8_now_22 ?_
      refine lv_bipush (v := 17) hx hb dX8_now_25 (by decide) ?_
      refine lv_iload_n hx hb dX8_now_27 rfl (lv_at hl 1 rfl) ?_
      refine wk_iadd (x := 17) (y := j) hx hb dX8_now_28 ?_
      refine wk_iald (i := (17 + j)) hx hb hK hP 5 1 (WM_5 G a c) rfl (show 17 + j < 19 by have h9 := (nI_ltI (b := 2) (by omega) (by omega)).mp (Int32.not_le.mp c18); omega) (Nat.le_of_ble_eq_true rfl) dX8_now_29 ?_
      refine lv_goto (tgt := 80) hx hb dX8_now_30 (by decide) ?_
      exact wk_mret' hx hb hr hlocks dX8_now_80 hP hS (congrArg (fun z => some (Value.int z)) (show yNow c (nI j) = (qS c (17 + j)) from by (simp only [yNow, hcl, c11, if_true, if_false, reduceIte, not_true_eq_false, not_false_eq_true, Bool.and_true, Bool.true_and, Bool.and_self, Bool.and_false, Bool.false_and, Bool.false_eq_true]) <;> simp [c18])) (rfl)
  · have c11 := b2i_f c11
    refine lv_iconst (v := -1) hx hb dX8_now_14 (by decide) ?_
    exact wk_mret' hx hb hr hlocks dX8_now_15 hP hS (congrArg (fun z => some (Value.int z)) (show yNow c w = (-1) from by (simp only [yNow, c11, if_true, if_false, reduceIte, not_true_eq_false, not_false_eq_true, Bool.and_true, Bool.true_and, Bool.and_self, Bool.and_false, Bool.false_and, Bool.false_eq_true]) <;> simp [])) (rfl)
theorem hdV_X8_sways : yX8_sways.cls = RX8 ∧ yX8_sways.cls ≠ "java/lang/invoke/MethodHandle" ∧ yX8_sways.cls ≠ "java/lang/invoke/VarHandle" ∧ (parseMethodDescriptor yX8_sways.desc).map (fun d => d.parameters.length) = some 1 := by decide +kernel
set_option maxHeartbeats 600000 in
set_option maxRecDepth 100000 in
theorem c_X8_sways (l : Launch) (G : GG) (a : Nat → Nat) (c : JX) (hc : OkJ c) (b : Int32) (sz : Nat) : Met l yX8_sways wsX8_sways ({ frames := 3, cells := 0, slots := 0, locals := 72 }) (va_Pc [.ref (a 0), .int b] (fun U => PreM G (WM G a c) sz U U.heap)) (Qm G.1 vwCl (some (.int (ySways c b))) (WM G a c) (va_A (WM G a c) sz)) 0 0 (va_A (WM G a c) sz) := by
  refine Met.ofW (cc := cX8_sways) (maxL := 2) (ret := (some .int)) (by decide) rfl ?_
  intro p e s m args below meth cd s₁ BB hml hv
  obtain ⟨rfl, ⟨hP, hK, hN⟩, hD0, hsz⟩ := hv
  have hx := BB.exec
  have hb := BB.bytes
  have hr := BB.returns
  have hts := atoms_spec (ws := wsX8_sways) BB.pre
  have hown : s.vm.findClass RX8 = some m.cls := findClass_of_methodNamed BB.named
  have hlocks := BB.notSynchronized
  have hrc : 0 + 0 ≤ (headSpec wsX8_sways ({ frames := 3, cells := 0, slots := 0, locals := 72 })).room.cells := Nat.le_refl _
  have hrs : 0 + 0 ≤ (headSpec wsX8_sways ({ frames := 3, cells := 0, slots := 0, locals := 72 })).room.slots := Nat.le_refl _
  subst hsz
  have hD := hD0.self (sz := s.heap.size)
  generalize hAe : va_A (WM G a c) s.heap.size = A at hD ⊢
  have hA : ∀ q : Nat, s.heap.size ≤ q → A q := fun q h => by rw [← hAe]; exact Or.inr h
  have hS : va_S A s.heap s.heap [] := va_S.rf
  obtain ⟨hk7, ho1, ho5, hl200, hr6, hu10⟩ := id hc
  have hin8 : ∀ w ∈ u_ws RX8 TX8 24, w ∈ wsX8_sways := by decide +kernel
  have hf50 := hts (.fieldLink RX8 50 "RegaliaVotesModel" "thrown" "I") (by decide +kernel)
  refine wk_enter (n := 2) (Nat.le_of_ble_eq_true rfl) (fun ls hl => ?_)
  have hl : lv_has ls 2 [(0, .ref (a 0)), (1, .int b)] := hl
  refine lv_aload_n hx hb dX8_sways_0 rfl (lv_at hl 0 rfl) ?_
  refine lv_iconst (v := 0) hx hb dX8_sways_1 (by decide) ?_
  refine va_put (D := G.1) (v := .int 0) (ty := .int) hx hb hts hin8 tyX8 tyX8_ok nmX8 hown hK hP hD hS 0 (WM_0 G a c) rfl 0 (by decide) hf50 (fun _ h => h) rfl (by decide +kernel) rfl rfl (Nat.le_of_ble_eq_true rfl) dX8_sways_2 (fun H locs hP hD hS => ?_)
  rw [WM_p0_0] at hP hD
  refine lv_iload_n hx hb dX8_sways_5 rfl (lv_at hl 1 rfl) ?_
  refine wk_read (va_runS (As := [.int b]) (rest := []) ⟨hx, hb, hml, hown, hts⟩ (c_X8_isBill l b) (va_cwS 1 hts gX8_sways_X8_isBill rfl rfl rfl hdS_X8_isBill ⟨Nat.le_of_ble_eq_true rfl, Nat.le_of_ble_eq_true rfl⟩) preEq rfl rfl hl.1 rfl (lv_room (Nat.le_of_ble_eq_true rfl)) dX8_sways_6 ⟨hrc, hrs⟩) ?_
  refine lv_if_eq (tgt := 20) hx hb dX8_sways_9 (by decide) (fun c9 => ?_) (fun c9 => ?_)
  · have c9 := b2i_f c9
    refine lv_iconst (v := -1) hx hb dX8_sways_20 (by decide) ?_
    exact wk_mret' hx hb hr hlocks dX8_sways_21 hP hS (congrArg (fun z => some (Value.int z)) (show ySways c b = (-1) from by (simp only [ySways, c9, if_true, if_false, reduceIte, not_true_eq_false, not_false_eq_true, Bool.and_true, Bool.true_and, Bool.and_self, Bool.and_false, Bool.false_and, Bool.false_eq_true]) <;> simp [])) (rfl)
  · have c9 := b2i_t c9
    refine lv_aload_n hx hb dX8_sways_12 rfl (lv_at hl 0 rfl) ?_
    refine lv_iload_n hx hb dX8_sways_13 rfl (lv_at hl 1 rfl) ?_
    refine wk_read (va_runV (As := [.int b]) (rest := []) ⟨hx, hb, hml, hown, hts⟩ (c_X8_swaysOf l G a c hc b) (cwV 1 hts gX8_sways_X8_swaysOf rfl rfl rfl hdV_X8_swaysOf ⟨Nat.le_of_ble_eq_true rfl, Nat.le_of_ble_eq_true rfl⟩) (PreW.pre (G := G) (W0 := WM G a c) ⟨hP, hK, hN⟩ (ci := 8) (q0 := 0) rfl rfl) rfl rfl hl.1 rfl (lv_room (Nat.le_of_ble_eq_true rfl)) dX8_sways_14 ⟨hrc, hrs⟩) ?_
    refine lv_goto (tgt := 21) hx hb dX8_sways_17 (by decide) ?_
    exact wk_mret' hx hb hr hlocks dX8_sways_21 hP hS (congrArg (fun z => some (Value.int z)) (show ySways c b = (jSwy (qN c 0) (qSo c) (qVo c) (qBi c) (qS c) b) from by (simp only [ySways, c9, if_true, if_false, reduceIte, not_true_eq_false, not_false_eq_true, Bool.and_true, Bool.true_and, Bool.and_self, Bool.and_false, Bool.false_and, Bool.false_eq_true]) <;> simp [])) (rfl)
theorem hdV_X8_count : yX8_count.cls = RX8 ∧ yX8_count.cls ≠ "java/lang/invoke/MethodHandle" ∧ yX8_count.cls ≠ "java/lang/invoke/VarHandle" ∧ (parseMethodDescriptor yX8_count.desc).map (fun d => d.parameters.length) = some 1 := by decide +kernel
set_option maxHeartbeats 600000 in
set_option maxRecDepth 100000 in
theorem c_X8_count (l : Launch) (G : GG) (a : Nat → Nat) (c : JX) (hc : OkJ c) (w : Int32) (sz : Nat) : Met l yX8_count wsX8_count ({ frames := 1, cells := 0, slots := 0, locals := 22 }) (va_Pc [.ref (a 0), .int w] (fun U => PreM G (WM G a c) sz U U.heap)) (Qm G.1 vwCl (some (.int (yCount c w))) (WM G a c) (va_A (WM G a c) sz)) 0 0 (va_A (WM G a c) sz) := by
  refine Met.ofW (cc := cX8_count) (maxL := 2) (ret := (some .int)) (by decide) rfl ?_
  intro p e s m args below meth cd s₁ BB hml hv
  obtain ⟨rfl, ⟨hP, hK, hN⟩, hD0, hsz⟩ := hv
  have hx := BB.exec
  have hb := BB.bytes
  have hr := BB.returns
  have hts := atoms_spec (ws := wsX8_count) BB.pre
  have hown : s.vm.findClass RX8 = some m.cls := findClass_of_methodNamed BB.named
  have hlocks := BB.notSynchronized
  have hrc : 0 + 0 ≤ (headSpec wsX8_count ({ frames := 1, cells := 0, slots := 0, locals := 22 })).room.cells := Nat.le_refl _
  have hrs : 0 + 0 ≤ (headSpec wsX8_count ({ frames := 1, cells := 0, slots := 0, locals := 22 })).room.slots := Nat.le_refl _
  subst hsz
  have hD := hD0.self (sz := s.heap.size)
  generalize hAe : va_A (WM G a c) s.heap.size = A at hD ⊢
  have hA : ∀ q : Nat, s.heap.size ≤ q → A q := fun q h => by rw [← hAe]; exact Or.inr h
  have hS : va_S A s.heap s.heap [] := va_S.rf
  obtain ⟨hk7, ho1, ho5, hl200, hr6, hu10⟩ := id hc
  have hin8 : ∀ w ∈ u_ws RX8 TX8 24, w ∈ wsX8_count := by decide +kernel
  have hf13 := hts (.fieldLink RX8 13 "RegaliaVotesModel" "many" "[I") (by decide +kernel)
  have hf50 := hts (.fieldLink RX8 50 "RegaliaVotesModel" "thrown" "I") (by decide +kernel)
  have hf58 := hts (.fieldLink RX8 58 "RegaliaVotesModel" "typed" "I") (by decide +kernel)
  have hf106 := hts (.fieldLink RX8 106 "RegaliaVotesModel" "recordMany" "I") (by decide +kernel)
  refine wk_enter (n := 2) (Nat.le_of_ble_eq_true rfl) (fun ls hl => ?_)
  have hl : lv_has ls 2 [(0, .ref (a 0)), (1, .int w)] := hl
  refine lv_aload_n hx hb dX8_count_0 rfl (lv_at hl 0 rfl) ?_
  refine lv_iconst (v := 0) hx hb dX8_count_1 (by decide) ?_
  refine va_put (D := G.1) (v := .int 0) (ty := .int) hx hb hts hin8 tyX8 tyX8_ok nmX8 hown hK hP hD hS 0 (WM_0 G a c) rfl 0 (by decide) hf50 (fun _ h => h) rfl (by decide +kernel) rfl rfl (Nat.le_of_ble_eq_true rfl) dX8_count_2 (fun H locs hP hD hS => ?_)
  rw [WM_p0_0] at hP hD
  refine lv_iload_n hx hb dX8_count_5 rfl (lv_at hl 1 rfl) ?_
  refine lv_iconst (v := 0) hx hb dX8_count_6 (by decide) ?_
  refine lv_iconst (v := 2) hx hb dX8_count_7 (by decide) ?_
  refine wk_read (va_runS (As := [.int w, .int 0, .int 2]) (rest := []) ⟨hx, hb, hml, hown, hts⟩ (c_X8_in l w 0 2) (va_cwS 3 hts gX8_count_X8_in rfl rfl rfl hdS_X8_in ⟨Nat.le_of_ble_eq_true rfl, Nat.le_of_ble_eq_true rfl⟩) preEq rfl rfl hl.1 rfl (lv_room (Nat.le_of_ble_eq_true rfl)) dX8_count_8 ⟨hrc, hrs⟩) ?_
  refine lv_if_eq (tgt := 23) hx hb dX8_count_11 (by decide) (fun c11 => ?_) (fun c11 => ?_)
  · have c11 := b2i_f c11
    refine lv_iload_n hx hb dX8_count_23 rfl (lv_at hl 1 rfl) ?_
    refine lv_iconst (v := 3) hx hb dX8_count_24 (by decide) ?_
    refine lv_icmp_ne (tgt := 35) hx hb dX8_count_25 (by decide) (fun c25 => ?_) (fun c25 => ?_)
    · refine lv_iload_n hx hb dX8_count_35 rfl (lv_at hl 1 rfl) ?_
      refine lv_iconst (v := 4) hx hb dX8_count_36 (by decide) ?_
      refine lv_icmp_ne (tgt := 47) hx hb dX8_count_37 (by decide) (fun c37 => ?_) (fun c37 => ?_)
      · refine lv_iconst (v := -1) hx hb dX8_count_47 (by decide) ?_
        exact wk_mret' hx hb hr hlocks dX8_count_48 hP hS (congrArg (fun z => some (Value.int z)) (show yCount c w = (-1) from by (simp only [yCount, c11, if_true, if_false, reduceIte, not_true_eq_false, not_false_eq_true, Bool.and_true, Bool.true_and, Bool.and_self, Bool.and_false, Bool.false_and, Bool.false_eq_true]) <;> simp [c25, c37])) (rfl)
      · refine lv_aload_n hx hb dX8_count_40 rfl (lv_at hl 0 rfl) ?_
        refine va_get (D := G.1) (v := .int (nI (qTy c))) hx hb hts hin8 hown hK hP 0 (WM_0 G a c) rfl 3 (by decide) hf58 (fun _ h => h) rfl dX8_count_41 ?_
        refine lv_goto (tgt := 48) hx hb dX8_count_44 (by decide) ?_
        exact wk_mret' hx hb hr hlocks dX8_count_48 hP hS (congrArg (fun z => some (Value.int z)) (show yCount c w = (nI (qTy c)) from by (simp only [yCount, c11, if_true, if_false, reduceIte, not_true_eq_false, not_false_eq_true, Bool.and_true, Bool.true_and, Bool.and_self, Bool.and_false, Bool.false_and, Bool.false_eq_true]) <;> simp [c25, c37])) (rfl)
    · refine lv_aload_n hx hb dX8_count_28 rfl (lv_at hl 0 rfl) ?_
      refine va_get (D := G.1) (v := .int (nI (qRm c))) hx hb hts hin8 hown hK hP 0 (WM_0 G a c) rfl 23 (by decide) hf106 (fun _ h => h) rfl dX8_count_29 ?_
      refine lv_goto (tgt := 48) hx hb dX8_count_32 (by decide) ?_
      exact wk_mret' hx hb hr hlocks dX8_count_48 hP hS (congrArg (fun z => some (Value.int z)) (show yCount c w = (nI (qRm c)) from by (simp only [yCount, c11, if_true, if_false, reduceIte, not_true_eq_false, not_false_eq_true, Bool.and_true, Bool.true_and, Bool.and_self, Bool.and_false, Bool.false_and, Bool.false_eq_true]) <;> simp [c25])) (rfl)
  · have c11 := b2i_t c11
    obtain ⟨j, hj, rfl⟩ := pIn_n (m := 2) c11 (by decide)
    have hcl := nI_clamp (show j < 2 ^ 31 by omega)
    refine lv_aload_n hx hb dX8_count_14 rfl (lv_at hl 0 rfl) ?_
    refine va_get (D := G.1) (v := .ref (a 1)) hx hb hts hin8 hown hK hP 0 (WM_0 G a c) rfl 9 (by decide) hf13 (fun _ h => h) rfl dX8_count_15 ?_
    refine lv_iload_n hx hb dX8_count_18 rfl (lv_at hl 1 rfl) ?_
    refine wk_iald (i := j) hx hb hK hP 1 1 (WM_1 G a c) rfl (by omega) (Nat.le_of_ble_eq_true rfl) dX8_count_19 ?_
    refine lv_goto (tgt := 48) hx hb dX8_count_20 (by decide) ?_
    exact wk_mret' hx hb hr hlocks dX8_count_48 hP hS (congrArg (fun z => some (Value.int z)) (show yCount c (nI j) = (nI (qN c j)) from by (simp only [yCount, hcl, c11, if_true, if_false, reduceIte, not_true_eq_false, not_false_eq_true, Bool.and_true, Bool.true_and, Bool.and_self, Bool.and_false, Bool.false_and, Bool.false_eq_true]) <;> simp [])) (rfl)
theorem hdV_X8_free : yX8_free.cls = RX8 ∧ yX8_free.cls ≠ "java/lang/invoke/MethodHandle" ∧ yX8_free.cls ≠ "java/lang/invoke/VarHandle" ∧ (parseMethodDescriptor yX8_free.desc).map (fun d => d.parameters.length) = some 0 := by decide +kernel
set_option maxHeartbeats 600000 in
set_option maxRecDepth 100000 in
theorem c_X8_free (l : Launch) (G : GG) (a : Nat → Nat) (c : JX) (hc : OkJ c) (sz : Nat) : Met l yX8_free wsX8_free ({ frames := 3, cells := 0, slots := 0, locals := 72 }) (va_Pc [.ref (a 0)] (fun U => PreM G (WM G a c) sz U U.heap)) (Qm G.1 vwCl (some (.int (yFree c))) (WM G a c) (va_A (WM G a c) sz)) 0 0 (va_A (WM G a c) sz) := by
  refine Met.ofW (cc := cX8_free) (maxL := 3) (ret := (some .int)) (by decide) rfl ?_
  intro p e s m args below meth cd s₁ BB hml hv
  obtain ⟨rfl, ⟨hP, hK, hN⟩, hD0, hsz⟩ := hv
  have hx := BB.exec
  have hb := BB.bytes
  have hr := BB.returns
  have hts := atoms_spec (ws := wsX8_free) BB.pre
  have hown : s.vm.findClass RX8 = some m.cls := findClass_of_methodNamed BB.named
  have hlocks := BB.notSynchronized
  have hrc : 0 + 0 ≤ (headSpec wsX8_free ({ frames := 3, cells := 0, slots := 0, locals := 72 })).room.cells := Nat.le_refl _
  have hrs : 0 + 0 ≤ (headSpec wsX8_free ({ frames := 3, cells := 0, slots := 0, locals := 72 })).room.slots := Nat.le_refl _
  subst hsz
  have hD := hD0.self (sz := s.heap.size)
  generalize hAe : va_A (WM G a c) s.heap.size = A at hD ⊢
  have hA : ∀ q : Nat, s.heap.size ≤ q → A q := fun q h => by rw [← hAe]; exact Or.inr h
  have hS : va_S A s.heap s.heap [] := va_S.rf
  obtain ⟨hk7, ho1, ho5, hl200, hr6, hu10⟩ := id hc
  have hin8 : ∀ w ∈ u_ws RX8 TX8 24, w ∈ wsX8_free := by decide +kernel
  have hf28 := hts (.fieldLink RX8 28 "RegaliaVotesModel" "s" "[I") (by decide +kernel)
  have hf50 := hts (.fieldLink RX8 50 "RegaliaVotesModel" "thrown" "I") (by decide +kernel)
  refine wk_enter (n := 3) (Nat.le_of_ble_eq_true rfl) (fun ls hl => ?_)
  have hl : lv_has ls 3 [(0, .ref (a 0))] := hl
  refine lv_aload_n hx hb dX8_free_0 rfl (lv_at hl 0 rfl) ?_
  refine lv_iconst (v := 0) hx hb dX8_free_1 (by decide) ?_
  refine va_put (D := G.1) (v := .int 0) (ty := .int) hx hb hts hin8 tyX8 tyX8_ok nmX8 hown hK hP hD hS 0 (WM_0 G a c) rfl 0 (by decide) hf50 (fun _ h => h) rfl (by decide +kernel) rfl rfl (Nat.le_of_ble_eq_true rfl) dX8_free_2 (fun H locs hP hD hS => ?_)
  rw [WM_p0_0] at hP hD
  refine lv_aload_n hx hb dX8_free_5 rfl (lv_at hl 0 rfl) ?_
  refine lv_aload_n hx hb dX8_free_6 rfl (lv_at hl 0 rfl) ?_
  refine va_get (D := G.1) (v := .ref (a 5)) hx hb hts hin8 hown hK hP 0 (WM_0 G a c) rfl 15 (by decide) hf28 (fun _ h => h) rfl dX8_free_7 ?_
  refine wk_read (va_runV (As := [.ref (a 5)]) (rest := []) ⟨hx, hb, hml, hown, hts⟩ (c_X8_voices l G a c hc  false) (cwV 1 hts gX8_free_X8_voices rfl rfl rfl hdV_X8_voices ⟨Nat.le_of_ble_eq_true rfl, Nat.le_of_ble_eq_true rfl⟩) (PreW.pre (G := G) (W0 := WM G a c) ⟨hP, hK, hN⟩ (ci := 8) (q0 := 0) rfl rfl) rfl rfl hl.1 rfl (lv_room (Nat.le_of_ble_eq_true rfl)) dX8_free_10 ⟨hrc, hrs⟩) ?_
  refine W.eq (g2 := F0 m 13 ls [.int (jVoi (qN c 0) (qSo c) (qS c))]) rfl ?_
  refine lv_istore_n (lv' := [(1, .int (jVoi (qN c 0) (qSo c) (qS c))), (0, .ref (a 0))]) hx hb dX8_free_13 rfl hl (by decide) rfl (fun ls hl => ?_)
  refine lv_iconst (v := 0) hx hb dX8_free_14 (by decide) ?_
  refine lv_istore_n (lv' := [(2, .int 0), (1, .int (jVoi (qN c 0) (qSo c) (qS c))), (0, .ref (a 0))]) hx hb dX8_free_15 rfl hl (by decide) rfl (fun ls hl => ?_)
  refine wk_loop (σ := Nat × Int32) (nL := 3) (fun xσ n => match xσ with | (i, z) => i + n = 5 ∧ z = yFreeF c i) (fun xσ => match xσ with | (i, z) => [(2, .int (nI i)), (1, .int z), (0, .ref (a 0))]) (0, jVoi (qN c 0) (qSo c) (qS c)) 5 (⟨by omega, rfl⟩) hl ?_
  rintro n16 ⟨i, z⟩ ls hI16 hl ih16
  have hl : lv_has ls 3 [(2, .int (nI i)), (1, .int z), (0, .ref (a 0))] := hl
  obtain ⟨hi, hz⟩ := hI16
  refine lv_iload_n hx hb dX8_free_16 rfl (lv_at hl 0 rfl) ?_
  refine lv_iconst (v := 5) hx hb dX8_free_17 (by decide) ?_
  refine wk_ge (x := i) (y := 5) (tgt := 37) hx hb (by omega) (by omega) dX8_free_18 (by decide) (fun c18 => ?_) (fun c18 => ?_)
  · refine lv_iload_n hx hb dX8_free_37 rfl (lv_at hl 1 rfl) ?_
    exact wk_mret' hx hb hr hlocks dX8_free_38 hP hS (congrArg (fun z => some (Value.int z)) (show yFree c = z from by rw [hz, show i = 5 by omega]; rfl)) (rfl)
  · refine lv_iload_n hx hb dX8_free_21 rfl (lv_at hl 1 rfl) ?_
    refine lv_aload_n hx hb dX8_free_22 rfl (lv_at hl 2 rfl) ?_
    refine lv_iload_n hx hb dX8_free_23 rfl (lv_at hl 0 rfl) ?_
    refine wk_read (va_runV (As := [.int (nI i)]) (rest := [.int z]) ⟨hx, hb, hml, hown, hts⟩ (c_X8_swaysOf l G a c hc (nI i)) (cwV 1 hts gX8_free_X8_swaysOf rfl rfl rfl hdV_X8_swaysOf ⟨Nat.le_of_ble_eq_true rfl, Nat.le_of_ble_eq_true rfl⟩) (PreW.pre (G := G) (W0 := WM G a c) ⟨hP, hK, hN⟩ (ci := 8) (q0 := 0) rfl rfl) rfl rfl hl.1 rfl (lv_room (Nat.le_of_ble_eq_true rfl)) dX8_free_24 ⟨hrc, hrs⟩) ?_
    refine lv_iconst (v := -1) hx hb dX8_free_27 (by decide) ?_
    refine lv_ixor hx hb dX8_free_28 ?_
    show W _ _ _ _ _ _ _ _ _ _ _ _ _ _ _ (F0 _ _ _ (.int (iv (jSwy (qN c 0) (qSo c) (qVo c) (qBi c) (qS c) (nI i))) :: _))
    refine lv_iand hx hb dX8_free_29 ?_
    refine lv_istore_n (lv' := [(1, .int (z &&& (iv (jSwy (qN c 0) (qSo c) (qVo c) (qBi c) (qS c) (nI i))))), (2, .int (nI i)), (0, .ref (a 0))]) hx hb dX8_free_30 rfl hl (by decide) rfl (fun ls hl => ?_)
    refine lv_iinc (v := (nI (i + 1))) (lv' := [(2, .int (nI (i + 1))), (1, .int (z &&& (iv (jSwy (qN c 0) (qSo c) (qVo c) (qBi c) (qS c) (nI i))))), (0, .ref (a 0))]) hx hb dX8_free_31 hl (k := 1) rfl (wk_i1 i) (by decide) rfl (fun ls hl => ?_)
    refine lv_goto (tgt := 16) hx hb dX8_free_34 (by decide) ?_
    exact ih16 (i + 1, (z &&& (iv (jSwy (qN c 0) (qSo c) (qVo c) (qBi c) (qS c) (nI i))))) (n16 - 1) ls (by omega) (⟨by omega, by rw [hz]; rfl⟩) (lv_sub hl [0, 1, 2] rfl)
theorem hdV_X8_dummies : yX8_dummies.cls = RX8 ∧ yX8_dummies.cls ≠ "java/lang/invoke/MethodHandle" ∧ yX8_dummies.cls ≠ "java/lang/invoke/VarHandle" ∧ (parseMethodDescriptor yX8_dummies.desc).map (fun d => d.parameters.length) = some 0 := by decide +kernel
set_option maxHeartbeats 600000 in
set_option maxRecDepth 100000 in
theorem c_X8_dummies (l : Launch) (G : GG) (a : Nat → Nat) (c : JX) (hc : OkJ c) (sz : Nat) : Met l yX8_dummies wsX8_dummies ({ frames := 4, cells := 0, slots := 0, locals := 92 }) (va_Pc [.ref (a 0)] (fun U => PreM G (WM G a c) sz U U.heap)) (Qm G.1 vwCl (some (.int (yDum c))) (WM G a c) (va_A (WM G a c) sz)) 0 0 (va_A (WM G a c) sz) := by
  refine Met.ofW (cc := cX8_dummies) (maxL := 3) (ret := (some .int)) (by decide) rfl ?_
  intro p e s m args below meth cd s₁ BB hml hv
  obtain ⟨rfl, ⟨hP, hK, hN⟩, hD0, hsz⟩ := hv
  have hx := BB.exec
  have hb := BB.bytes
  have hr := BB.returns
  have hts := atoms_spec (ws := wsX8_dummies) BB.pre
  have hown : s.vm.findClass RX8 = some m.cls := findClass_of_methodNamed BB.named
  have hlocks := BB.notSynchronized
  have hrc : 0 + 0 ≤ (headSpec wsX8_dummies ({ frames := 4, cells := 0, slots := 0, locals := 92 })).room.cells := Nat.le_refl _
  have hrs : 0 + 0 ≤ (headSpec wsX8_dummies ({ frames := 4, cells := 0, slots := 0, locals := 92 })).room.slots := Nat.le_refl _
  subst hsz
  have hD := hD0.self (sz := s.heap.size)
  generalize hAe : va_A (WM G a c) s.heap.size = A at hD ⊢
  have hA : ∀ q : Nat, s.heap.size ≤ q → A q := fun q h => by rw [← hAe]; exact Or.inr h
  have hS : va_S A s.heap s.heap [] := va_S.rf
  obtain ⟨hk7, ho1, ho5, hl200, hr6, hu10⟩ := id hc
  have hin8 : ∀ w ∈ u_ws RX8 TX8 24, w ∈ wsX8_dummies := by decide +kernel
  have hf13 := hts (.fieldLink RX8 13 "RegaliaVotesModel" "many" "[I") (by decide +kernel)
  have hf28 := hts (.fieldLink RX8 28 "RegaliaVotesModel" "s" "[I") (by decide +kernel)
  have hf50 := hts (.fieldLink RX8 50 "RegaliaVotesModel" "thrown" "I") (by decide +kernel)
  refine wk_enter (n := 3) (Nat.le_of_ble_eq_true rfl) (fun ls hl => ?_)
  have hl : lv_has ls 3 [(0, .ref (a 0))] := hl
  refine lv_aload_n hx hb dX8_dummies_0 rfl (lv_at hl 0 rfl) ?_
  refine lv_iconst (v := 0) hx hb dX8_dummies_1 (by decide) ?_
  refine va_put (D := G.1) (v := .int 0) (ty := .int) hx hb hts hin8 tyX8 tyX8_ok nmX8 hown hK hP hD hS 0 (WM_0 G a c) rfl 0 (by decide) hf50 (fun _ h => h) rfl (by decide +kernel) rfl rfl (Nat.le_of_ble_eq_true rfl) dX8_dummies_2 (fun H locs hP hD hS => ?_)
  rw [WM_p0_0] at hP hD
  refine lv_iconst (v := 0) hx hb dX8_dummies_5 (by decide) ?_
  refine lv_istore_n (lv' := [(1, .int 0), (0, .ref (a 0))]) hx hb dX8_dummies_6 rfl hl (by decide) rfl (fun ls hl => ?_)
  refine lv_iconst (v := 0) hx hb dX8_dummies_7 (by decide) ?_
  refine lv_istore_n (lv' := [(2, .int 0), (1, .int 0), (0, .ref (a 0))]) hx hb dX8_dummies_8 rfl hl (by decide) rfl (fun ls hl => ?_)
  refine wk_loop (σ := Nat × Int32) (nL := 3) (fun xσ n => match xσ with | (i, z) => i + n = qN c 0 ∧ z = yDumF c i) (fun xσ => match xσ with | (i, z) => [(2, .int (nI i)), (1, .int z), (0, .ref (a 0))]) (0, 0) (qN c 0) (⟨by omega, rfl⟩) hl ?_
  rintro n9 ⟨i, z⟩ ls hI9 hl ih9
  have hl : lv_has ls 3 [(2, .int (nI i)), (1, .int z), (0, .ref (a 0))] := hl
  obtain ⟨hi, hz⟩ := hI9
  refine lv_iload_n hx hb dX8_dummies_9 rfl (lv_at hl 0 rfl) ?_
  refine lv_aload_n hx hb dX8_dummies_10 rfl (lv_at hl 2 rfl) ?_
  refine va_get (D := G.1) (v := .ref (a 1)) hx hb hts hin8 hown hK hP 0 (WM_0 G a c) rfl 9 (by decide) hf13 (fun _ h => h) rfl dX8_dummies_11 ?_
  refine lv_iconst (v := 0) hx hb dX8_dummies_14 (by decide) ?_
  refine wk_iald (i := 0) hx hb hK hP 1 1 (WM_1 G a c) rfl (by omega) (Nat.le_of_ble_eq_true rfl) dX8_dummies_15 ?_
  refine wk_ge (x := i) (y := (qN c 0)) (tgt := 55) hx hb (by omega) (by omega) dX8_dummies_16 (by decide) (fun c16 => ?_) (fun c16 => ?_)
  · refine lv_iload_n hx hb dX8_dummies_55 rfl (lv_at hl 1 rfl) ?_
    exact wk_mret' hx hb hr hlocks dX8_dummies_56 hP hS (congrArg (fun z => some (Value.int z)) (show yDum c = z from by rw [hz, show i = qN c 0 by omega]; rfl)) (rfl)
  · refine lv_iload_n hx hb dX8_dummies_19 rfl (lv_at hl 1 rfl) ?_
    refine lv_aload_n hx hb dX8_dummies_20 rfl (lv_at hl 2 rfl) ?_
    refine lv_aload_n hx hb dX8_dummies_21 rfl (lv_at hl 2 rfl) ?_
    refine va_get (D := G.1) (v := .ref (a 5)) hx hb hts hin8 hown hK hP 0 (WM_0 G a c) rfl 15 (by decide) hf28 (fun _ h => h) rfl dX8_dummies_22 ?_
    refine lv_iload_n hx hb dX8_dummies_25 rfl (lv_at hl 0 rfl) ?_
    refine wk_read (va_runV (As := [.ref (a 5), .int (nI i)]) (rest := [.int z]) ⟨hx, hb, hml, hown, hts⟩ (c_X8_speaks l G a c hc i false (by omega)) (cwV 2 hts gX8_dummies_X8_speaks rfl rfl rfl hdV_X8_speaks ⟨Nat.le_of_ble_eq_true rfl, Nat.le_of_ble_eq_true rfl⟩) (PreW.pre (G := G) (W0 := WM G a c) ⟨hP, hK, hN⟩ (ci := 8) (q0 := 0) rfl rfl) rfl rfl hl.1 rfl (lv_room (Nat.le_of_ble_eq_true rfl)) dX8_dummies_26 ⟨hrc, hrs⟩) ?_
    refine W.eq (g2 := F0 m 29 ls [.int (b2i (jSpk (qSo c) (qS c) i)), .int z]) rfl ?_
    refine lv_if_eq (tgt := 46) hx hb dX8_dummies_29 (by decide) (fun c29 => ?_) (fun c29 => ?_)
    · have c29 := b2i_f c29
      refine lv_iconst (v := 0) hx hb dX8_dummies_46 (by decide) ?_
      refine lv_ior hx hb dX8_dummies_47 ?_
      refine lv_istore_n (lv' := [(1, .int (z ||| 0)), (2, .int (nI i)), (0, .ref (a 0))]) hx hb dX8_dummies_48 rfl hl (by decide) rfl (fun ls hl => ?_)
      refine lv_iinc (v := (nI (i + 1))) (lv' := [(2, .int (nI (i + 1))), (1, .int (z ||| 0)), (0, .ref (a 0))]) hx hb dX8_dummies_49 hl (k := 1) rfl (wk_i1 i) (by decide) rfl (fun ls hl => ?_)
      refine lv_goto (tgt := 9) hx hb dX8_dummies_52 (by decide) ?_
      exact ih9 (i + 1, (z ||| 0)) (n9 - 1) ls (by omega) (⟨by omega, by rw [hz]; simp [yDumF, fo_s, c16, c29]⟩) (lv_sub hl [0, 1, 2] rfl)
    · have c29 := b2i_t c29
      refine lv_aload_n hx hb dX8_dummies_32 rfl (lv_at hl 2 rfl) ?_
      refine lv_iload_n hx hb dX8_dummies_33 rfl (lv_at hl 0 rfl) ?_
      refine wk_read (va_runV (As := [.int (nI i)]) (rest := [.int z]) ⟨hx, hb, hml, hown, hts⟩ (c_X8_decides l G a c hc i) (cwV 1 hts gX8_dummies_X8_decides rfl rfl rfl hdV_X8_decides ⟨Nat.le_of_ble_eq_true rfl, Nat.le_of_ble_eq_true rfl⟩) (PreW.pre (G := G) (W0 := WM G a c) ⟨hP, hK, hN⟩ (ci := 8) (q0 := 0) rfl rfl) rfl rfl hl.1 rfl (lv_room (Nat.le_of_ble_eq_true rfl)) dX8_dummies_34 ⟨hrc, hrs⟩) ?_
      refine lv_if_ne (tgt := 46) hx hb dX8_dummies_37 (by decide) (fun c37 => ?_) (fun c37 => ?_)
      · refine lv_iconst (v := 0) hx hb dX8_dummies_46 (by decide) ?_
        refine lv_ior hx hb dX8_dummies_47 ?_
        refine lv_istore_n (lv' := [(1, .int (z ||| 0)), (2, .int (nI i)), (0, .ref (a 0))]) hx hb dX8_dummies_48 rfl hl (by decide) rfl (fun ls hl => ?_)
        refine lv_iinc (v := (nI (i + 1))) (lv' := [(2, .int (nI (i + 1))), (1, .int (z ||| 0)), (0, .ref (a 0))]) hx hb dX8_dummies_49 hl (k := 1) rfl (wk_i1 i) (by decide) rfl (fun ls hl => ?_)
        refine lv_goto (tgt := 9) hx hb dX8_dummies_52 (by decide) ?_
        exact ih9 (i + 1, (z ||| 0)) (n9 - 1) ls (by omega) (⟨by omega, by rw [hz]; simp [yDumF, fo_s, c16, c29, c37]⟩) (lv_sub hl [0, 1, 2] rfl)
      · refine lv_iconst (v := 1) hx hb dX8_dummies_40 (by decide) ?_
        refine lv_iload_n hx hb dX8_dummies_41 rfl (lv_at hl 0 rfl) ?_
        refine lv_ishl hx hb dX8_dummies_42 ?_
        show W _ _ _ _ _ _ _ _ _ _ _ _ _ _ _ (F0 _ _ _ (.int (sh1 (nI i)) :: _))
        refine lv_goto (tgt := 47) hx hb dX8_dummies_43 (by decide) ?_
        refine lv_ior hx hb dX8_dummies_47 ?_
        refine lv_istore_n (lv' := [(1, .int (z ||| (sh1 (nI i)))), (2, .int (nI i)), (0, .ref (a 0))]) hx hb dX8_dummies_48 rfl hl (by decide) rfl (fun ls hl => ?_)
        refine lv_iinc (v := (nI (i + 1))) (lv' := [(2, .int (nI (i + 1))), (1, .int (z ||| (sh1 (nI i)))), (0, .ref (a 0))]) hx hb dX8_dummies_49 hl (k := 1) rfl (wk_i1 i) (by decide) rfl (fun ls hl => ?_)
        refine lv_goto (tgt := 9) hx hb dX8_dummies_52 (by decide) ?_
        exact ih9 (i + 1, (z ||| (sh1 (nI i)))) (n9 - 1) ls (by omega) (⟨by omega, by rw [hz]; simp [yDumF, fo_s, c16, c29, c37]⟩) (lv_sub hl [0, 1, 2] rfl)
theorem hdV_X8_least : yX8_least.cls = RX8 ∧ yX8_least.cls ≠ "java/lang/invoke/MethodHandle" ∧ yX8_least.cls ≠ "java/lang/invoke/VarHandle" ∧ (parseMethodDescriptor yX8_least.desc).map (fun d => d.parameters.length) = some 1 := by decide +kernel
set_option maxHeartbeats 600000 in
set_option maxRecDepth 100000 in
theorem c_X8_least (l : Launch) (G : GG) (a : Nat → Nat) (c : JX) (hc : OkJ c) (w : Int32) (sz : Nat) : Met l yX8_least wsX8_least ({ frames := 4, cells := 0, slots := 0, locals := 90 }) (va_Pc [.ref (a 0), .int w] (fun U => PreM G (WM G a c) sz U U.heap)) (Qm G.1 vwCl (some (.int (yLeast c w))) (WM G a c) (va_A (WM G a c) sz)) 0 0 (va_A (WM G a c) sz) := by
  refine Met.ofW (cc := cX8_least) (maxL := 5) (ret := (some .int)) (by decide) rfl ?_
  intro p e s m args below meth cd s₁ BB hml hv
  obtain ⟨rfl, ⟨hP, hK, hN⟩, hD0, hsz⟩ := hv
  have hx := BB.exec
  have hb := BB.bytes
  have hr := BB.returns
  have hts := atoms_spec (ws := wsX8_least) BB.pre
  have hown : s.vm.findClass RX8 = some m.cls := findClass_of_methodNamed BB.named
  have hlocks := BB.notSynchronized
  have hrc : 0 + 0 ≤ (headSpec wsX8_least ({ frames := 4, cells := 0, slots := 0, locals := 90 })).room.cells := Nat.le_refl _
  have hrs : 0 + 0 ≤ (headSpec wsX8_least ({ frames := 4, cells := 0, slots := 0, locals := 90 })).room.slots := Nat.le_refl _
  subst hsz
  have hD := hD0.self (sz := s.heap.size)
  generalize hAe : va_A (WM G a c) s.heap.size = A at hD ⊢
  have hA : ∀ q : Nat, s.heap.size ≤ q → A q := fun q h => by rw [← hAe]; exact Or.inr h
  have hS : va_S A s.heap s.heap [] := va_S.rf
  obtain ⟨hk7, ho1, ho5, hl200, hr6, hu10⟩ := id hc
  have hin8 : ∀ w ∈ u_ws RX8 TX8 24, w ∈ wsX8_least := by decide +kernel
  have hf50 := hts (.fieldLink RX8 50 "RegaliaVotesModel" "thrown" "I") (by decide +kernel)
  refine wk_enter (n := 5) (Nat.le_of_ble_eq_true rfl) (fun ls hl => ?_)
  have hl : lv_has ls 5 [(0, .ref (a 0)), (1, .int w)] := hl
  refine lv_aload_n hx hb dX8_least_0 rfl (lv_at hl 0 rfl) ?_
  refine lv_iconst (v := 0) hx hb dX8_least_1 (by decide) ?_
  refine va_put (D := G.1) (v := .int 0) (ty := .int) hx hb hts hin8 tyX8 tyX8_ok nmX8 hown hK hP hD hS 0 (WM_0 G a c) rfl 0 (by decide) hf50 (fun _ h => h) rfl (by decide +kernel) rfl rfl (Nat.le_of_ble_eq_true rfl) dX8_least_2 (fun H locs hP hD hS => ?_)
  rw [WM_p0_0] at hP hD
  refine lv_iload_n hx hb dX8_least_5 rfl (lv_at hl 1 rfl) ?_
  refine lv_iconst (v := 0) hx hb dX8_least_6 (by decide) ?_
  refine lv_iconst (v := 1) hx hb dX8_least_7 (by decide) ?_
  refine wk_read (va_runS (As := [.int w, .int 0, .int 1]) (rest := []) ⟨hx, hb, hml, hown, hts⟩ (c_X8_in l w 0 1) (va_cwS 3 hts gX8_least_X8_in rfl rfl rfl hdS_X8_in ⟨Nat.le_of_ble_eq_true rfl, Nat.le_of_ble_eq_true rfl⟩) preEq rfl rfl hl.1 rfl (lv_room (Nat.le_of_ble_eq_true rfl)) dX8_least_8 ⟨hrc, hrs⟩) ?_
  refine lv_if_ne (tgt := 16) hx hb dX8_least_11 (by decide) (fun c11 => ?_) (fun c11 => ?_)
  · have c11 := b2i_t c11
    refine lv_iconst (v := 0) hx hb dX8_least_16 (by decide) ?_
    refine lv_istore_n (lv' := [(2, .int 0), (0, .ref (a 0)), (1, .int w)]) hx hb dX8_least_17 rfl hl (by decide) rfl (fun ls hl => ?_)
    refine lv_bipush (v := -9) hx hb dX8_least_18 (by decide) ?_
    refine lv_istore_n (lv' := [(3, .int (-9)), (2, .int 0), (0, .ref (a 0)), (1, .int w)]) hx hb dX8_least_20 rfl hl (by decide) rfl (fun ls hl => ?_)
    refine lv_iconst (v := 0) hx hb dX8_least_21 (by decide) ?_
    refine lv_istore (lv' := [(4, .int 0), (3, .int (-9)), (2, .int 0), (0, .ref (a 0)), (1, .int w)]) hx hb dX8_least_22 hl (by decide) rfl (fun ls hl => ?_)
    refine wk_loop (σ := Nat × Nat × Int32) (nL := 5) (fun xσ n => match xσ with | (i, k, z) => i + n = 128 ∧ (k, z) = jFir (yLeaP c) i) (fun xσ => match xσ with | (i, k, z) => [(4, .int (nI i)), (3, .int z), (2, .int (nI k)), (0, .ref (a 0)), (1, .int w)]) (0, 0, -9) 128 (⟨by omega, rfl⟩) hl ?_
    rintro n24 ⟨i, k, z⟩ ls hI24 hl ih24
    have hl : lv_has ls 5 [(4, .int (nI i)), (3, .int z), (2, .int (nI k)), (0, .ref (a 0)), (1, .int w)] := hl
    obtain ⟨hi, hz⟩ := hI24
    have hk9 := jFir_n (yLeaP c) i
    rw [← hz] at hk9
    have hk9 : k ≤ i := hk9
    refine lv_iload hx hb dX8_least_24 (lv_at hl 0 rfl) ?_
    refine lv_sipush (v := 128) hx hb dX8_least_26 (by decide) ?_
    refine wk_ge (x := i) (y := 128) (tgt := 61) hx hb (by omega) (by omega) dX8_least_29 (by decide) (fun c29 => ?_) (fun c29 => ?_)
    · refine lv_iload_n hx hb dX8_least_61 rfl (lv_at hl 4 rfl) ?_
      refine lv_if_ne (tgt := 69) hx hb dX8_least_62 (by decide) (fun c62 => ?_) (fun c62 => ?_)
      · refine lv_iload_n hx hb dX8_least_69 rfl (lv_at hl 1 rfl) ?_
        exact wk_mret' hx hb hr hlocks dX8_least_70 hP hS (congrArg (fun z => some (Value.int z)) (show yLeast c w = z from by rw [yLeast, c11, show 128 = i by omega, ← hz]; simp [c62])) (rfl)
      · refine lv_iload_n hx hb dX8_least_65 rfl (lv_at hl 2 rfl) ?_
        refine lv_goto (tgt := 70) hx hb dX8_least_66 (by decide) ?_
        exact wk_mret' hx hb hr hlocks dX8_least_70 hP hS (congrArg (fun z => some (Value.int z)) (show yLeast c w = (nI k) from by rw [yLeast, c11, show 128 = i by omega, ← hz]; simp [c62])) (rfl)
    · refine lv_aload_n hx hb dX8_least_32 rfl (lv_at hl 3 rfl) ?_
      refine lv_iload hx hb dX8_least_33 (lv_at hl 0 rfl) ?_
      refine wk_read (va_runV (As := [.int (nI i)]) (rest := []) ⟨hx, hb, hml, hown, hts⟩ (c_X8_isLeast l G a c hc (nI i)) (cwV 1 hts gX8_least_X8_isLeast rfl rfl rfl hdV_X8_isLeast ⟨Nat.le_of_ble_eq_true rfl, Nat.le_of_ble_eq_true rfl⟩) (PreW.pre (G := G) (W0 := WM G a c) ⟨hP, hK, hN⟩ (ci := 8) (q0 := 0) rfl rfl) rfl rfl hl.1 rfl (lv_room (Nat.le_of_ble_eq_true rfl)) dX8_least_35 ⟨hrc, hrs⟩) ?_
      refine lv_if_eq (tgt := 55) hx hb dX8_least_38 (by decide) (fun c38 => ?_) (fun c38 => ?_)
      · have c38 := b2i_f c38
        refine lv_iinc (v := (nI (i + 1))) (lv' := [(4, .int (nI (i + 1))), (3, .int z), (2, .int (nI k)), (0, .ref (a 0)), (1, .int w)]) hx hb dX8_least_55 hl (k := 0) rfl (wk_i1 i) (by decide) rfl (fun ls hl => ?_)
        refine lv_goto (tgt := 24) hx hb dX8_least_58 (by decide) ?_
        exact ih24 (i + 1, k, z) (n24 - 1) ls (by omega) (⟨by omega, by rw [jFir, fo_s, ← jFir, ← hz]; simp [yLeaP, c11, c29, c38]⟩) (lv_sub hl [0, 1, 2, 3, 4] rfl)
      · have c38 := b2i_t c38
        refine lv_iload_n hx hb dX8_least_41 rfl (lv_at hl 2 rfl) ?_
        refine lv_if_ne (tgt := 50) hx hb dX8_least_42 (by decide) (fun c42 => ?_) (fun c42 => ?_)
        · have c42 := nI_nz c42
          refine lv_iload_n hx hb dX8_least_50 rfl (lv_at hl 1 rfl) ?_
          refine lv_istore_n (lv' := [(3, .int z), (4, .int (nI i)), (2, .int (nI k)), (0, .ref (a 0)), (1, .int w)]) hx hb dX8_least_51 rfl hl (by decide) rfl (fun ls hl => ?_)
          refine lv_iinc (v := (nI (k + 1))) (lv' := [(2, .int (nI (k + 1))), (3, .int z), (4, .int (nI i)), (0, .ref (a 0)), (1, .int w)]) hx hb dX8_least_52 hl (k := 2) rfl (wk_i1 k) (by decide) rfl (fun ls hl => ?_)
          refine lv_iinc (v := (nI (i + 1))) (lv' := [(4, .int (nI (i + 1))), (2, .int (nI (k + 1))), (3, .int z), (0, .ref (a 0)), (1, .int w)]) hx hb dX8_least_55 hl (k := 2) rfl (wk_i1 i) (by decide) rfl (fun ls hl => ?_)
          refine lv_goto (tgt := 24) hx hb dX8_least_58 (by decide) ?_
          exact ih24 (i + 1, (k + 1), z) (n24 - 1) ls (by omega) (⟨by omega, by rw [jFir, fo_s, ← jFir, ← hz]; simp [yLeaP, c11, c29, c38, Nat.ne_of_gt c42]⟩) (lv_sub hl [0, 2, 1, 3, 4] rfl)
        · have c42 := nI_z (by omega) c42
          refine lv_iload hx hb dX8_least_45 (lv_at hl 0 rfl) ?_
          refine lv_goto (tgt := 51) hx hb dX8_least_47 (by decide) ?_
          refine lv_istore_n (lv' := [(3, .int (nI i)), (4, .int (nI i)), (2, .int (nI k)), (0, .ref (a 0)), (1, .int w)]) hx hb dX8_least_51 rfl hl (by decide) rfl (fun ls hl => ?_)
          refine lv_iinc (v := (nI (k + 1))) (lv' := [(2, .int (nI (k + 1))), (3, .int (nI i)), (4, .int (nI i)), (0, .ref (a 0)), (1, .int w)]) hx hb dX8_least_52 hl (k := 2) rfl (wk_i1 k) (by decide) rfl (fun ls hl => ?_)
          refine lv_iinc (v := (nI (i + 1))) (lv' := [(4, .int (nI (i + 1))), (2, .int (nI (k + 1))), (3, .int (nI i)), (0, .ref (a 0)), (1, .int w)]) hx hb dX8_least_55 hl (k := 2) rfl (wk_i1 i) (by decide) rfl (fun ls hl => ?_)
          refine lv_goto (tgt := 24) hx hb dX8_least_58 (by decide) ?_
          exact ih24 (i + 1, (k + 1), (nI i)) (n24 - 1) ls (by omega) (⟨by omega, by rw [jFir, fo_s, ← jFir, ← hz]; simp [yLeaP, c11, c29, c38, c42]⟩) (lv_sub hl [0, 2, 1, 3, 4] rfl)
  · have c11 := b2i_f c11
    refine lv_iconst (v := -1) hx hb dX8_least_14 (by decide) ?_
    exact wk_mret' hx hb hr hlocks dX8_least_15 hP hS (congrArg (fun z => some (Value.int z)) (show yLeast c w = (-1) from by (simp only [yLeast, c11, if_true, if_false, reduceIte, not_true_eq_false, not_false_eq_true, Bool.and_true, Bool.true_and, Bool.and_self, Bool.and_false, Bool.false_and, Bool.false_eq_true]) <;> simp [])) (rfl)
theorem hdV_X8_turn : yX8_turn.cls = RX8 ∧ yX8_turn.cls ≠ "java/lang/invoke/MethodHandle" ∧ yX8_turn.cls ≠ "java/lang/invoke/VarHandle" ∧ (parseMethodDescriptor yX8_turn.desc).map (fun d => d.parameters.length) = some 1 := by decide +kernel
set_option maxHeartbeats 600000 in
set_option maxRecDepth 100000 in
theorem c_X8_turn (l : Launch) (G : GG) (a : Nat → Nat) (c : JX) (hc : OkJ c) (b : Int32) (sz : Nat) : Met l yX8_turn wsX8_turn ({ frames := 2, cells := 0, slots := 0, locals := 46 }) (va_Pc [.ref (a 0), .int b] (fun U => PreM G (WM G a c) sz U U.heap)) (Qm G.1 vwCl (some (.int (yTurn c b))) (WM G a c) (va_A (WM G a c) sz)) 0 0 (va_A (WM G a c) sz) := by
  refine Met.ofW (cc := cX8_turn) (maxL := 6) (ret := (some .int)) (by decide) rfl ?_
  intro p e s m args below meth cd s₁ BB hml hv
  obtain ⟨rfl, ⟨hP, hK, hN⟩, hD0, hsz⟩ := hv
  have hx := BB.exec
  have hb := BB.bytes
  have hr := BB.returns
  have hts := atoms_spec (ws := wsX8_turn) BB.pre
  have hown : s.vm.findClass RX8 = some m.cls := findClass_of_methodNamed BB.named
  have hlocks := BB.notSynchronized
  have hrc : 0 + 0 ≤ (headSpec wsX8_turn ({ frames := 2, cells := 0, slots := 0, locals := 46 })).room.cells := Nat.le_refl _
  have hrs : 0 + 0 ≤ (headSpec wsX8_turn ({ frames := 2, cells := 0, slots := 0, locals := 46 })).room.slots := Nat.le_refl _
  subst hsz
  have hD := hD0.self (sz := s.heap.size)
  generalize hAe : va_A (WM G a c) s.heap.size = A at hD ⊢
  have hA : ∀ q : Nat, s.heap.size ≤ q → A q := fun q h => by rw [← hAe]; exact Or.inr h
  have hS : va_S A s.heap s.heap [] := va_S.rf
  obtain ⟨hk7, ho1, ho5, hl200, hr6, hu10⟩ := id hc
  have hin8 : ∀ w ∈ u_ws RX8 TX8 24, w ∈ wsX8_turn := by decide +kernel
  have hf28 := hts (.fieldLink RX8 28 "RegaliaVotesModel" "s" "[I") (by decide +kernel)
  have hf50 := hts (.fieldLink RX8 50 "RegaliaVotesModel" "thrown" "I") (by decide +kernel)
  refine wk_enter (n := 6) (Nat.le_of_ble_eq_true rfl) (fun ls hl => ?_)
  have hl : lv_has ls 6 [(0, .ref (a 0)), (1, .int b)] := hl
  refine lv_aload_n hx hb dX8_turn_0 rfl (lv_at hl 0 rfl) ?_
  refine lv_iconst (v := 0) hx hb dX8_turn_1 (by decide) ?_
  refine va_put (D := G.1) (v := .int 0) (ty := .int) hx hb hts hin8 tyX8 tyX8_ok nmX8 hown hK hP hD hS 0 (WM_0 G a c) rfl 0 (by decide) hf50 (fun _ h => h) rfl (by decide +kernel) rfl rfl (Nat.le_of_ble_eq_true rfl) dX8_turn_2 (fun H locs hP hD hS => ?_)
  rw [WM_p0_0] at hP hD
  refine lv_iload_n hx hb dX8_turn_5 rfl (lv_at hl 1 rfl) ?_
  refine wk_read (va_runS (As := [.int b]) (rest := []) ⟨hx, hb, hml, hown, hts⟩ (c_X8_isBill l b) (va_cwS 1 hts gX8_turn_X8_isBill rfl rfl rfl hdS_X8_isBill ⟨Nat.le_of_ble_eq_true rfl, Nat.le_of_ble_eq_true rfl⟩) preEq rfl rfl hl.1 rfl (lv_room (Nat.le_of_ble_eq_true rfl)) dX8_turn_6 ⟨hrc, hrs⟩) ?_
  refine lv_if_ne (tgt := 14) hx hb dX8_turn_9 (by decide) (fun c9 => ?_) (fun c9 => ?_)
  · have c9 := b2i_t c9
    refine lv_aload_n hx hb dX8_turn_14 rfl (lv_at hl 0 rfl) ?_
    refine lv_aload_n hx hb dX8_turn_15 rfl (lv_at hl 0 rfl) ?_
    refine va_get (D := G.1) (v := .ref (a 5)) hx hb hts hin8 hown hK hP 0 (WM_0 G a c) rfl 15 (by decide) hf28 (fun _ h => h) rfl dX8_turn_16 ?_
    refine wk_read (va_runV (As := [.ref (a 5)]) (rest := []) ⟨hx, hb, hml, hown, hts⟩ (c_X8_voices l G a c hc  false) (cwV 1 hts gX8_turn_X8_voices rfl rfl rfl hdV_X8_voices ⟨Nat.le_of_ble_eq_true rfl, Nat.le_of_ble_eq_true rfl⟩) (PreW.pre (G := G) (W0 := WM G a c) ⟨hP, hK, hN⟩ (ci := 8) (q0 := 0) rfl rfl) rfl rfl hl.1 rfl (lv_room (Nat.le_of_ble_eq_true rfl)) dX8_turn_19 ⟨hrc, hrs⟩) ?_
    refine W.eq (g2 := F0 m 22 ls [.int (jVoi (qN c 0) (qSo c) (qS c))]) rfl ?_
    refine lv_istore_n (lv' := [(2, .int (jVoi (qN c 0) (qSo c) (qS c))), (0, .ref (a 0)), (1, .int b)]) hx hb dX8_turn_22 rfl hl (by decide) rfl (fun ls hl => ?_)
    refine lv_bipush (v := -9) hx hb dX8_turn_23 (by decide) ?_
    refine lv_istore_n (lv' := [(3, .int (-9)), (2, .int (jVoi (qN c 0) (qSo c) (qS c))), (0, .ref (a 0)), (1, .int b)]) hx hb dX8_turn_25 rfl hl (by decide) rfl (fun ls hl => ?_)
    refine lv_iconst (v := 0) hx hb dX8_turn_26 (by decide) ?_
    refine lv_istore (lv' := [(4, .int 0), (3, .int (-9)), (2, .int (jVoi (qN c 0) (qSo c) (qS c))), (0, .ref (a 0)), (1, .int b)]) hx hb dX8_turn_27 hl (by decide) rfl (fun ls hl => ?_)
    refine wk_loop (σ := Nat × Int32) (nL := 6) (fun xσ n => match xσ with | (i, z) => i + n = 128 ∧ z = yTurnF c b i) (fun xσ => match xσ with | (i, z) => [(4, .int (nI i)), (3, .int z), (2, .int (jVoi (qN c 0) (qSo c) (qS c))), (0, .ref (a 0)), (1, .int b)]) (0, -9) 128 (⟨by omega, rfl⟩) hl ?_
    rintro n29 ⟨i, z⟩ ls hI29 hl ih29
    have hl : lv_has ls 6 [(4, .int (nI i)), (3, .int z), (2, .int (jVoi (qN c 0) (qSo c) (qS c))), (0, .ref (a 0)), (1, .int b)] := hl
    obtain ⟨hi, hz⟩ := hI29
    refine lv_iload hx hb dX8_turn_29 (lv_at hl 0 rfl) ?_
    refine lv_sipush (v := 128) hx hb dX8_turn_31 (by decide) ?_
    refine wk_ge (x := i) (y := 128) (tgt := 109) hx hb (by omega) (by omega) dX8_turn_34 (by decide) (fun c34 => ?_) (fun c34 => ?_)
    · refine lv_iload_n hx hb dX8_turn_109 rfl (lv_at hl 1 rfl) ?_
      exact wk_mret' hx hb hr hlocks dX8_turn_110 hP hS (congrArg (fun z => some (Value.int z)) (show yTurn c b = z from by rw [yTurn, c9, hz, show i = 128 by omega]; rfl)) (rfl)
    · refine lv_iload hx hb dX8_turn_37 (lv_at hl 0 rfl) ?_
      refine lv_iload_n hx hb dX8_turn_39 rfl (lv_at hl 2 rfl) ?_
      refine lv_iconst (v := -1) hx hb dX8_turn_40 (by decide) ?_
      refine lv_ixor hx hb dX8_turn_41 ?_
      show W _ _ _ _ _ _ _ _ _ _ _ _ _ _ _ (F0 _ _ _ (.int (iv (jVoi (qN c 0) (qSo c) (qS c))) :: _))
      refine lv_iand hx hb dX8_turn_42 ?_
      refine lv_if_ne (tgt := 68) hx hb dX8_turn_43 (by decide) (fun c43 => ?_) (fun c43 => ?_)
      · refine lv_iconst (v := 0) hx hb dX8_turn_68 (by decide) ?_
        refine lv_istore (lv' := [(5, .int 0), (4, .int (nI i)), (3, .int z), (2, .int (jVoi (qN c 0) (qSo c) (qS c))), (0, .ref (a 0)), (1, .int b)]) hx hb dX8_turn_69 hl (by decide) rfl (fun ls hl => ?_)
        refine lv_iload hx hb dX8_turn_71 (lv_at hl 0 rfl) ?_
        refine lv_if_eq (tgt := 101) hx hb dX8_turn_73 (by decide) (fun c73 => ?_) (fun c73 => ?_)
        · refine lv_iload_n hx hb dX8_turn_101 rfl (lv_at hl 2 rfl) ?_
          refine lv_istore_n (lv' := [(3, .int z), (5, .int 0), (4, .int (nI i)), (2, .int (jVoi (qN c 0) (qSo c) (qS c))), (0, .ref (a 0)), (1, .int b)]) hx hb dX8_turn_102 rfl hl (by decide) rfl (fun ls hl => ?_)
          refine lv_iinc (v := (nI (i + 1))) (lv' := [(4, .int (nI (i + 1))), (3, .int z), (5, .int 0), (2, .int (jVoi (qN c 0) (qSo c) (qS c))), (0, .ref (a 0)), (1, .int b)]) hx hb dX8_turn_103 hl (k := 2) rfl (wk_i1 i) (by decide) rfl (fun ls hl => ?_)
          refine lv_goto (tgt := 29) hx hb dX8_turn_106 (by decide) ?_
          exact ih29 (i + 1, z) (n29 - 1) ls (by omega) (⟨by omega, by rw [yTurnF, fo_s, ← yTurnF, ← hz]; simp [c9, c34, c43]⟩) (lv_sub hl [0, 1, 3, 4, 5] rfl)
        · exact absurd c73 (by decide)
      · refine lv_iload_n hx hb dX8_turn_46 rfl (lv_at hl 1 rfl) ?_
        refine lv_bipush (v := -9) hx hb dX8_turn_47 (by decide) ?_
        refine lv_icmp_eq (tgt := 64) hx hb dX8_turn_49 (by decide) (fun c49 => ?_) (fun c49 => ?_)
        · refine lv_iconst (v := 1) hx hb dX8_turn_64 (by decide) ?_
          refine lv_goto (tgt := 69) hx hb dX8_turn_65 (by decide) ?_
          refine lv_istore (lv' := [(5, .int 1), (4, .int (nI i)), (3, .int z), (2, .int (jVoi (qN c 0) (qSo c) (qS c))), (0, .ref (a 0)), (1, .int b)]) hx hb dX8_turn_69 hl (by decide) rfl (fun ls hl => ?_)
          refine lv_iload hx hb dX8_turn_71 (lv_at hl 0 rfl) ?_
          refine lv_if_eq (tgt := 101) hx hb dX8_turn_73 (by decide) (fun c73 => ?_) (fun c73 => ?_)
          · exact absurd c73 (by decide)
          · refine lv_aload_n hx hb dX8_turn_76 rfl (lv_at hl 4 rfl) ?_
            refine lv_iload_n hx hb dX8_turn_77 rfl (lv_at hl 3 rfl) ?_
            refine lv_aload_n hx hb dX8_turn_78 rfl (lv_at hl 4 rfl) ?_
            refine lv_aload_n hx hb dX8_turn_79 rfl (lv_at hl 4 rfl) ?_
            refine va_get (D := G.1) (v := .ref (a 5)) hx hb hts hin8 hown hK hP 0 (WM_0 G a c) rfl 15 (by decide) hf28 (fun _ h => h) rfl dX8_turn_80 ?_
            refine lv_iload_n hx hb dX8_turn_83 rfl (lv_at hl 5 rfl) ?_
            refine wk_read (va_runV (As := [.ref (a 5), .int b]) (rest := [.int (jVoi (qN c 0) (qSo c) (qS c)), .ref (a 0)]) ⟨hx, hb, hml, hown, hts⟩ (c_X8_saysYes l G a c hc b false) (cwV 2 hts gX8_turn_X8_saysYes rfl rfl rfl hdV_X8_saysYes ⟨Nat.le_of_ble_eq_true rfl, Nat.le_of_ble_eq_true rfl⟩) (PreW.pre (G := G) (W0 := WM G a c) ⟨hP, hK, hN⟩ (ci := 8) (q0 := 0) rfl rfl) rfl rfl hl.1 rfl (lv_room (Nat.le_of_ble_eq_true rfl)) dX8_turn_84 ⟨hrc, hrs⟩) ?_
            refine W.eq (g2 := F0 m 87 ls [.int (jYes (qN c 0) (qBi c) (qS c) b), .int (jVoi (qN c 0) (qSo c) (qS c)), .ref (a 0)]) rfl ?_
            refine lv_iload hx hb dX8_turn_87 (lv_at hl 1 rfl) ?_
            refine lv_ixor hx hb dX8_turn_89 ?_
            refine wk_read (va_runV (As := [.int (jVoi (qN c 0) (qSo c) (qS c)), .int ((jYes (qN c 0) (qBi c) (qS c) b) ^^^ (nI i))]) (rest := []) ⟨hx, hb, hml, hown, hts⟩ (c_X8_passesBy l G a c hc (jVoi (qN c 0) (qSo c) (qS c)) ((jYes (qN c 0) (qBi c) (qS c) b) ^^^ (nI i))) (cwV 2 hts gX8_turn_X8_passesBy rfl rfl rfl hdV_X8_passesBy ⟨Nat.le_of_ble_eq_true rfl, Nat.le_of_ble_eq_true rfl⟩) (PreW.pre (G := G) (W0 := WM G a c) ⟨hP, hK, hN⟩ (ci := 8) (q0 := 0) rfl rfl) rfl rfl hl.1 rfl (lv_room (Nat.le_of_ble_eq_true rfl)) dX8_turn_90 ⟨hrc, hrs⟩) ?_
            refine lv_if_eq (tgt := 101) hx hb dX8_turn_93 (by decide) (fun c93 => ?_) (fun c93 => ?_)
            · have c93 := b2i_f c93
              refine lv_iload_n hx hb dX8_turn_101 rfl (lv_at hl 2 rfl) ?_
              refine lv_istore_n (lv' := [(3, .int z), (5, .int 1), (4, .int (nI i)), (2, .int (jVoi (qN c 0) (qSo c) (qS c))), (0, .ref (a 0)), (1, .int b)]) hx hb dX8_turn_102 rfl hl (by decide) rfl (fun ls hl => ?_)
              refine lv_iinc (v := (nI (i + 1))) (lv' := [(4, .int (nI (i + 1))), (3, .int z), (5, .int 1), (2, .int (jVoi (qN c 0) (qSo c) (qS c))), (0, .ref (a 0)), (1, .int b)]) hx hb dX8_turn_103 hl (k := 2) rfl (wk_i1 i) (by decide) rfl (fun ls hl => ?_)
              refine lv_goto (tgt := 29) hx hb dX8_turn_106 (by decide) ?_
              exact ih29 (i + 1, z) (n29 - 1) ls (by omega) (⟨by omega, by rw [yTurnF, fo_s, ← yTurnF, ← hz]; simp [c9, c34, c43, c49, c93]⟩) (lv_sub hl [0, 1, 3, 4, 5] rfl)
            · have c93 := b2i_t c93
              refine lv_iload hx hb dX8_turn_96 (lv_at hl 1 rfl) ?_
              refine lv_goto (tgt := 102) hx hb dX8_turn_98 (by decide) ?_
              refine lv_istore_n (lv' := [(3, .int (nI i)), (5, .int 1), (4, .int (nI i)), (2, .int (jVoi (qN c 0) (qSo c) (qS c))), (0, .ref (a 0)), (1, .int b)]) hx hb dX8_turn_102 rfl hl (by decide) rfl (fun ls hl => ?_)
              refine lv_iinc (v := (nI (i + 1))) (lv' := [(4, .int (nI (i + 1))), (3, .int (nI i)), (5, .int 1), (2, .int (jVoi (qN c 0) (qSo c) (qS c))), (0, .ref (a 0)), (1, .int b)]) hx hb dX8_turn_103 hl (k := 2) rfl (wk_i1 i) (by decide) rfl (fun ls hl => ?_)
              refine lv_goto (tgt := 29) hx hb dX8_turn_106 (by decide) ?_
              exact ih29 (i + 1, (nI i)) (n29 - 1) ls (by omega) (⟨by omega, by rw [yTurnF, fo_s, ← yTurnF, ← hz]; simp [c9, c34, c43, c49, c93]⟩) (lv_sub hl [0, 1, 3, 4, 5] rfl)
        · refine lv_iload hx hb dX8_turn_52 (lv_at hl 0 rfl) ?_
          refine wk_read (va_runS (As := [.int (nI i)]) (rest := []) ⟨hx, hb, hml, hown, hts⟩ (c_X8_ones l (nI i)) (va_cwS 1 hts gX8_turn_X8_ones rfl rfl rfl hdS_X8_ones ⟨Nat.le_of_ble_eq_true rfl, Nat.le_of_ble_eq_true rfl⟩) preEq rfl rfl hl.1 rfl (lv_room (Nat.le_of_ble_eq_true rfl)) dX8_turn_54 ⟨hrc, hrs⟩) ?_
          refine lv_iload_n hx hb dX8_turn_57 rfl (lv_at hl 1 rfl) ?_
          refine wk_read (va_runS (As := [.int z]) (rest := [.int (jOnes (nI i))]) ⟨hx, hb, hml, hown, hts⟩ (c_X8_ones l z) (va_cwS 1 hts gX8_turn_X8_ones rfl rfl rfl hdS_X8_ones ⟨Nat.le_of_ble_eq_true rfl, Nat.le_of_ble_eq_true rfl⟩) preEq rfl rfl hl.1 rfl (lv_room (Nat.le_of_ble_eq_true rfl)) dX8_turn_58 ⟨hrc, hrs⟩) ?_
          refine lv_icmp_ge (tgt := 68) hx hb dX8_turn_61 (by decide) (fun c61 => ?_) (fun c61 => ?_)
          · refine lv_iconst (v := 0) hx hb dX8_turn_68 (by decide) ?_
            refine lv_istore (lv' := [(5, .int 0), (4, .int (nI i)), (3, .int z), (2, .int (jVoi (qN c 0) (qSo c) (qS c))), (0, .ref (a 0)), (1, .int b)]) hx hb dX8_turn_69 hl (by decide) rfl (fun ls hl => ?_)
            refine lv_iload hx hb dX8_turn_71 (lv_at hl 0 rfl) ?_
            refine lv_if_eq (tgt := 101) hx hb dX8_turn_73 (by decide) (fun c73 => ?_) (fun c73 => ?_)
            · refine lv_iload_n hx hb dX8_turn_101 rfl (lv_at hl 2 rfl) ?_
              refine lv_istore_n (lv' := [(3, .int z), (5, .int 0), (4, .int (nI i)), (2, .int (jVoi (qN c 0) (qSo c) (qS c))), (0, .ref (a 0)), (1, .int b)]) hx hb dX8_turn_102 rfl hl (by decide) rfl (fun ls hl => ?_)
              refine lv_iinc (v := (nI (i + 1))) (lv' := [(4, .int (nI (i + 1))), (3, .int z), (5, .int 0), (2, .int (jVoi (qN c 0) (qSo c) (qS c))), (0, .ref (a 0)), (1, .int b)]) hx hb dX8_turn_103 hl (k := 2) rfl (wk_i1 i) (by decide) rfl (fun ls hl => ?_)
              refine lv_goto (tgt := 29) hx hb dX8_turn_106 (by decide) ?_
              exact ih29 (i + 1, z) (n29 - 1) ls (by omega) (⟨by omega, by rw [yTurnF, fo_s, ← yTurnF, ← hz]; simp [c9, c34, c43, c49, c61]⟩) (lv_sub hl [0, 1, 3, 4, 5] rfl)
            · exact absurd c73 (by decide)
          · refine lv_iconst (v := 1) hx hb dX8_turn_64 (by decide) ?_
            refine lv_goto (tgt := 69) hx hb dX8_turn_65 (by decide) ?_
            refine lv_istore (lv' := [(5, .int 1), (4, .int (nI i)), (3, .int z), (2, .int (jVoi (qN c 0) (qSo c) (qS c))), (0, .ref (a 0)), (1, .int b)]) hx hb dX8_turn_69 hl (by decide) rfl (fun ls hl => ?_)
            refine lv_iload hx hb dX8_turn_71 (lv_at hl 0 rfl) ?_
            refine lv_if_eq (tgt := 101) hx hb dX8_turn_73 (by decide) (fun c73 => ?_) (fun c73 => ?_)
            · exact absurd c73 (by decide)
            · refine lv_aload_n hx hb dX8_turn_76 rfl (lv_at hl 4 rfl) ?_
              refine lv_iload_n hx hb dX8_turn_77 rfl (lv_at hl 3 rfl) ?_
              refine lv_aload_n hx hb dX8_turn_78 rfl (lv_at hl 4 rfl) ?_
              refine lv_aload_n hx hb dX8_turn_79 rfl (lv_at hl 4 rfl) ?_
              refine va_get (D := G.1) (v := .ref (a 5)) hx hb hts hin8 hown hK hP 0 (WM_0 G a c) rfl 15 (by decide) hf28 (fun _ h => h) rfl dX8_turn_80 ?_
              refine lv_iload_n hx hb dX8_turn_83 rfl (lv_at hl 5 rfl) ?_
              refine wk_read (va_runV (As := [.ref (a 5), .int b]) (rest := [.int (jVoi (qN c 0) (qSo c) (qS c)), .ref (a 0)]) ⟨hx, hb, hml, hown, hts⟩ (c_X8_saysYes l G a c hc b false) (cwV 2 hts gX8_turn_X8_saysYes rfl rfl rfl hdV_X8_saysYes ⟨Nat.le_of_ble_eq_true rfl, Nat.le_of_ble_eq_true rfl⟩) (PreW.pre (G := G) (W0 := WM G a c) ⟨hP, hK, hN⟩ (ci := 8) (q0 := 0) rfl rfl) rfl rfl hl.1 rfl (lv_room (Nat.le_of_ble_eq_true rfl)) dX8_turn_84 ⟨hrc, hrs⟩) ?_
              refine W.eq (g2 := F0 m 87 ls [.int (jYes (qN c 0) (qBi c) (qS c) b), .int (jVoi (qN c 0) (qSo c) (qS c)), .ref (a 0)]) rfl ?_
              refine lv_iload hx hb dX8_turn_87 (lv_at hl 1 rfl) ?_
              refine lv_ixor hx hb dX8_turn_89 ?_
              refine wk_read (va_runV (As := [.int (jVoi (qN c 0) (qSo c) (qS c)), .int ((jYes (qN c 0) (qBi c) (qS c) b) ^^^ (nI i))]) (rest := []) ⟨hx, hb, hml, hown, hts⟩ (c_X8_passesBy l G a c hc (jVoi (qN c 0) (qSo c) (qS c)) ((jYes (qN c 0) (qBi c) (qS c) b) ^^^ (nI i))) (cwV 2 hts gX8_turn_X8_passesBy rfl rfl rfl hdV_X8_passesBy ⟨Nat.le_of_ble_eq_true rfl, Nat.le_of_ble_eq_true rfl⟩) (PreW.pre (G := G) (W0 := WM G a c) ⟨hP, hK, hN⟩ (ci := 8) (q0 := 0) rfl rfl) rfl rfl hl.1 rfl (lv_room (Nat.le_of_ble_eq_true rfl)) dX8_turn_90 ⟨hrc, hrs⟩) ?_
              refine lv_if_eq (tgt := 101) hx hb dX8_turn_93 (by decide) (fun c93 => ?_) (fun c93 => ?_)
              · have c93 := b2i_f c93
                refine lv_iload_n hx hb dX8_turn_101 rfl (lv_at hl 2 rfl) ?_
                refine lv_istore_n (lv' := [(3, .int z), (5, .int 1), (4, .int (nI i)), (2, .int (jVoi (qN c 0) (qSo c) (qS c))), (0, .ref (a 0)), (1, .int b)]) hx hb dX8_turn_102 rfl hl (by decide) rfl (fun ls hl => ?_)
                refine lv_iinc (v := (nI (i + 1))) (lv' := [(4, .int (nI (i + 1))), (3, .int z), (5, .int 1), (2, .int (jVoi (qN c 0) (qSo c) (qS c))), (0, .ref (a 0)), (1, .int b)]) hx hb dX8_turn_103 hl (k := 2) rfl (wk_i1 i) (by decide) rfl (fun ls hl => ?_)
                refine lv_goto (tgt := 29) hx hb dX8_turn_106 (by decide) ?_
                exact ih29 (i + 1, z) (n29 - 1) ls (by omega) (⟨by omega, by rw [yTurnF, fo_s, ← yTurnF, ← hz]; simp [c9, c34, c43, c49, c61, c93]⟩) (lv_sub hl [0, 1, 3, 4, 5] rfl)
              · have c93 := b2i_t c93
                refine lv_iload hx hb dX8_turn_96 (lv_at hl 1 rfl) ?_
                refine lv_goto (tgt := 102) hx hb dX8_turn_98 (by decide) ?_
                refine lv_istore_n (lv' := [(3, .int (nI i)), (5, .int 1), (4, .int (nI i)), (2, .int (jVoi (qN c 0) (qSo c) (qS c))), (0, .ref (a 0)), (1, .int b)]) hx hb dX8_turn_102 rfl hl (by decide) rfl (fun ls hl => ?_)
                refine lv_iinc (v := (nI (i + 1))) (lv' := [(4, .int (nI (i + 1))), (3, .int (nI i)), (5, .int 1), (2, .int (jVoi (qN c 0) (qSo c) (qS c))), (0, .ref (a 0)), (1, .int b)]) hx hb dX8_turn_103 hl (k := 2) rfl (wk_i1 i) (by decide) rfl (fun ls hl => ?_)
                refine lv_goto (tgt := 29) hx hb dX8_turn_106 (by decide) ?_
                exact ih29 (i + 1, (nI i)) (n29 - 1) ls (by omega) (⟨by omega, by rw [yTurnF, fo_s, ← yTurnF, ← hz]; simp [c9, c34, c43, c49, c61, c93]⟩) (lv_sub hl [0, 1, 3, 4, 5] rfl)
  · have c9 := b2i_f c9
    refine lv_iconst (v := -1) hx hb dX8_turn_12 (by decide) ?_
    exact wk_mret' hx hb hr hlocks dX8_turn_13 hP hS (congrArg (fun z => some (Value.int z)) (show yTurn c b = (-1) from by (simp only [yTurn, c9, if_true, if_false, reduceIte, not_true_eq_false, not_false_eq_true, Bool.and_true, Bool.true_and, Bool.and_self, Bool.and_false, Bool.false_and, Bool.false_eq_true]) <;> simp [])) (rfl)
theorem hdV_X8_asNow : yX8_asNow.cls = RX8 ∧ yX8_asNow.cls ≠ "java/lang/invoke/MethodHandle" ∧ yX8_asNow.cls ≠ "java/lang/invoke/VarHandle" ∧ (parseMethodDescriptor yX8_asNow.desc).map (fun d => d.parameters.length) = some 0 := by decide +kernel
set_option maxHeartbeats 600000 in
set_option maxRecDepth 100000 in
theorem c_X8_asNow (l : Launch) (G : GG) (a : Nat → Nat) (c : JX) (hc : OkJ c) (sz : Nat) : Met l yX8_asNow wsX8_asNow ({ frames := 0, cells := 0, slots := 0, locals := 0 }) (va_Pc [.ref (a 0)] (fun U => PreM G (WM G a c) sz U U.heap)) (Qm G.1 vwCl (none) (WM G a (wW c (qS c))) (va_A (WM G a c) sz)) 0 0 (va_A (WM G a c) sz) := by
  refine Met.ofW (cc := cX8_asNow) (maxL := 2) (ret := none) (by decide) rfl ?_
  intro p e s m args below meth cd s₁ BB hml hv
  obtain ⟨rfl, ⟨hP, hK, hN⟩, hD0, hsz⟩ := hv
  have hx := BB.exec
  have hb := BB.bytes
  have hr := BB.returns
  have hts := atoms_spec (ws := wsX8_asNow) BB.pre
  have hown : s.vm.findClass RX8 = some m.cls := findClass_of_methodNamed BB.named
  have hlocks := BB.notSynchronized
  have hrc : 0 + 0 ≤ (headSpec wsX8_asNow ({ frames := 0, cells := 0, slots := 0, locals := 0 })).room.cells := Nat.le_refl _
  have hrs : 0 + 0 ≤ (headSpec wsX8_asNow ({ frames := 0, cells := 0, slots := 0, locals := 0 })).room.slots := Nat.le_refl _
  subst hsz
  have hD := hD0.self (sz := s.heap.size)
  generalize hAe : va_A (WM G a c) s.heap.size = A at hD ⊢
  have hA : ∀ q : Nat, s.heap.size ≤ q → A q := fun q h => by rw [← hAe]; exact Or.inr h
  have hS : va_S A s.heap s.heap [] := va_S.rf
  obtain ⟨hk7, ho1, ho5, hl200, hr6, hu10⟩ := id hc
  have hin8 : ∀ w ∈ u_ws RX8 TX8 24, w ∈ wsX8_asNow := by decide +kernel
  have hf28 := hts (.fieldLink RX8 28 "RegaliaVotesModel" "s" "[I") (by decide +kernel)
  have hf31 := hts (.fieldLink RX8 31 "RegaliaVotesModel" "w" "[I") (by decide +kernel)
  refine wk_enter (n := 2) (Nat.le_of_ble_eq_true rfl) (fun ls hl => ?_)
  have hl : lv_has ls 2 [(0, .ref (a 0))] := hl
  refine lv_iconst (v := 0) hx hb dX8_asNow_0 (by decide) ?_
  refine lv_istore_n (lv' := [(1, .int 0), (0, .ref (a 0))]) hx hb dX8_asNow_1 rfl hl (by decide) rfl (fun ls hl => ?_)
  refine wk_loopM (σ := Nat × Ar) (nL := 2) (fun xσ n => match xσ with | (i, v) => i + n = 19 ∧ ∀ k, k < i → v k = qS c k) (fun xσ => match xσ with | (i, v) => [(1, .int (nI i)), (0, .ref (a 0))]) (fun xσ => match xσ with | (i, v) => WM G a (wW c v)) (0, qW c) 19 (⟨by omega, fun k hk => absurd hk (Nat.not_lt_zero k)⟩) hl hP hD hS ?_
  rintro n2 ⟨i, v⟩ ls H locs hI2 hl hP hD hS ih2
  have hl : lv_has ls 2 [(1, .int (nI i)), (0, .ref (a 0))] := hl
  have hP : va_P G.1 vwCl (WM G a (wW c v)) H := hP
  have hD : va_D A (WM G a (wW c v)) := hD
  obtain ⟨hi, hv⟩ := hI2
  refine lv_iload_n hx hb dX8_asNow_2 rfl (lv_at hl 0 rfl) ?_
  refine lv_bipush (v := 19) hx hb dX8_asNow_3 (by decide) ?_
  refine wk_ge (x := i) (y := 19) (tgt := 26) hx hb (by omega) (by omega) dX8_asNow_5 (by decide) (fun c5 => ?_) (fun c5 => ?_)
  · have hP := va_P_arr hP hD (WM_6 G a (wW c v)) (qS c) (fun k hk => hv k (by omega))
    replace hP : va_P G.1 vwCl (WM G a (wW c (qS c))) H := hP
    exact wk_mvret' hx hb hr hlocks dX8_asNow_26 hP hS (rfl)
  · refine lv_aload_n hx hb dX8_asNow_8 rfl (lv_at hl 1 rfl) ?_
    refine va_get (D := G.1) (v := .ref (a 6)) hx hb hts hin8 hown hK hP 0 (WM_0 G a (wW c v)) rfl 16 (by decide) hf31 (fun _ h => h) rfl dX8_asNow_9 ?_
    refine lv_iload_n hx hb dX8_asNow_12 rfl (lv_at hl 0 rfl) ?_
    refine lv_aload_n hx hb dX8_asNow_13 rfl (lv_at hl 1 rfl) ?_
    refine va_get (D := G.1) (v := .ref (a 5)) hx hb hts hin8 hown hK hP 0 (WM_0 G a (wW c v)) rfl 15 (by decide) hf28 (fun _ h => h) rfl dX8_asNow_14 ?_
    refine lv_iload_n hx hb dX8_asNow_17 rfl (lv_at hl 0 rfl) ?_
    refine wk_iald (i := i) hx hb hK hP 5 1 (WM_5 G a (wW c v)) rfl (by omega) (Nat.le_of_ble_eq_true rfl) dX8_asNow_18 ?_
    refine wk_iast (i := i) hx hb hK hP hD hS 6 1 (WM_6 G a (wW c v)) rfl (by omega) (Nat.le_of_ble_eq_true rfl) dX8_asNow_19 (fun H locs hP hD hS => ?_)
    rw [WM_p6] at hP hD
    replace hP : va_P G.1 vwCl (WM G a (wW c (upd (v) i (qS c i)))) H := hP
    replace hD : va_D A (WM G a (wW c (upd (v) i (qS c i)))) := hD
    refine lv_iinc (v := (nI (i + 1))) (lv' := [(1, .int (nI (i + 1))), (0, .ref (a 0))]) hx hb dX8_asNow_20 hl (k := 0) rfl (wk_i1 i) (by decide) rfl (fun ls hl => ?_)
    refine lv_goto (tgt := 2) hx hb dX8_asNow_23 (by decide) ?_
    exact ih2 (i + 1, upd v i (qS c i)) (n2 - 1) ls H _ (by omega) (⟨by omega, fun k hk => if h9 : k = i then (by rw [h9, pk_us]) else (by rw [pk_un h9]; exact hv k (by omega))⟩) (lv_sub hl [0, 1] rfl) hP hD hS

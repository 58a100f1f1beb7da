theorem hdV_X8_hands : yX8_hands.cls = RX8 ∧ yX8_hands.cls ≠ "java/lang/invoke/MethodHandle" ∧ yX8_hands.cls ≠ "java/lang/invoke/VarHandle" ∧ (parseMethodDescriptor yX8_hands.desc).map (fun d => d.parameters.length) = some 2 := by decide +kernel
set_option maxHeartbeats 600000 in
set_option maxRecDepth 100000 in
theorem c_X8_hands (l : Launch) (G : GG) (a : Nat → Nat) (c : JX) (hc : OkJ c) (t : Int32) (o : Int32) (sz : Nat) : Met l yX8_hands wsX8_hands ({ frames := 2, cells := 0, slots := 0, locals := 43 }) (va_Pc [.ref (a 0), .int t, .int o] (fun U => PreM G (WM G a c) sz U U.heap)) (Qm G.1 vwCl (some (.int (yHands c t o).1)) (WM G a ((yHands c t o).2)) (va_A (WM G a c) sz)) 0 0 (va_A (WM G a c) sz) := by
  refine Met.ofW (cc := cX8_hands) (maxL := 4) (ret := (some .int)) (by decide) rfl ?_
  intro p e s m args below meth cd s₁ BB hml hv
  obtain ⟨rfl, ⟨hP, hK, hN⟩, hD0, hsz⟩ := hv
  have hx := BB.exec
  have hb := BB.bytes
  have hr := BB.returns
  have hts := atoms_spec (ws := wsX8_hands) BB.pre
  have hown : s.vm.findClass RX8 = some m.cls := findClass_of_methodNamed BB.named
  have hlocks := BB.notSynchronized
  have hrc : 0 + 0 ≤ (headSpec wsX8_hands ({ frames := 2, cells := 0, slots := 0, locals := 43 })).room.cells := Nat.le_refl _
  have hrs : 0 + 0 ≤ (headSpec wsX8_hands ({ frames := 2, cells := 0, slots := 0, locals := 43 })).room.slots := Nat.le_refl _
  subst hsz
  have hD := hD0.self (sz := s.heap.size)
  generalize hAe : va_A (WM G a c) s.heap.size = A at hD ⊢
  have hA : ∀ q : Nat, s.heap.size ≤ q → A q := fun q h => by rw [← hAe]; exact Or.inr h
  have hS : va_S A s.heap s.heap [] := va_S.rf
  obtain ⟨hk7, ho1, ho5, hl200, hr6, hu10⟩ := id hc
  have hin8 : ∀ w ∈ u_ws RX8 TX8 24, w ∈ wsX8_hands := by decide +kernel
  have hf28 := hts (.fieldLink RX8 28 "RegaliaVotesModel" "s" "[I") (by decide +kernel)
  have hf50 := hts (.fieldLink RX8 50 "RegaliaVotesModel" "thrown" "I") (by decide +kernel)
  refine wk_enter (n := 4) (Nat.le_of_ble_eq_true rfl) (fun ls hl => ?_)
  have hl : lv_has ls 4 [(0, .ref (a 0)), (1, .int t), (2, .int o)] := hl
  refine lv_aload_n hx hb dX8_hands_0 rfl (lv_at hl 0 rfl) ?_
  refine lv_iconst (v := 0) hx hb dX8_hands_1 (by decide) ?_
  refine va_put (D := G.1) (v := .int 0) (ty := .int) hx hb hts hin8 tyX8 tyX8_ok nmX8 hown hK hP hD hS 0 (WM_0 G a c) rfl 0 (by decide) hf50 (fun _ h => h) rfl (by decide +kernel) rfl rfl (Nat.le_of_ble_eq_true rfl) dX8_hands_2 (fun H locs hP hD hS => ?_)
  rw [WM_p0_0] at hP hD
  refine lv_aload_n hx hb dX8_hands_5 rfl (lv_at hl 0 rfl) ?_
  refine lv_iload_n hx hb dX8_hands_6 rfl (lv_at hl 1 rfl) ?_
  refine wk_read (va_runV (As := [.int t]) (rest := []) ⟨hx, hb, hml, hown, hts⟩ (c_X8_isThing l G a c hc t) (cwV 1 hts gX8_hands_X8_isThing rfl rfl rfl hdV_X8_isThing ⟨Nat.le_of_ble_eq_true rfl, Nat.le_of_ble_eq_true rfl⟩) (PreW.pre (G := G) (W0 := WM G a c) ⟨hP, hK, hN⟩ (ci := 8) (q0 := 0) rfl rfl) rfl rfl hl.1 rfl (lv_room (Nat.le_of_ble_eq_true rfl)) dX8_hands_7 ⟨hrc, hrs⟩) ?_
  refine lv_if_eq (tgt := 21) hx hb dX8_hands_10 (by decide) (fun c10 => ?_) (fun c10 => ?_)
  · have c10 := b2i_f c10
    refine lv_iconst (v := -1) hx hb dX8_hands_21 (by decide) ?_
    have hq : yHands c t o = ((-1), c) := by (simp only [yHands, wS_mk, note_S, note_N, note_So, note_Vo, note_Bi, c10, if_true, if_false, reduceIte, not_true_eq_false, not_false_eq_true, Bool.and_true, Bool.true_and, Bool.and_self, Bool.and_false, Bool.false_and, Bool.false_eq_true]) <;> rfl
    exact wk_mret' hx hb hr hlocks dX8_hands_22 hP hS (congrArg (fun z => some (Value.int z.1)) hq) (congrArg (fun z => WM G a z.2) hq)
  · have c10 := b2i_t c10
    obtain ⟨j, hj, rfl⟩ := jIsT_n c10 hk7
    have hcl := nI_clamp (show j < 2 ^ 31 by omega)
    refine lv_aload_n hx hb dX8_hands_13 rfl (lv_at hl 0 rfl) ?_
    refine lv_iload_n hx hb dX8_hands_14 rfl (lv_at hl 2 rfl) ?_
    refine wk_read (va_runV (As := [.int o]) (rest := []) ⟨hx, hb, hml, hown, hts⟩ (c_X8_isOfficer l G a c hc o) (cwV 1 hts gX8_hands_X8_isOfficer rfl rfl rfl hdV_X8_isOfficer ⟨Nat.le_of_ble_eq_true rfl, Nat.le_of_ble_eq_true rfl⟩) (PreW.pre (G := G) (W0 := WM G a c) ⟨hP, hK, hN⟩ (ci := 8) (q0 := 0) rfl rfl) rfl rfl hl.1 rfl (lv_room (Nat.le_of_ble_eq_true rfl)) dX8_hands_15 ⟨hrc, hrs⟩) ?_
    refine lv_if_ne (tgt := 23) hx hb dX8_hands_18 (by decide) (fun c18 => ?_) (fun c18 => ?_)
    · have c18 := b2i_t c18
      refine lv_aload_n hx hb dX8_hands_23 rfl (lv_at hl 0 rfl) ?_
      refine wk_callA (va_runV (As := []) (rest := []) ⟨hx, hb, hml, hown, hts⟩ (c_X8_notes l G a c hc H.size) (cwV 0 hts gX8_hands_X8_notes rfl rfl rfl hdV_X8_notes ⟨Nat.le_of_ble_eq_true rfl, Nat.le_of_ble_eq_true rfl⟩) ((PreM.mk hP hK hN hD).pre (ci := 8) (q0 := 0) rfl (WM_0 G a c)) rfl rfl hl.1 rfl (lv_room (Nat.le_of_ble_eq_true rfl)) dX8_hands_24 ⟨hrc, hrs⟩) hD hS hA WM_fst (fun H locs hP hD hS => ?_)
      refine W.eq (g2 := F0 m 27 ls []) rfl ?_
      refine lv_aload_n hx hb dX8_hands_27 rfl (lv_at hl 0 rfl) ?_
      refine va_get (D := G.1) (v := .ref (a 5)) hx hb hts hin8 hown hK hP 0 (WM_0 G a (yNote c)) rfl 15 (by decide) hf28 (fun _ h => h) rfl dX8_hands_28 ?_
      refine lv_iconst (v := 0) hx hb dX8_hands_31 (by decide) ?_
      refine lv_iload_n hx hb dX8_hands_32 rfl (lv_at hl 1 rfl) ?_
      refine wk_add0 (x := j) hx hb dX8_hands_33 ?_
      refine wk_iald (i := j) hx hb hK hP 5 1 (WM_5 G a (yNote c)) rfl (by omega) (Nat.le_of_ble_eq_true rfl) dX8_hands_34 ?_
      refine lv_istore_n (lv' := [(3, .int (qS (yNote c) j)), (0, .ref (a 0)), (1, .int (nI j)), (2, .int o)]) hx hb dX8_hands_35 rfl hl (by decide) rfl (fun ls hl => ?_)
      refine lv_aload_n hx hb dX8_hands_36 rfl (lv_at hl 1 rfl) ?_
      refine va_get (D := G.1) (v := .ref (a 5)) hx hb hts hin8 hown hK hP 0 (WM_0 G a (yNote c)) rfl 15 (by decide) hf28 (fun _ h => h) rfl dX8_hands_37 ?_
      refine lv_iconst (v := 0) hx hb dX8_hands_40 (by decide) ?_
      refine lv_iload_n hx hb dX8_hands_41 rfl (lv_at hl 2 rfl) ?_
      refine wk_add0 (x := j) hx hb dX8_hands_42 ?_
      refine lv_iload_n hx hb dX8_hands_43 rfl (lv_at hl 3 rfl) ?_
      refine wk_iast (i := j) hx hb hK hP hD hS 5 1 (WM_5 G a (yNote c)) rfl (by omega) (Nat.le_of_ble_eq_true rfl) dX8_hands_44 (fun H locs hP hD hS => ?_)
      rw [WMc_p5] at hP hD
      replace hP : va_P G.1 vwCl (WM G a (mkJ (qTr (yNote c)) (qTx (yNote c)) (qTy (yNote c)) (qNe (yNote c)) (qTo (yNote c)) (qPl (yNote c)) (qVa (yNote c)) (qFa (yNote c)) (qN (yNote c)) (qSo (yNote c)) (qVo (yNote c)) (qBi (yNote c)) (qHo (yNote c)) (qTd (yNote c)) (upd (qS (yNote c)) j o) (qW (yNote c)) (qKe (yNote c)) (qIk (yNote c)) (qUn (yNote c)) (qUm (yNote c)) (qRb (yNote c)) (qRi (yNote c)) (qRm (yNote c)))) H := hP
      replace hD : va_D A (WM G a (mkJ (qTr (yNote c)) (qTx (yNote c)) (qTy (yNote c)) (qNe (yNote c)) (qTo (yNote c)) (qPl (yNote c)) (qVa (yNote c)) (qFa (yNote c)) (qN (yNote c)) (qSo (yNote c)) (qVo (yNote c)) (qBi (yNote c)) (qHo (yNote c)) (qTd (yNote c)) (upd (qS (yNote c)) j o) (qW (yNote c)) (qKe (yNote c)) (qIk (yNote c)) (qUn (yNote c)) (qUm (yNote c)) (qRb (yNote c)) (qRi (yNote c)) (qRm (yNote c)))) := hD
      refine lv_iload_n hx hb dX8_hands_45 rfl (lv_at hl 0 rfl) ?_
      have hq : yHands c (nI j) o = ((qS (yNote c) j), mkJ (qTr (yNote c)) (qTx (yNote c)) (qTy (yNote c)) (qNe (yNote c)) (qTo (yNote c)) (qPl (yNote c)) (qVa (yNote c)) (qFa (yNote c)) (qN (yNote c)) (qSo (yNote c)) (qVo (yNote c)) (qBi (yNote c)) (qHo (yNote c)) (qTd (yNote c)) (upd (qS (yNote c)) j o) (qW (yNote c)) (qKe (yNote c)) (qIk (yNote c)) (qUn (yNote c)) (qUm (yNote c)) (qRb (yNote c)) (qRi (yNote c)) (qRm (yNote c))) := by (simp only [yHands, hcl, wS_mk, note_S, note_N, note_So, note_Vo, note_Bi, c10, c18, if_true, if_false, reduceIte, not_true_eq_false, not_false_eq_true, Bool.and_true, Bool.true_and, Bool.and_self, Bool.and_false, Bool.false_and, Bool.false_eq_true]) <;> rfl
      exact wk_mret' hx hb hr hlocks dX8_hands_46 hP hS (congrArg (fun z => some (Value.int z.1)) hq) (congrArg (fun z => WM G a z.2) hq)
    · have c18 := b2i_f c18
      refine lv_iconst (v := -1) hx hb dX8_hands_21 (by decide) ?_
      have hq : yHands c (nI j) o = ((-1), c) := by (simp only [yHands, hcl, wS_mk, note_S, note_N, note_So, note_Vo, note_Bi, c10, c18, if_true, if_false, reduceIte, not_true_eq_false, not_false_eq_true, Bool.and_true, Bool.true_and, Bool.and_self, Bool.and_false, Bool.false_and, Bool.false_eq_true]) <;> rfl
      exact wk_mret' hx hb hr hlocks dX8_hands_22 hP hS (congrArg (fun z => some (Value.int z.1)) hq) (congrArg (fun z => WM G a z.2) hq)
theorem hdV_X8_washes : yX8_washes.cls = RX8 ∧ yX8_washes.cls ≠ "java/lang/invoke/MethodHandle" ∧ yX8_washes.cls ≠ "java/lang/invoke/VarHandle" ∧ (parseMethodDescriptor yX8_washes.desc).map (fun d => d.parameters.length) = some 1 := by decide +kernel
set_option maxHeartbeats 600000 in
set_option maxRecDepth 100000 in
theorem c_X8_washes (l : Launch) (G : GG) (a : Nat → Nat) (c : JX) (hc : OkJ c) (t : Int32) (sz : Nat) : Met l yX8_washes wsX8_washes ({ frames := 2, cells := 0, slots := 0, locals := 43 }) (va_Pc [.ref (a 0), .int t] (fun U => PreM G (WM G a c) sz U U.heap)) (Qm G.1 vwCl (some (.int (yWashes c t).1)) (WM G a ((yWashes c t).2)) (va_A (WM G a c) sz)) 0 0 (va_A (WM G a c) sz) := by
  refine Met.ofW (cc := cX8_washes) (maxL := 2) (ret := (some .int)) (by decide) rfl ?_
  intro p e s m args below meth cd s₁ BB hml hv
  obtain ⟨rfl, ⟨hP, hK, hN⟩, hD0, hsz⟩ := hv
  have hx := BB.exec
  have hb := BB.bytes
  have hr := BB.returns
  have hts := atoms_spec (ws := wsX8_washes) BB.pre
  have hown : s.vm.findClass RX8 = some m.cls := findClass_of_methodNamed BB.named
  have hlocks := BB.notSynchronized
  have hrc : 0 + 0 ≤ (headSpec wsX8_washes ({ frames := 2, cells := 0, slots := 0, locals := 43 })).room.cells := Nat.le_refl _
  have hrs : 0 + 0 ≤ (headSpec wsX8_washes ({ frames := 2, cells := 0, slots := 0, locals := 43 })).room.slots := Nat.le_refl _
  subst hsz
  have hD := hD0.self (sz := s.heap.size)
  generalize hAe : va_A (WM G a c) s.heap.size = A at hD ⊢
  have hA : ∀ q : Nat, s.heap.size ≤ q → A q := fun q h => by rw [← hAe]; exact Or.inr h
  have hS : va_S A s.heap s.heap [] := va_S.rf
  obtain ⟨hk7, ho1, ho5, hl200, hr6, hu10⟩ := id hc
  have hin8 : ∀ w ∈ u_ws RX8 TX8 24, w ∈ wsX8_washes := by decide +kernel
  have hf28 := hts (.fieldLink RX8 28 "RegaliaVotesModel" "s" "[I") (by decide +kernel)
  have hf50 := hts (.fieldLink RX8 50 "RegaliaVotesModel" "thrown" "I") (by decide +kernel)
  refine wk_enter (n := 2) (Nat.le_of_ble_eq_true rfl) (fun ls hl => ?_)
  have hl : lv_has ls 2 [(0, .ref (a 0)), (1, .int t)] := hl
  refine lv_aload_n hx hb dX8_washes_0 rfl (lv_at hl 0 rfl) ?_
  refine lv_iconst (v := 0) hx hb dX8_washes_1 (by decide) ?_
  refine va_put (D := G.1) (v := .int 0) (ty := .int) hx hb hts hin8 tyX8 tyX8_ok nmX8 hown hK hP hD hS 0 (WM_0 G a c) rfl 0 (by decide) hf50 (fun _ h => h) rfl (by decide +kernel) rfl rfl (Nat.le_of_ble_eq_true rfl) dX8_washes_2 (fun H locs hP hD hS => ?_)
  rw [WM_p0_0] at hP hD
  refine lv_aload_n hx hb dX8_washes_5 rfl (lv_at hl 0 rfl) ?_
  refine lv_iload_n hx hb dX8_washes_6 rfl (lv_at hl 1 rfl) ?_
  refine wk_read (va_runV (As := [.int t]) (rest := []) ⟨hx, hb, hml, hown, hts⟩ (c_X8_isThing l G a c hc t) (cwV 1 hts gX8_washes_X8_isThing rfl rfl rfl hdV_X8_isThing ⟨Nat.le_of_ble_eq_true rfl, Nat.le_of_ble_eq_true rfl⟩) (PreW.pre (G := G) (W0 := WM G a c) ⟨hP, hK, hN⟩ (ci := 8) (q0 := 0) rfl rfl) rfl rfl hl.1 rfl (lv_room (Nat.le_of_ble_eq_true rfl)) dX8_washes_7 ⟨hrc, hrs⟩) ?_
  refine lv_if_ne (tgt := 15) hx hb dX8_washes_10 (by decide) (fun c10 => ?_) (fun c10 => ?_)
  · have c10 := b2i_t c10
    obtain ⟨j, hj, rfl⟩ := jIsT_n c10 hk7
    have hcl := nI_clamp (show j < 2 ^ 31 by omega)
    refine lv_aload_n hx hb dX8_washes_15 rfl (lv_at hl 0 rfl) ?_
    refine va_get (D := G.1) (v := .ref (a 5)) hx hb hts hin8 hown hK hP 0 (WM_0 G a c) rfl 15 (by decide) hf28 (fun _ h => h) rfl dX8_washes_16 ?_
    refine lv_bipush (v := 14) hx hb dX8_washes_19 (by decide) ?_
    refine wk_iald (i := 14) hx hb hK hP 5 1 (WM_5 G a c) rfl (by omega) (Nat.le_of_ble_eq_true rfl) dX8_washes_21 ?_
    refine lv_iload_n hx hb dX8_washes_22 rfl (lv_at hl 1 rfl) ?_
    refine lv_ishr hx hb dX8_washes_23 ?_
    refine lv_iconst (v := 1) hx hb dX8_washes_24 (by decide) ?_
    refine lv_iand hx hb dX8_washes_25 ?_
    show W _ _ _ _ _ _ _ _ _ _ _ _ _ _ _ (F0 _ _ _ (.int (bitI (qS c 14) (nI j)) :: _))
    refine lv_iconst (v := 1) hx hb dX8_washes_26 (by decide) ?_
    refine lv_icmp_ne (tgt := 33) hx hb dX8_washes_27 (by decide) (fun c27 => ?_) (fun c27 => ?_)
    · refine lv_aload_n hx hb dX8_washes_33 rfl (lv_at hl 0 rfl) ?_
      refine wk_callA (va_runV (As := []) (rest := []) ⟨hx, hb, hml, hown, hts⟩ (c_X8_notes l G a c hc H.size) (cwV 0 hts gX8_washes_X8_notes rfl rfl rfl hdV_X8_notes ⟨Nat.le_of_ble_eq_true rfl, Nat.le_of_ble_eq_true rfl⟩) ((PreM.mk hP hK hN hD).pre (ci := 8) (q0 := 0) rfl (WM_0 G a c)) rfl rfl hl.1 rfl (lv_room (Nat.le_of_ble_eq_true rfl)) dX8_washes_34 ⟨hrc, hrs⟩) hD hS hA WM_fst (fun H locs hP hD hS => ?_)
      refine W.eq (g2 := F0 m 37 ls []) rfl ?_
      refine lv_aload_n hx hb dX8_washes_37 rfl (lv_at hl 0 rfl) ?_
      refine va_get (D := G.1) (v := .ref (a 5)) hx hb hts hin8 hown hK hP 0 (WM_0 G a (yNote c)) rfl 15 (by decide) hf28 (fun _ h => h) rfl dX8_washes_38 ?_
      refine lv_bipush (v := 14) hx hb dX8_washes_41 (by decide) ?_
      refine lv_dup2_11 hx hb dX8_washes_43 rfl rfl ?_
      refine wk_iald (i := 14) hx hb hK hP 5 1 (WM_5 G a (yNote c)) rfl (by omega) (Nat.le_of_ble_eq_true rfl) dX8_washes_44 ?_
      refine lv_iconst (v := 1) hx hb dX8_washes_45 (by decide) ?_
      refine lv_iload_n hx hb dX8_washes_46 rfl (lv_at hl 1 rfl) ?_
      refine lv_ishl hx hb dX8_washes_47 ?_
      show W _ _ _ _ _ _ _ _ _ _ _ _ _ _ _ (F0 _ _ _ (.int (sh1 (nI j)) :: _))
      refine lv_ior hx hb dX8_washes_48 ?_
      refine wk_iast (i := 14) hx hb hK hP hD hS 5 1 (WM_5 G a (yNote c)) rfl (by omega) (Nat.le_of_ble_eq_true rfl) dX8_washes_49 (fun H locs hP hD hS => ?_)
      rw [WMc_p5] at hP hD
      replace hP : va_P G.1 vwCl (WM G a (mkJ (qTr (yNote c)) (qTx (yNote c)) (qTy (yNote c)) (qNe (yNote c)) (qTo (yNote c)) (qPl (yNote c)) (qVa (yNote c)) (qFa (yNote c)) (qN (yNote c)) (qSo (yNote c)) (qVo (yNote c)) (qBi (yNote c)) (qHo (yNote c)) (qTd (yNote c)) (upd (qS (yNote c)) 14 ((qS (yNote c) 14) ||| (sh1 (nI j)))) (qW (yNote c)) (qKe (yNote c)) (qIk (yNote c)) (qUn (yNote c)) (qUm (yNote c)) (qRb (yNote c)) (qRi (yNote c)) (qRm (yNote c)))) H := hP
      replace hD : va_D A (WM G a (mkJ (qTr (yNote c)) (qTx (yNote c)) (qTy (yNote c)) (qNe (yNote c)) (qTo (yNote c)) (qPl (yNote c)) (qVa (yNote c)) (qFa (yNote c)) (qN (yNote c)) (qSo (yNote c)) (qVo (yNote c)) (qBi (yNote c)) (qHo (yNote c)) (qTd (yNote c)) (upd (qS (yNote c)) 14 ((qS (yNote c) 14) ||| (sh1 (nI j)))) (qW (yNote c)) (qKe (yNote c)) (qIk (yNote c)) (qUn (yNote c)) (qUm (yNote c)) (qRb (yNote c)) (qRi (yNote c)) (qRm (yNote c)))) := hD
      refine lv_aload_n hx hb dX8_washes_50 rfl (lv_at hl 0 rfl) ?_
      refine va_get (D := G.1) (v := .ref (a 5)) hx hb hts hin8 hown hK hP 0 (WM_0 G a (mkJ (qTr (yNote c)) (qTx (yNote c)) (qTy (yNote c)) (qNe (yNote c)) (qTo (yNote c)) (qPl (yNote c)) (qVa (yNote c)) (qFa (yNote c)) (qN (yNote c)) (qSo (yNote c)) (qVo (yNote c)) (qBi (yNote c)) (qHo (yNote c)) (qTd (yNote c)) (upd (qS (yNote c)) 14 ((qS (yNote c) 14) ||| (sh1 (nI j)))) (qW (yNote c)) (qKe (yNote c)) (qIk (yNote c)) (qUn (yNote c)) (qUm (yNote c)) (qRb (yNote c)) (qRi (yNote c)) (qRm (yNote c)))) rfl 15 (by decide) hf28 (fun _ h => h) rfl dX8_washes_51 ?_
      refine lv_bipush (v := 14) hx hb dX8_washes_54 (by decide) ?_
      refine wk_iald (i := 14) hx hb hK hP 5 1 (WM_5 G a (mkJ (qTr (yNote c)) (qTx (yNote c)) (qTy (yNote c)) (qNe (yNote c)) (qTo (yNote c)) (qPl (yNote c)) (qVa (yNote c)) (qFa (yNote c)) (qN (yNote c)) (qSo (yNote c)) (qVo (yNote c)) (qBi (yNote c)) (qHo (yNote c)) (qTd (yNote c)) (upd (qS (yNote c)) 14 ((qS (yNote c) 14) ||| (sh1 (nI j)))) (qW (yNote c)) (qKe (yNote c)) (qIk (yNote c)) (qUn (yNote c)) (qUm (yNote c)) (qRb (yNote c)) (qRi (yNote c)) (qRm (yNote c)))) rfl (by omega) (Nat.le_of_ble_eq_true rfl) dX8_washes_56 ?_
      refine wk_read (va_runS (As := [.int (upd (qS (yNote c)) 14 ((qS (yNote c) 14) ||| (sh1 (nI j))) 14)]) (rest := []) ⟨hx, hb, hml, hown, hts⟩ (c_X8_ones l (upd (qS (yNote c)) 14 ((qS (yNote c) 14) ||| (sh1 (nI j))) 14)) (va_cwS 1 hts gX8_washes_X8_ones rfl rfl rfl hdS_X8_ones ⟨Nat.le_of_ble_eq_true rfl, Nat.le_of_ble_eq_true rfl⟩) preEq rfl rfl hl.1 rfl (lv_room (Nat.le_of_ble_eq_true rfl)) dX8_washes_57 ⟨hrc, hrs⟩) ?_
      have hq : yWashes c (nI j) = ((jOnes (upd (qS (yNote c)) 14 ((qS (yNote c) 14) ||| (sh1 (nI j))) 14)), mkJ (qTr (yNote c)) (qTx (yNote c)) (qTy (yNote c)) (qNe (yNote c)) (qTo (yNote c)) (qPl (yNote c)) (qVa (yNote c)) (qFa (yNote c)) (qN (yNote c)) (qSo (yNote c)) (qVo (yNote c)) (qBi (yNote c)) (qHo (yNote c)) (qTd (yNote c)) (upd (qS (yNote c)) 14 ((qS (yNote c) 14) ||| (sh1 (nI j)))) (qW (yNote c)) (qKe (yNote c)) (qIk (yNote c)) (qUn (yNote c)) (qUm (yNote c)) (qRb (yNote c)) (qRi (yNote c)) (qRm (yNote c))) := by (simp only [yWashes, hcl, wS_mk, note_S, note_N, note_So, note_Vo, note_Bi, pk_us, c10, c27, if_true, if_false, reduceIte, not_true_eq_false, not_false_eq_true, Bool.and_true, Bool.true_and, Bool.and_self, Bool.and_false, Bool.false_and, Bool.false_eq_true]) <;> rfl
      exact wk_mret' hx hb hr hlocks dX8_washes_60 hP hS (congrArg (fun z => some (Value.int z.1)) hq) (congrArg (fun z => WM G a z.2) hq)
    · refine lv_bipush (v := -2) hx hb dX8_washes_30 (by decide) ?_
      have hq : yWashes c (nI j) = ((-2), c) := by (simp only [yWashes, hcl, wS_mk, note_S, note_N, note_So, note_Vo, note_Bi, pk_us, c10, c27, if_true, if_false, reduceIte, not_true_eq_false, not_false_eq_true, Bool.and_true, Bool.true_and, Bool.and_self, Bool.and_false, Bool.false_and, Bool.false_eq_true]) <;> rfl
      exact wk_mret' hx hb hr hlocks dX8_washes_32 hP hS (congrArg (fun z => some (Value.int z.1)) hq) (congrArg (fun z => WM G a z.2) hq)
  · have c10 := b2i_f c10
    refine lv_iconst (v := -1) hx hb dX8_washes_13 (by decide) ?_
    have hq : yWashes c t = ((-1), c) := by (simp only [yWashes, wS_mk, note_S, note_N, note_So, note_Vo, note_Bi, pk_us, c10, if_true, if_false, reduceIte, not_true_eq_false, not_false_eq_true, Bool.and_true, Bool.true_and, Bool.and_self, Bool.and_false, Bool.false_and, Bool.false_eq_true]) <;> rfl
    exact wk_mret' hx hb hr hlocks dX8_washes_14 hP hS (congrArg (fun z => some (Value.int z.1)) hq) (congrArg (fun z => WM G a z.2) hq)
theorem hdV_X8_hangs : yX8_hangs.cls = RX8 ∧ yX8_hangs.cls ≠ "java/lang/invoke/MethodHandle" ∧ yX8_hangs.cls ≠ "java/lang/invoke/VarHandle" ∧ (parseMethodDescriptor yX8_hangs.desc).map (fun d => d.parameters.length) = some 1 := by decide +kernel
set_option maxHeartbeats 600000 in
set_option maxRecDepth 100000 in
theorem c_X8_hangs (l : Launch) (G : GG) (a : Nat → Nat) (c : JX) (hc : OkJ c) (t : Int32) (sz : Nat) : Met l yX8_hangs wsX8_hangs ({ frames := 2, cells := 0, slots := 0, locals := 43 }) (va_Pc [.ref (a 0), .int t] (fun U => PreM G (WM G a c) sz U U.heap)) (Qm G.1 vwCl (some (.int (yHangs c t).1)) (WM G a ((yHangs c t).2)) (va_A (WM G a c) sz)) 0 0 (va_A (WM G a c) sz) := by
  refine Met.ofW (cc := cX8_hangs) (maxL := 2) (ret := (some .int)) (by decide) rfl ?_
  intro p e s m args below meth cd s₁ BB hml hv
  obtain ⟨rfl, ⟨hP, hK, hN⟩, hD0, hsz⟩ := hv
  have hx := BB.exec
  have hb := BB.bytes
  have hr := BB.returns
  have hts := atoms_spec (ws := wsX8_hangs) BB.pre
  have hown : s.vm.findClass RX8 = some m.cls := findClass_of_methodNamed BB.named
  have hlocks := BB.notSynchronized
  have hrc : 0 + 0 ≤ (headSpec wsX8_hangs ({ frames := 2, cells := 0, slots := 0, locals := 43 })).room.cells := Nat.le_refl _
  have hrs : 0 + 0 ≤ (headSpec wsX8_hangs ({ frames := 2, cells := 0, slots := 0, locals := 43 })).room.slots := Nat.le_refl _
  subst hsz
  have hD := hD0.self (sz := s.heap.size)
  generalize hAe : va_A (WM G a c) s.heap.size = A at hD ⊢
  have hA : ∀ q : Nat, s.heap.size ≤ q → A q := fun q h => by rw [← hAe]; exact Or.inr h
  have hS : va_S A s.heap s.heap [] := va_S.rf
  obtain ⟨hk7, ho1, ho5, hl200, hr6, hu10⟩ := id hc
  have hin8 : ∀ w ∈ u_ws RX8 TX8 24, w ∈ wsX8_hangs := by decide +kernel
  have hf16 := hts (.fieldLink RX8 16 "RegaliaVotesModel" "sort" "[I") (by decide +kernel)
  have hf28 := hts (.fieldLink RX8 28 "RegaliaVotesModel" "s" "[I") (by decide +kernel)
  have hf50 := hts (.fieldLink RX8 50 "RegaliaVotesModel" "thrown" "I") (by decide +kernel)
  refine wk_enter (n := 2) (Nat.le_of_ble_eq_true rfl) (fun ls hl => ?_)
  have hl : lv_has ls 2 [(0, .ref (a 0)), (1, .int t)] := hl
  refine lv_aload_n hx hb dX8_hangs_0 rfl (lv_at hl 0 rfl) ?_
  refine lv_iconst (v := 0) hx hb dX8_hangs_1 (by decide) ?_
  refine va_put (D := G.1) (v := .int 0) (ty := .int) hx hb hts hin8 tyX8 tyX8_ok nmX8 hown hK hP hD hS 0 (WM_0 G a c) rfl 0 (by decide) hf50 (fun _ h => h) rfl (by decide +kernel) rfl rfl (Nat.le_of_ble_eq_true rfl) dX8_hangs_2 (fun H locs hP hD hS => ?_)
  rw [WM_p0_0] at hP hD
  refine lv_aload_n hx hb dX8_hangs_5 rfl (lv_at hl 0 rfl) ?_
  refine lv_iload_n hx hb dX8_hangs_6 rfl (lv_at hl 1 rfl) ?_
  refine wk_read (va_runV (As := [.int t]) (rest := []) ⟨hx, hb, hml, hown, hts⟩ (c_X8_isThing l G a c hc t) (cwV 1 hts gX8_hangs_X8_isThing rfl rfl rfl hdV_X8_isThing ⟨Nat.le_of_ble_eq_true rfl, Nat.le_of_ble_eq_true rfl⟩) (PreW.pre (G := G) (W0 := WM G a c) ⟨hP, hK, hN⟩ (ci := 8) (q0 := 0) rfl rfl) rfl rfl hl.1 rfl (lv_room (Nat.le_of_ble_eq_true rfl)) dX8_hangs_7 ⟨hrc, hrs⟩) ?_
  refine lv_if_ne (tgt := 15) hx hb dX8_hangs_10 (by decide) (fun c10 => ?_) (fun c10 => ?_)
  · have c10 := b2i_t c10
    obtain ⟨j, hj, rfl⟩ := jIsT_n c10 hk7
    have hcl := nI_clamp (show j < 2 ^ 31 by omega)
    refine lv_aload_n hx hb dX8_hangs_15 rfl (lv_at hl 0 rfl) ?_
    refine va_get (D := G.1) (v := .ref (a 5)) hx hb hts hin8 hown hK hP 0 (WM_0 G a c) rfl 15 (by decide) hf28 (fun _ h => h) rfl dX8_hangs_16 ?_
    refine lv_bipush (v := 14) hx hb dX8_hangs_19 (by decide) ?_
    refine wk_iald (i := 14) hx hb hK hP 5 1 (WM_5 G a c) rfl (by omega) (Nat.le_of_ble_eq_true rfl) dX8_hangs_21 ?_
    refine lv_iload_n hx hb dX8_hangs_22 rfl (lv_at hl 1 rfl) ?_
    refine lv_ishr hx hb dX8_hangs_23 ?_
    refine lv_iconst (v := 1) hx hb dX8_hangs_24 (by decide) ?_
    refine lv_iand hx hb dX8_hangs_25 ?_
    show W _ _ _ _ _ _ _ _ _ _ _ _ _ _ _ (F0 _ _ _ (.int (bitI (qS c 14) (nI j)) :: _))
    refine lv_if_ne (tgt := 32) hx hb dX8_hangs_26 (by decide) (fun c26 => ?_) (fun c26 => ?_)
    · refine lv_aload_n hx hb dX8_hangs_32 rfl (lv_at hl 0 rfl) ?_
      refine wk_callA (va_runV (As := []) (rest := []) ⟨hx, hb, hml, hown, hts⟩ (c_X8_notes l G a c hc H.size) (cwV 0 hts gX8_hangs_X8_notes rfl rfl rfl hdV_X8_notes ⟨Nat.le_of_ble_eq_true rfl, Nat.le_of_ble_eq_true rfl⟩) ((PreM.mk hP hK hN hD).pre (ci := 8) (q0 := 0) rfl (WM_0 G a c)) rfl rfl hl.1 rfl (lv_room (Nat.le_of_ble_eq_true rfl)) dX8_hangs_33 ⟨hrc, hrs⟩) hD hS hA WM_fst (fun H locs hP hD hS => ?_)
      refine W.eq (g2 := F0 m 36 ls []) rfl ?_
      refine lv_aload_n hx hb dX8_hangs_36 rfl (lv_at hl 0 rfl) ?_
      refine va_get (D := G.1) (v := .ref (a 5)) hx hb hts hin8 hown hK hP 0 (WM_0 G a (yNote c)) rfl 15 (by decide) hf28 (fun _ h => h) rfl dX8_hangs_37 ?_
      refine lv_bipush (v := 14) hx hb dX8_hangs_40 (by decide) ?_
      refine lv_dup2_11 hx hb dX8_hangs_42 rfl rfl ?_
      refine wk_iald (i := 14) hx hb hK hP 5 1 (WM_5 G a (yNote c)) rfl (by omega) (Nat.le_of_ble_eq_true rfl) dX8_hangs_43 ?_
      refine lv_iconst (v := 1) hx hb dX8_hangs_44 (by decide) ?_
      refine lv_iload_n hx hb dX8_hangs_45 rfl (lv_at hl 1 rfl) ?_
      refine lv_ishl hx hb dX8_hangs_46 ?_
      show W _ _ _ _ _ _ _ _ _ _ _ _ _ _ _ (F0 _ _ _ (.int (sh1 (nI j)) :: _))
      refine lv_iconst (v := -1) hx hb dX8_hangs_47 (by decide) ?_
      refine lv_ixor hx hb dX8_hangs_48 ?_
      show W _ _ _ _ _ _ _ _ _ _ _ _ _ _ _ (F0 _ _ _ (.int (iv (sh1 (nI j))) :: _))
      refine lv_iand hx hb dX8_hangs_49 ?_
      refine wk_iast (i := 14) hx hb hK hP hD hS 5 1 (WM_5 G a (yNote c)) rfl (by omega) (Nat.le_of_ble_eq_true rfl) dX8_hangs_50 (fun H locs hP hD hS => ?_)
      rw [WMc_p5] at hP hD
      replace hP : va_P G.1 vwCl (WM G a (mkJ (qTr (yNote c)) (qTx (yNote c)) (qTy (yNote c)) (qNe (yNote c)) (qTo (yNote c)) (qPl (yNote c)) (qVa (yNote c)) (qFa (yNote c)) (qN (yNote c)) (qSo (yNote c)) (qVo (yNote c)) (qBi (yNote c)) (qHo (yNote c)) (qTd (yNote c)) (upd (qS (yNote c)) 14 ((qS (yNote c) 14) &&& (iv (sh1 (nI j))))) (qW (yNote c)) (qKe (yNote c)) (qIk (yNote c)) (qUn (yNote c)) (qUm (yNote c)) (qRb (yNote c)) (qRi (yNote c)) (qRm (yNote c)))) H := hP
      replace hD : va_D A (WM G a (mkJ (qTr (yNote c)) (qTx (yNote c)) (qTy (yNote c)) (qNe (yNote c)) (qTo (yNote c)) (qPl (yNote c)) (qVa (yNote c)) (qFa (yNote c)) (qN (yNote c)) (qSo (yNote c)) (qVo (yNote c)) (qBi (yNote c)) (qHo (yNote c)) (qTd (yNote c)) (upd (qS (yNote c)) 14 ((qS (yNote c) 14) &&& (iv (sh1 (nI j))))) (qW (yNote c)) (qKe (yNote c)) (qIk (yNote c)) (qUn (yNote c)) (qUm (yNote c)) (qRb (yNote c)) (qRi (yNote c)) (qRm (yNote c)))) := hD
      refine lv_aload_n hx hb dX8_hangs_51 rfl (lv_at hl 0 rfl) ?_
      refine va_get (D := G.1) (v := .ref (a 5)) hx hb hts hin8 hown hK hP 0 (WM_0 G a (mkJ (qTr (yNote c)) (qTx (yNote c)) (qTy (yNote c)) (qNe (yNote c)) (qTo (yNote c)) (qPl (yNote c)) (qVa (yNote c)) (qFa (yNote c)) (qN (yNote c)) (qSo (yNote c)) (qVo (yNote c)) (qBi (yNote c)) (qHo (yNote c)) (qTd (yNote c)) (upd (qS (yNote c)) 14 ((qS (yNote c) 14) &&& (iv (sh1 (nI j))))) (qW (yNote c)) (qKe (yNote c)) (qIk (yNote c)) (qUn (yNote c)) (qUm (yNote c)) (qRb (yNote c)) (qRi (yNote c)) (qRm (yNote c)))) rfl 15 (by decide) hf28 (fun _ h => h) rfl dX8_hangs_52 ?_
      refine lv_bipush (v := 15) hx hb dX8_hangs_55 (by decide) ?_
      refine lv_dup2_11 hx hb dX8_hangs_57 rfl rfl ?_
      refine wk_iald (i := 15) hx hb hK hP 5 1 (WM_5 G a (mkJ (qTr (yNote c)) (qTx (yNote c)) (qTy (yNote c)) (qNe (yNote c)) (qTo (yNote c)) (qPl (yNote c)) (qVa (yNote c)) (qFa (yNote c)) (qN (yNote c)) (qSo (yNote c)) (qVo (yNote c)) (qBi (yNote c)) (qHo (yNote c)) (qTd (yNote c)) (upd (qS (yNote c)) 14 ((qS (yNote c) 14) &&& (iv (sh1 (nI j))))) (qW (yNote c)) (qKe (yNote c)) (qIk (yNote c)) (qUn (yNote c)) (qUm (yNote c)) (qRb (yNote c)) (qRi (yNote c)) (qRm (yNote c)))) rfl (by omega) (Nat.le_of_ble_eq_true rfl) dX8_hangs_58 ?_
      refine lv_aload_n hx hb dX8_hangs_59 rfl (lv_at hl 0 rfl) ?_
      refine va_get (D := G.1) (v := .ref (a 2)) hx hb hts hin8 hown hK hP 0 (WM_0 G a (mkJ (qTr (yNote c)) (qTx (yNote c)) (qTy (yNote c)) (qNe (yNote c)) (qTo (yNote c)) (qPl (yNote c)) (qVa (yNote c)) (qFa (yNote c)) (qN (yNote c)) (qSo (yNote c)) (qVo (yNote c)) (qBi (yNote c)) (qHo (yNote c)) (qTd (yNote c)) (upd (qS (yNote c)) 14 ((qS (yNote c) 14) &&& (iv (sh1 (nI j))))) (qW (yNote c)) (qKe (yNote c)) (qIk (yNote c)) (qUn (yNote c)) (qUm (yNote c)) (qRb (yNote c)) (qRi (yNote c)) (qRm (yNote c)))) rfl 10 (by decide) hf16 (fun _ h => h) rfl dX8_hangs_60 ?_
      refine lv_iload_n hx hb dX8_hangs_63 rfl (lv_at hl 1 rfl) ?_
      refine wk_iald (i := j) hx hb hK hP 2 1 (WM_2 G a (mkJ (qTr (yNote c)) (qTx (yNote c)) (qTy (yNote c)) (qNe (yNote c)) (qTo (yNote c)) (qPl (yNote c)) (qVa (yNote c)) (qFa (yNote c)) (qN (yNote c)) (qSo (yNote c)) (qVo (yNote c)) (qBi (yNote c)) (qHo (yNote c)) (qTd (yNote c)) (upd (qS (yNote c)) 14 ((qS (yNote c) 14) &&& (iv (sh1 (nI j))))) (qW (yNote c)) (qKe (yNote c)) (qIk (yNote c)) (qUn (yNote c)) (qUm (yNote c)) (qRb (yNote c)) (qRi (yNote c)) (qRm (yNote c)))) rfl (by omega) (Nat.le_of_ble_eq_true rfl) dX8_hangs_64 ?_
      refine lv_iconst (v := 2) hx hb dX8_hangs_65 (by decide) ?_
      refine lv_icmp_ne (tgt := 75) hx hb dX8_hangs_66 (by decide) (fun c66 => ?_) (fun c66 => ?_)
      · replace c66 : ¬ qSo (yNote c) j = 2 := c66
        rw [note_So] at c66
        refine lv_iconst (v := 0) hx hb dX8_hangs_75 (by decide) ?_
        refine lv_ixor hx hb dX8_hangs_76 ?_
        refine wk_iast (i := 15) hx hb hK hP hD hS 5 1 (WM_5 G a (mkJ (qTr (yNote c)) (qTx (yNote c)) (qTy (yNote c)) (qNe (yNote c)) (qTo (yNote c)) (qPl (yNote c)) (qVa (yNote c)) (qFa (yNote c)) (qN (yNote c)) (qSo (yNote c)) (qVo (yNote c)) (qBi (yNote c)) (qHo (yNote c)) (qTd (yNote c)) (upd (qS (yNote c)) 14 ((qS (yNote c) 14) &&& (iv (sh1 (nI j))))) (qW (yNote c)) (qKe (yNote c)) (qIk (yNote c)) (qUn (yNote c)) (qUm (yNote c)) (qRb (yNote c)) (qRi (yNote c)) (qRm (yNote c)))) rfl (by omega) (Nat.le_of_ble_eq_true rfl) dX8_hangs_77 (fun H locs hP hD hS => ?_)
        rw [WMk_p5] at hP hD
        replace hP : va_P G.1 vwCl (WM G a (mkJ (qTr (yNote c)) (qTx (yNote c)) (qTy (yNote c)) (qNe (yNote c)) (qTo (yNote c)) (qPl (yNote c)) (qVa (yNote c)) (qFa (yNote c)) (qN (yNote c)) (qSo (yNote c)) (qVo (yNote c)) (qBi (yNote c)) (qHo (yNote c)) (qTd (yNote c)) (upd (upd (qS (yNote c)) 14 ((qS (yNote c) 14) &&& (iv (sh1 (nI j))))) 15 ((upd (qS (yNote c)) 14 ((qS (yNote c) 14) &&& (iv (sh1 (nI j)))) 15) ^^^ 0)) (qW (yNote c)) (qKe (yNote c)) (qIk (yNote c)) (qUn (yNote c)) (qUm (yNote c)) (qRb (yNote c)) (qRi (yNote c)) (qRm (yNote c)))) H := hP
        replace hD : va_D A (WM G a (mkJ (qTr (yNote c)) (qTx (yNote c)) (qTy (yNote c)) (qNe (yNote c)) (qTo (yNote c)) (qPl (yNote c)) (qVa (yNote c)) (qFa (yNote c)) (qN (yNote c)) (qSo (yNote c)) (qVo (yNote c)) (qBi (yNote c)) (qHo (yNote c)) (qTd (yNote c)) (upd (upd (qS (yNote c)) 14 ((qS (yNote c) 14) &&& (iv (sh1 (nI j))))) 15 ((upd (qS (yNote c)) 14 ((qS (yNote c) 14) &&& (iv (sh1 (nI j)))) 15) ^^^ 0)) (qW (yNote c)) (qKe (yNote c)) (qIk (yNote c)) (qUn (yNote c)) (qUm (yNote c)) (qRb (yNote c)) (qRi (yNote c)) (qRm (yNote c)))) := hD
        refine lv_aload_n hx hb dX8_hangs_78 rfl (lv_at hl 0 rfl) ?_
        refine va_get (D := G.1) (v := .ref (a 5)) hx hb hts hin8 hown hK hP 0 (WM_0 G a (mkJ (qTr (yNote c)) (qTx (yNote c)) (qTy (yNote c)) (qNe (yNote c)) (qTo (yNote c)) (qPl (yNote c)) (qVa (yNote c)) (qFa (yNote c)) (qN (yNote c)) (qSo (yNote c)) (qVo (yNote c)) (qBi (yNote c)) (qHo (yNote c)) (qTd (yNote c)) (upd (upd (qS (yNote c)) 14 ((qS (yNote c) 14) &&& (iv (sh1 (nI j))))) 15 ((upd (qS (yNote c)) 14 ((qS (yNote c) 14) &&& (iv (sh1 (nI j)))) 15) ^^^ 0)) (qW (yNote c)) (qKe (yNote c)) (qIk (yNote c)) (qUn (yNote c)) (qUm (yNote c)) (qRb (yNote c)) (qRi (yNote c)) (qRm (yNote c)))) rfl 15 (by decide) hf28 (fun _ h => h) rfl dX8_hangs_79 ?_
        refine lv_bipush (v := 15) hx hb dX8_hangs_82 (by decide) ?_
        refine wk_iald (i := 15) hx hb hK hP 5 1 (WM_5 G a (mkJ (qTr (yNote c)) (qTx (yNote c)) (qTy (yNote c)) (qNe (yNote c)) (qTo (yNote c)) (qPl (yNote c)) (qVa (yNote c)) (qFa (yNote c)) (qN (yNote c)) (qSo (yNote c)) (qVo (yNote c)) (qBi (yNote c)) (qHo (yNote c)) (qTd (yNote c)) (upd (upd (qS (yNote c)) 14 ((qS (yNote c) 14) &&& (iv (sh1 (nI j))))) 15 ((upd (qS (yNote c)) 14 ((qS (yNote c) 14) &&& (iv (sh1 (nI j)))) 15) ^^^ 0)) (qW (yNote c)) (qKe (yNote c)) (qIk (yNote c)) (qUn (yNote c)) (qUm (yNote c)) (qRb (yNote c)) (qRi (yNote c)) (qRm (yNote c)))) rfl (by omega) (Nat.le_of_ble_eq_true rfl) dX8_hangs_84 ?_
        refine lv_iload_n hx hb dX8_hangs_85 rfl (lv_at hl 1 rfl) ?_
        refine lv_ishr hx hb dX8_hangs_86 ?_
        refine lv_iconst (v := 1) hx hb dX8_hangs_87 (by decide) ?_
        refine lv_iand hx hb dX8_hangs_88 ?_
        show W _ _ _ _ _ _ _ _ _ _ _ _ _ _ _ (F0 _ _ _ (.int (bitI (upd (upd (qS (yNote c)) 14 ((qS (yNote c) 14) &&& (iv (sh1 (nI j))))) 15 ((upd (qS (yNote c)) 14 ((qS (yNote c) 14) &&& (iv (sh1 (nI j)))) 15) ^^^ 0) 15) (nI j)) :: _))
        have hq : yHangs c (nI j) = ((bitI (upd (upd (qS (yNote c)) 14 ((qS (yNote c) 14) &&& (iv (sh1 (nI j))))) 15 ((upd (qS (yNote c)) 14 ((qS (yNote c) 14) &&& (iv (sh1 (nI j)))) 15) ^^^ 0) 15) (nI j)), mkJ (qTr (yNote c)) (qTx (yNote c)) (qTy (yNote c)) (qNe (yNote c)) (qTo (yNote c)) (qPl (yNote c)) (qVa (yNote c)) (qFa (yNote c)) (qN (yNote c)) (qSo (yNote c)) (qVo (yNote c)) (qBi (yNote c)) (qHo (yNote c)) (qTd (yNote c)) (upd (upd (qS (yNote c)) 14 ((qS (yNote c) 14) &&& (iv (sh1 (nI j))))) 15 ((upd (qS (yNote c)) 14 ((qS (yNote c) 14) &&& (iv (sh1 (nI j)))) 15) ^^^ 0)) (qW (yNote c)) (qKe (yNote c)) (qIk (yNote c)) (qUn (yNote c)) (qUm (yNote c)) (qRb (yNote c)) (qRi (yNote c)) (qRm (yNote c))) := by (simp only [yHangs, hcl, wS_mk, note_S, note_N, note_So, note_Vo, note_Bi, pk_us, pk_un (show (15 : Nat) ≠ 14 by decide), c10, c26, c66, if_true, if_false, reduceIte, not_true_eq_false, not_false_eq_true, Bool.and_true, Bool.true_and, Bool.and_self, Bool.and_false, Bool.false_and, Bool.false_eq_true]) <;> rfl
        exact wk_mret' hx hb hr hlocks dX8_hangs_89 hP hS (congrArg (fun z => some (Value.int z.1)) hq) (congrArg (fun z => WM G a z.2) hq)
      · replace c66 : qSo (yNote c) j = 2 := c66
        rw [note_So] at c66
        refine lv_iconst (v := 1) hx hb dX8_hangs_69 (by decide) ?_
        refine lv_iload_n hx hb dX8_hangs_70 rfl (lv_at hl 1 rfl) ?_
        refine lv_ishl hx hb dX8_hangs_71 ?_
        show W _ _ _ _ _ _ _ _ _ _ _ _ _ _ _ (F0 _ _ _ (.int (sh1 (nI j)) :: _))
        refine lv_goto (tgt := 76) hx hb dX8_hangs_72 (by decide) ?_
        refine lv_ixor hx hb dX8_hangs_76 ?_
        refine wk_iast (i := 15) hx hb hK hP hD hS 5 1 (WM_5 G a (mkJ (qTr (yNote c)) (qTx (yNote c)) (qTy (yNote c)) (qNe (yNote c)) (qTo (yNote c)) (qPl (yNote c)) (qVa (yNote c)) (qFa (yNote c)) (qN (yNote c)) (qSo (yNote c)) (qVo (yNote c)) (qBi (yNote c)) (qHo (yNote c)) (qTd (yNote c)) (upd (qS (yNote c)) 14 ((qS (yNote c) 14) &&& (iv (sh1 (nI j))))) (qW (yNote c)) (qKe (yNote c)) (qIk (yNote c)) (qUn (yNote c)) (qUm (yNote c)) (qRb (yNote c)) (qRi (yNote c)) (qRm (yNote c)))) rfl (by omega) (Nat.le_of_ble_eq_true rfl) dX8_hangs_77 (fun H locs hP hD hS => ?_)
        rw [WMk_p5] at hP hD
        replace hP : va_P G.1 vwCl (WM G a (mkJ (qTr (yNote c)) (qTx (yNote c)) (qTy (yNote c)) (qNe (yNote c)) (qTo (yNote c)) (qPl (yNote c)) (qVa (yNote c)) (qFa (yNote c)) (qN (yNote c)) (qSo (yNote c)) (qVo (yNote c)) (qBi (yNote c)) (qHo (yNote c)) (qTd (yNote c)) (upd (upd (qS (yNote c)) 14 ((qS (yNote c) 14) &&& (iv (sh1 (nI j))))) 15 ((upd (qS (yNote c)) 14 ((qS (yNote c) 14) &&& (iv (sh1 (nI j)))) 15) ^^^ (sh1 (nI j)))) (qW (yNote c)) (qKe (yNote c)) (qIk (yNote c)) (qUn (yNote c)) (qUm (yNote c)) (qRb (yNote c)) (qRi (yNote c)) (qRm (yNote c)))) H := hP
        replace hD : va_D A (WM G a (mkJ (qTr (yNote c)) (qTx (yNote c)) (qTy (yNote c)) (qNe (yNote c)) (qTo (yNote c)) (qPl (yNote c)) (qVa (yNote c)) (qFa (yNote c)) (qN (yNote c)) (qSo (yNote c)) (qVo (yNote c)) (qBi (yNote c)) (qHo (yNote c)) (qTd (yNote c)) (upd (upd (qS (yNote c)) 14 ((qS (yNote c) 14) &&& (iv (sh1 (nI j))))) 15 ((upd (qS (yNote c)) 14 ((qS (yNote c) 14) &&& (iv (sh1 (nI j)))) 15) ^^^ (sh1 (nI j)))) (qW (yNote c)) (qKe (yNote c)) (qIk (yNote c)) (qUn (yNote c)) (qUm (yNote c)) (qRb (yNote c)) (qRi (yNote c)) (qRm (yNote c)))) := hD
        refine lv_aload_n hx hb dX8_hangs_78 rfl (lv_at hl 0 rfl) ?_
        refine va_get (D := G.1) (v := .ref (a 5)) hx hb hts hin8 hown hK hP 0 (WM_0 G a (mkJ (qTr (yNote c)) (qTx (yNote c)) (qTy (yNote c)) (qNe (yNote c)) (qTo (yNote c)) (qPl (yNote c)) (qVa (yNote c)) (qFa (yNote c)) (qN (yNote c)) (qSo (yNote c)) (qVo (yNote c)) (qBi (yNote c)) (qHo (yNote c)) (qTd (yNote c)) (upd (upd (qS (yNote c)) 14 ((qS (yNote c) 14) &&& (iv (sh1 (nI j))))) 15 ((upd (qS (yNote c)) 14 ((qS (yNote c) 14) &&& (iv (sh1 (nI j)))) 15) ^^^ (sh1 (nI j)))) (qW (yNote c)) (qKe (yNote c)) (qIk (yNote c)) (qUn (yNote c)) (qUm (yNote c)) (qRb (yNote c)) (qRi (yNote c)) (qRm (yNote c)))) rfl 15 (by decide) hf28 (fun _ h => h) rfl dX8_hangs_79 ?_
        refine lv_bipush (v := 15) hx hb dX8_hangs_82 (by decide) ?_
        refine wk_iald (i := 15) hx hb hK hP 5 1 (WM_5 G a (mkJ (qTr (yNote c)) (qTx (yNote c)) (qTy (yNote c)) (qNe (yNote c)) (qTo (yNote c)) (qPl (yNote c)) (qVa (yNote c)) (qFa (yNote c)) (qN (yNote c)) (qSo (yNote c)) (qVo (yNote c)) (qBi (yNote c)) (qHo (yNote c)) (qTd (yNote c)) (upd (upd (qS (yNote c)) 14 ((qS (yNote c) 14) &&& (iv (sh1 (nI j))))) 15 ((upd (qS (yNote c)) 14 ((qS (yNote c) 14) &&& (iv (sh1 (nI j)))) 15) ^^^ (sh1 (nI j)))) (qW (yNote c)) (qKe (yNote c)) (qIk (yNote c)) (qUn (yNote c)) (qUm (yNote c)) (qRb (yNote c)) (qRi (yNote c)) (qRm (yNote c)))) rfl (by omega) (Nat.le_of_ble_eq_true rfl) dX8_hangs_84 ?_
        refine lv_iload_n hx hb dX8_hangs_85 rfl (lv_at hl 1 rfl) ?_
        refine lv_ishr hx hb dX8_hangs_86 ?_
        refine lv_iconst (v := 1) hx hb dX8_hangs_87 (by decide) ?_
        refine lv_iand hx hb dX8_hangs_88 ?_
        show W _ _ _ _ _ _ _ _ _ _ _ _ _ _ _ (F0 _ _ _ (.int (bitI (upd (upd (qS (yNote c)) 14 ((qS (yNote c) 14) &&& (iv (sh1 (nI j))))) 15 ((upd (qS (yNote c)) 14 ((qS (yNote c) 14) &&& (iv (sh1 (nI j)))) 15) ^^^ (sh1 (nI j))) 15) (nI j)) :: _))
        have hq : yHangs c (nI j) = ((bitI (upd (upd (qS (yNote c)) 14 ((qS (yNote c) 14) &&& (iv (sh1 (nI j))))) 15 ((upd (qS (yNote c)) 14 ((qS (yNote c) 14) &&& (iv (sh1 (nI j)))) 15) ^^^ (sh1 (nI j))) 15) (nI j)), mkJ (qTr (yNote c)) (qTx (yNote c)) (qTy (yNote c)) (qNe (yNote c)) (qTo (yNote c)) (qPl (yNote c)) (qVa (yNote c)) (qFa (yNote c)) (qN (yNote c)) (qSo (yNote c)) (qVo (yNote c)) (qBi (yNote c)) (qHo (yNote c)) (qTd (yNote c)) (upd (upd (qS (yNote c)) 14 ((qS (yNote c) 14) &&& (iv (sh1 (nI j))))) 15 ((upd (qS (yNote c)) 14 ((qS (yNote c) 14) &&& (iv (sh1 (nI j)))) 15) ^^^ (sh1 (nI j)))) (qW (yNote c)) (qKe (yNote c)) (qIk (yNote c)) (qUn (yNote c)) (qUm (yNote c)) (qRb (yNote c)) (qRi (yNote c)) (qRm (yNote c))) := by (simp only [yHangs, hcl, wS_mk, note_S, note_N, note_So, note_Vo, note_Bi, pk_us, pk_un (show (15 : Nat) ≠ 14 by decide), c10, c26, c66, if_true, if_false, reduceIte, not_true_eq_false, not_false_eq_true, Bool.and_true, Bool.true_and, Bool.and_self, Bool.and_false, Bool.false_and, Bool.false_eq_true]) <;> rfl
        exact wk_mret' hx hb hr hlocks dX8_hangs_89 hP hS (congrArg (fun z => some (Value.int z.1)) hq) (congrArg (fun z => WM G a z.2) hq)
    · refine lv_bipush (v := -2) hx hb dX8_hangs_29 (by decide) ?_
      have hq : yHangs c (nI j) = ((-2), c) := by (simp only [yHangs, hcl, wS_mk, note_S, note_N, note_So, note_Vo, note_Bi, pk_us, pk_un (show (15 : Nat) ≠ 14 by decide), c10, c26, if_true, if_false, reduceIte, not_true_eq_false, not_false_eq_true, Bool.and_true, Bool.true_and, Bool.and_self, Bool.and_false, Bool.false_and, Bool.false_eq_true]) <;> rfl
      exact wk_mret' hx hb hr hlocks dX8_hangs_31 hP hS (congrArg (fun z => some (Value.int z.1)) hq) (congrArg (fun z => WM G a z.2) hq)
  · have c10 := b2i_f c10
    refine lv_iconst (v := -1) hx hb dX8_hangs_13 (by decide) ?_
    have hq : yHangs c t = ((-1), c) := by (simp only [yHangs, wS_mk, note_S, note_N, note_So, note_Vo, note_Bi, pk_us, pk_un (show (15 : Nat) ≠ 14 by decide), c10, if_true, if_false, reduceIte, not_true_eq_false, not_false_eq_true, Bool.and_true, Bool.true_and, Bool.and_self, Bool.and_false, Bool.false_and, Bool.false_eq_true]) <;> rfl
    exact wk_mret' hx hb hr hlocks dX8_hangs_14 hP hS (congrArg (fun z => some (Value.int z.1)) hq) (congrArg (fun z => WM G a z.2) hq)
theorem hdV_X8_warms : yX8_warms.cls = RX8 ∧ yX8_warms.cls ≠ "java/lang/invoke/MethodHandle" ∧ yX8_warms.cls ≠ "java/lang/invoke/VarHandle" ∧ (parseMethodDescriptor yX8_warms.desc).map (fun d => d.parameters.length) = some 1 := by decide +kernel
set_option maxHeartbeats 600000 in
set_option maxRecDepth 100000 in
theorem c_X8_warms (l : Launch) (G : GG) (a : Nat → Nat) (c : JX) (hc : OkJ c) (t : Int32) (sz : Nat) : Met l yX8_warms wsX8_warms ({ frames := 2, cells := 0, slots := 0, locals := 43 }) (va_Pc [.ref (a 0), .int t] (fun U => PreM G (WM G a c) sz U U.heap)) (Qm G.1 vwCl (some (.int (yWarms c t).1)) (WM G a ((yWarms c t).2)) (va_A (WM G a c) sz)) 0 0 (va_A (WM G a c) sz) := by
  refine Met.ofW (cc := cX8_warms) (maxL := 3) (ret := (some .int)) (by decide) rfl ?_
  intro p e s m args below meth cd s₁ BB hml hv
  obtain ⟨rfl, ⟨hP, hK, hN⟩, hD0, hsz⟩ := hv
  have hx := BB.exec
  have hb := BB.bytes
  have hr := BB.returns
  have hts := atoms_spec (ws := wsX8_warms) BB.pre
  have hown : s.vm.findClass RX8 = some m.cls := findClass_of_methodNamed BB.named
  have hlocks := BB.notSynchronized
  have hrc : 0 + 0 ≤ (headSpec wsX8_warms ({ frames := 2, cells := 0, slots := 0, locals := 43 })).room.cells := Nat.le_refl _
  have hrs : 0 + 0 ≤ (headSpec wsX8_warms ({ frames := 2, cells := 0, slots := 0, locals := 43 })).room.slots := Nat.le_refl _
  subst hsz
  have hD := hD0.self (sz := s.heap.size)
  generalize hAe : va_A (WM G a c) s.heap.size = A at hD ⊢
  have hA : ∀ q : Nat, s.heap.size ≤ q → A q := fun q h => by rw [← hAe]; exact Or.inr h
  have hS : va_S A s.heap s.heap [] := va_S.rf
  obtain ⟨hk7, ho1, ho5, hl200, hr6, hu10⟩ := id hc
  have hin8 : ∀ w ∈ u_ws RX8 TX8 24, w ∈ wsX8_warms := by decide +kernel
  have hf13 := hts (.fieldLink RX8 13 "RegaliaVotesModel" "many" "[I") (by decide +kernel)
  have hf16 := hts (.fieldLink RX8 16 "RegaliaVotesModel" "sort" "[I") (by decide +kernel)
  have hf28 := hts (.fieldLink RX8 28 "RegaliaVotesModel" "s" "[I") (by decide +kernel)
  have hf50 := hts (.fieldLink RX8 50 "RegaliaVotesModel" "thrown" "I") (by decide +kernel)
  refine wk_enter (n := 3) (Nat.le_of_ble_eq_true rfl) (fun ls hl => ?_)
  have hl : lv_has ls 3 [(0, .ref (a 0)), (1, .int t)] := hl
  refine lv_aload_n hx hb dX8_warms_0 rfl (lv_at hl 0 rfl) ?_
  refine lv_iconst (v := 0) hx hb dX8_warms_1 (by decide) ?_
  refine va_put (D := G.1) (v := .int 0) (ty := .int) hx hb hts hin8 tyX8 tyX8_ok nmX8 hown hK hP hD hS 0 (WM_0 G a c) rfl 0 (by decide) hf50 (fun _ h => h) rfl (by decide +kernel) rfl rfl (Nat.le_of_ble_eq_true rfl) dX8_warms_2 (fun H locs hP hD hS => ?_)
  rw [WM_p0_0] at hP hD
  refine lv_aload_n hx hb dX8_warms_5 rfl (lv_at hl 0 rfl) ?_
  refine lv_iload_n hx hb dX8_warms_6 rfl (lv_at hl 1 rfl) ?_
  refine wk_read (va_runV (As := [.int t]) (rest := []) ⟨hx, hb, hml, hown, hts⟩ (c_X8_isThing l G a c hc t) (cwV 1 hts gX8_warms_X8_isThing rfl rfl rfl hdV_X8_isThing ⟨Nat.le_of_ble_eq_true rfl, Nat.le_of_ble_eq_true rfl⟩) (PreW.pre (G := G) (W0 := WM G a c) ⟨hP, hK, hN⟩ (ci := 8) (q0 := 0) rfl rfl) rfl rfl hl.1 rfl (lv_room (Nat.le_of_ble_eq_true rfl)) dX8_warms_7 ⟨hrc, hrs⟩) ?_
  refine lv_if_ne (tgt := 15) hx hb dX8_warms_10 (by decide) (fun c10 => ?_) (fun c10 => ?_)
  · have c10 := b2i_t c10
    obtain ⟨j, hj, rfl⟩ := jIsT_n c10 hk7
    have hcl := nI_clamp (show j < 2 ^ 31 by omega)
    refine lv_aload_n hx hb dX8_warms_15 rfl (lv_at hl 0 rfl) ?_
    refine va_get (D := G.1) (v := .ref (a 2)) hx hb hts hin8 hown hK hP 0 (WM_0 G a c) rfl 10 (by decide) hf16 (fun _ h => h) rfl dX8_warms_16 ?_
    refine lv_iload_n hx hb dX8_warms_19 rfl (lv_at hl 1 rfl) ?_
    refine wk_iald (i := j) hx hb hK hP 2 1 (WM_2 G a c) rfl (by omega) (Nat.le_of_ble_eq_true rfl) dX8_warms_20 ?_
    refine lv_iconst (v := 1) hx hb dX8_warms_21 (by decide) ?_
    refine lv_icmp_eq (tgt := 28) hx hb dX8_warms_22 (by decide) (fun c22 => ?_) (fun c22 => ?_)
    · refine lv_aload_n hx hb dX8_warms_28 rfl (lv_at hl 0 rfl) ?_
      refine wk_callA (va_runV (As := []) (rest := []) ⟨hx, hb, hml, hown, hts⟩ (c_X8_notes l G a c hc H.size) (cwV 0 hts gX8_warms_X8_notes rfl rfl rfl hdV_X8_notes ⟨Nat.le_of_ble_eq_true rfl, Nat.le_of_ble_eq_true rfl⟩) ((PreM.mk hP hK hN hD).pre (ci := 8) (q0 := 0) rfl (WM_0 G a c)) rfl rfl hl.1 rfl (lv_room (Nat.le_of_ble_eq_true rfl)) dX8_warms_29 ⟨hrc, hrs⟩) hD hS hA WM_fst (fun H locs hP hD hS => ?_)
      refine W.eq (g2 := F0 m 32 ls []) rfl ?_
      refine lv_aload_n hx hb dX8_warms_32 rfl (lv_at hl 0 rfl) ?_
      refine va_get (D := G.1) (v := .ref (a 5)) hx hb hts hin8 hown hK hP 0 (WM_0 G a (yNote c)) rfl 15 (by decide) hf28 (fun _ h => h) rfl dX8_warms_33 ?_
      refine lv_bipush (v := 7) hx hb dX8_warms_36 (by decide) ?_
      refine lv_iload_n hx hb dX8_warms_38 rfl (lv_at hl 1 rfl) ?_
      refine wk_iadd (x := 7) (y := j) hx hb dX8_warms_39 ?_
      refine wk_iald (i := (7 + j)) hx hb hK hP 5 1 (WM_5 G a (yNote c)) rfl (by omega) (Nat.le_of_ble_eq_true rfl) dX8_warms_40 ?_
      refine lv_istore_n (lv' := [(2, .int (qS (yNote c) (7 + j))), (0, .ref (a 0)), (1, .int (nI j))]) hx hb dX8_warms_41 rfl hl (by decide) rfl (fun ls hl => ?_)
      refine lv_aload_n hx hb dX8_warms_42 rfl (lv_at hl 1 rfl) ?_
      refine va_get (D := G.1) (v := .ref (a 5)) hx hb hts hin8 hown hK hP 0 (WM_0 G a (yNote c)) rfl 15 (by decide) hf28 (fun _ h => h) rfl dX8_warms_43 ?_
      refine lv_bipush (v := 7) hx hb dX8_warms_46 (by decide) ?_
      refine lv_iload_n hx hb dX8_warms_48 rfl (lv_at hl 2 rfl) ?_
      refine wk_iadd (x := 7) (y := j) hx hb dX8_warms_49 ?_
      refine lv_aload_n hx hb dX8_warms_50 rfl (lv_at hl 1 rfl) ?_
      refine va_get (D := G.1) (v := .ref (a 1)) hx hb hts hin8 hown hK hP 0 (WM_0 G a (yNote c)) rfl 9 (by decide) hf13 (fun _ h => h) rfl dX8_warms_51 ?_
      refine lv_iconst (v := 2) hx hb dX8_warms_54 (by decide) ?_
      refine wk_iald (i := 2) hx hb hK hP 1 1 (WM_1 G a (yNote c)) rfl (by omega) (Nat.le_of_ble_eq_true rfl) dX8_warms_55 ?_
      refine wk_iast (i := (7 + j)) hx hb hK hP hD hS 5 1 (WM_5 G a (yNote c)) rfl (by omega) (Nat.le_of_ble_eq_true rfl) dX8_warms_56 (fun H locs hP hD hS => ?_)
      rw [WMc_p5] at hP hD
      replace hP : va_P G.1 vwCl (WM G a (mkJ (qTr (yNote c)) (qTx (yNote c)) (qTy (yNote c)) (qNe (yNote c)) (qTo (yNote c)) (qPl (yNote c)) (qVa (yNote c)) (qFa (yNote c)) (qN (yNote c)) (qSo (yNote c)) (qVo (yNote c)) (qBi (yNote c)) (qHo (yNote c)) (qTd (yNote c)) (upd (qS (yNote c)) (7 + j) (nI (qN (yNote c) 2))) (qW (yNote c)) (qKe (yNote c)) (qIk (yNote c)) (qUn (yNote c)) (qUm (yNote c)) (qRb (yNote c)) (qRi (yNote c)) (qRm (yNote c)))) H := hP
      replace hD : va_D A (WM G a (mkJ (qTr (yNote c)) (qTx (yNote c)) (qTy (yNote c)) (qNe (yNote c)) (qTo (yNote c)) (qPl (yNote c)) (qVa (yNote c)) (qFa (yNote c)) (qN (yNote c)) (qSo (yNote c)) (qVo (yNote c)) (qBi (yNote c)) (qHo (yNote c)) (qTd (yNote c)) (upd (qS (yNote c)) (7 + j) (nI (qN (yNote c) 2))) (qW (yNote c)) (qKe (yNote c)) (qIk (yNote c)) (qUn (yNote c)) (qUm (yNote c)) (qRb (yNote c)) (qRi (yNote c)) (qRm (yNote c)))) := hD
      refine lv_iload_n hx hb dX8_warms_57 rfl (lv_at hl 0 rfl) ?_
      have hq : yWarms c (nI j) = ((qS (yNote c) (7 + j)), mkJ (qTr (yNote c)) (qTx (yNote c)) (qTy (yNote c)) (qNe (yNote c)) (qTo (yNote c)) (qPl (yNote c)) (qVa (yNote c)) (qFa (yNote c)) (qN (yNote c)) (qSo (yNote c)) (qVo (yNote c)) (qBi (yNote c)) (qHo (yNote c)) (qTd (yNote c)) (upd (qS (yNote c)) (7 + j) (nI (qN (yNote c) 2))) (qW (yNote c)) (qKe (yNote c)) (qIk (yNote c)) (qUn (yNote c)) (qUm (yNote c)) (qRb (yNote c)) (qRi (yNote c)) (qRm (yNote c))) := by (simp only [yWarms, hcl, wS_mk, note_S, note_N, note_So, note_Vo, note_Bi, c10, c22, if_true, if_false, reduceIte, not_true_eq_false, not_false_eq_true, Bool.and_true, Bool.true_and, Bool.and_self, Bool.and_false, Bool.false_and, Bool.false_eq_true]) <;> rfl
      exact wk_mret' hx hb hr hlocks dX8_warms_58 hP hS (congrArg (fun z => some (Value.int z.1)) hq) (congrArg (fun z => WM G a z.2) hq)
    · refine lv_bipush (v := -2) hx hb dX8_warms_25 (by decide) ?_
      have hq : yWarms c (nI j) = ((-2), c) := by (simp only [yWarms, hcl, wS_mk, note_S, note_N, note_So, note_Vo, note_Bi, c10, c22, if_true, if_false, reduceIte, not_true_eq_false, not_false_eq_true, Bool.and_true, Bool.true_and, Bool.and_self, Bool.and_false, Bool.false_and, Bool.false_eq_true]) <;> rfl
      exact wk_mret' hx hb hr hlocks dX8_warms_27 hP hS (congrArg (fun z => some (Value.int z.1)) hq) (congrArg (fun z => WM G a z.2) hq)
  · have c10 := b2i_f c10
    refine lv_iconst (v := -1) hx hb dX8_warms_13 (by decide) ?_
    have hq : yWarms c t = ((-1), c) := by (simp only [yWarms, wS_mk, note_S, note_N, note_So, note_Vo, note_Bi, c10, if_true, if_false, reduceIte, not_true_eq_false, not_false_eq_true, Bool.and_true, Bool.true_and, Bool.and_self, Bool.and_false, Bool.false_and, Bool.false_eq_true]) <;> rfl
    exact wk_mret' hx hb hr hlocks dX8_warms_14 hP hS (congrArg (fun z => some (Value.int z.1)) hq) (congrArg (fun z => WM G a z.2) hq)
theorem hdV_X8_sickens : yX8_sickens.cls = RX8 ∧ yX8_sickens.cls ≠ "java/lang/invoke/MethodHandle" ∧ yX8_sickens.cls ≠ "java/lang/invoke/VarHandle" ∧ (parseMethodDescriptor yX8_sickens.desc).map (fun d => d.parameters.length) = some 2 := by decide +kernel
set_option maxHeartbeats 600000 in
set_option maxRecDepth 100000 in
theorem c_X8_sickens (l : Launch) (G : GG) (a : Nat → Nat) (c : JX) (hc : OkJ c) (o : Int32) (u : Int32) (sz : Nat) : Met l yX8_sickens wsX8_sickens ({ frames := 2, cells := 0, slots := 0, locals := 43 }) (va_Pc [.ref (a 0), .int o, .int u] (fun U => PreM G (WM G a c) sz U U.heap)) (Qm G.1 vwCl (some (.int (ySickens c o u).1)) (WM G a ((ySickens c o u).2)) (va_A (WM G a c) sz)) 0 0 (va_A (WM G a c) sz) := by
  refine Met.ofW (cc := cX8_sickens) (maxL := 4) (ret := (some .int)) (by decide) rfl ?_
  intro p e s m args below meth cd s₁ BB hml hv
  obtain ⟨rfl, ⟨hP, hK, hN⟩, hD0, hsz⟩ := hv
  have hx := BB.exec
  have hb := BB.bytes
  have hr := BB.returns
  have hts := atoms_spec (ws := wsX8_sickens) BB.pre
  have hown : s.vm.findClass RX8 = some m.cls := findClass_of_methodNamed BB.named
  have hlocks := BB.notSynchronized
  have hrc : 0 + 0 ≤ (headSpec wsX8_sickens ({ frames := 2, cells := 0, slots := 0, locals := 43 })).room.cells := Nat.le_refl _
  have hrs : 0 + 0 ≤ (headSpec wsX8_sickens ({ frames := 2, cells := 0, slots := 0, locals := 43 })).room.slots := Nat.le_refl _
  subst hsz
  have hD := hD0.self (sz := s.heap.size)
  generalize hAe : va_A (WM G a c) s.heap.size = A at hD ⊢
  have hA : ∀ q : Nat, s.heap.size ≤ q → A q := fun q h => by rw [← hAe]; exact Or.inr h
  have hS : va_S A s.heap s.heap [] := va_S.rf
  obtain ⟨hk7, ho1, ho5, hl200, hr6, hu10⟩ := id hc
  have hin8 : ∀ w ∈ u_ws RX8 TX8 24, w ∈ wsX8_sickens := by decide +kernel
  have hf28 := hts (.fieldLink RX8 28 "RegaliaVotesModel" "s" "[I") (by decide +kernel)
  have hf50 := hts (.fieldLink RX8 50 "RegaliaVotesModel" "thrown" "I") (by decide +kernel)
  refine wk_enter (n := 4) (Nat.le_of_ble_eq_true rfl) (fun ls hl => ?_)
  have hl : lv_has ls 4 [(0, .ref (a 0)), (1, .int o), (2, .int u)] := hl
  refine lv_aload_n hx hb dX8_sickens_0 rfl (lv_at hl 0 rfl) ?_
  refine lv_iconst (v := 0) hx hb dX8_sickens_1 (by decide) ?_
  refine va_put (D := G.1) (v := .int 0) (ty := .int) hx hb hts hin8 tyX8 tyX8_ok nmX8 hown hK hP hD hS 0 (WM_0 G a c) rfl 0 (by decide) hf50 (fun _ h => h) rfl (by decide +kernel) rfl rfl (Nat.le_of_ble_eq_true rfl) dX8_sickens_2 (fun H locs hP hD hS => ?_)
  rw [WM_p0_0] at hP hD
  refine lv_aload_n hx hb dX8_sickens_5 rfl (lv_at hl 0 rfl) ?_
  refine lv_iload_n hx hb dX8_sickens_6 rfl (lv_at hl 1 rfl) ?_
  refine wk_read (va_runV (As := [.int o]) (rest := []) ⟨hx, hb, hml, hown, hts⟩ (c_X8_isOfficer l G a c hc o) (cwV 1 hts gX8_sickens_X8_isOfficer rfl rfl rfl hdV_X8_isOfficer ⟨Nat.le_of_ble_eq_true rfl, Nat.le_of_ble_eq_true rfl⟩) (PreW.pre (G := G) (W0 := WM G a c) ⟨hP, hK, hN⟩ (ci := 8) (q0 := 0) rfl rfl) rfl rfl hl.1 rfl (lv_room (Nat.le_of_ble_eq_true rfl)) dX8_sickens_7 ⟨hrc, hrs⟩) ?_
  refine lv_if_eq (tgt := 22) hx hb dX8_sickens_10 (by decide) (fun c10 => ?_) (fun c10 => ?_)
  · have c10 := b2i_f c10
    refine lv_iconst (v := -1) hx hb dX8_sickens_22 (by decide) ?_
    have hq : ySickens c o u = ((-1), c) := by (simp only [ySickens, wS_mk, note_S, note_N, note_So, note_Vo, note_Bi, c10, if_true, if_false, reduceIte, not_true_eq_false, not_false_eq_true, Bool.and_true, Bool.true_and, Bool.and_self, Bool.and_false, Bool.false_and, Bool.false_eq_true]) <;> rfl
    exact wk_mret' hx hb hr hlocks dX8_sickens_23 hP hS (congrArg (fun z => some (Value.int z.1)) hq) (congrArg (fun z => WM G a z.2) hq)
  · have c10 := b2i_t c10
    refine lv_iload_n hx hb dX8_sickens_13 rfl (lv_at hl 2 rfl) ?_
    refine lv_iconst (v := 0) hx hb dX8_sickens_14 (by decide) ?_
    refine lv_iconst (v := 1) hx hb dX8_sickens_15 (by decide) ?_
    refine wk_read (va_runS (As := [.int u, .int 0, .int 1]) (rest := []) ⟨hx, hb, hml, hown, hts⟩ (c_X8_in l u 0 1) (va_cwS 3 hts gX8_sickens_X8_in rfl rfl rfl hdS_X8_in ⟨Nat.le_of_ble_eq_true rfl, Nat.le_of_ble_eq_true rfl⟩) preEq rfl rfl hl.1 rfl (lv_room (Nat.le_of_ble_eq_true rfl)) dX8_sickens_16 ⟨hrc, hrs⟩) ?_
    refine lv_if_ne (tgt := 24) hx hb dX8_sickens_19 (by decide) (fun c19 => ?_) (fun c19 => ?_)
    · have c19 := b2i_t c19
      refine lv_aload_n hx hb dX8_sickens_24 rfl (lv_at hl 0 rfl) ?_
      refine wk_callA (va_runV (As := []) (rest := []) ⟨hx, hb, hml, hown, hts⟩ (c_X8_notes l G a c hc H.size) (cwV 0 hts gX8_sickens_X8_notes rfl rfl rfl hdV_X8_notes ⟨Nat.le_of_ble_eq_true rfl, Nat.le_of_ble_eq_true rfl⟩) ((PreM.mk hP hK hN hD).pre (ci := 8) (q0 := 0) rfl (WM_0 G a c)) rfl rfl hl.1 rfl (lv_room (Nat.le_of_ble_eq_true rfl)) dX8_sickens_25 ⟨hrc, hrs⟩) hD hS hA WM_fst (fun H locs hP hD hS => ?_)
      refine W.eq (g2 := F0 m 28 ls []) rfl ?_
      refine lv_aload_n hx hb dX8_sickens_28 rfl (lv_at hl 0 rfl) ?_
      refine va_get (D := G.1) (v := .ref (a 5)) hx hb hts hin8 hown hK hP 0 (WM_0 G a (yNote c)) rfl 15 (by decide) hf28 (fun _ h => h) rfl dX8_sickens_29 ?_
      refine lv_bipush (v := 16) hx hb dX8_sickens_32 (by decide) ?_
      refine wk_iald (i := 16) hx hb hK hP 5 1 (WM_5 G a (yNote c)) rfl (by omega) (Nat.le_of_ble_eq_true rfl) dX8_sickens_34 ?_
      refine lv_iload_n hx hb dX8_sickens_35 rfl (lv_at hl 1 rfl) ?_
      refine lv_ishr hx hb dX8_sickens_36 ?_
      refine lv_iconst (v := 1) hx hb dX8_sickens_37 (by decide) ?_
      refine lv_iand hx hb dX8_sickens_38 ?_
      show W _ _ _ _ _ _ _ _ _ _ _ _ _ _ _ (F0 _ _ _ (.int (bitI (qS (yNote c) 16) o) :: _))
      refine lv_istore_n (lv' := [(3, .int (bitI (qS (yNote c) 16) o)), (0, .ref (a 0)), (1, .int o), (2, .int u)]) hx hb dX8_sickens_39 rfl hl (by decide) rfl (fun ls hl => ?_)
      refine lv_aload_n hx hb dX8_sickens_40 rfl (lv_at hl 1 rfl) ?_
      refine va_get (D := G.1) (v := .ref (a 5)) hx hb hts hin8 hown hK hP 0 (WM_0 G a (yNote c)) rfl 15 (by decide) hf28 (fun _ h => h) rfl dX8_sickens_41 ?_
      refine lv_bipush (v := 16) hx hb dX8_sickens_44 (by decide) ?_
      refine lv_aload_n hx hb dX8_sickens_46 rfl (lv_at hl 1 rfl) ?_
      refine va_get (D := G.1) (v := .ref (a 5)) hx hb hts hin8 hown hK hP 0 (WM_0 G a (yNote c)) rfl 15 (by decide) hf28 (fun _ h => h) rfl dX8_sickens_47 ?_
      refine lv_bipush (v := 16) hx hb dX8_sickens_50 (by decide) ?_
      refine wk_iald (i := 16) hx hb hK hP 5 1 (WM_5 G a (yNote c)) rfl (by omega) (Nat.le_of_ble_eq_true rfl) dX8_sickens_52 ?_
      refine lv_iconst (v := 1) hx hb dX8_sickens_53 (by decide) ?_
      refine lv_iload_n hx hb dX8_sickens_54 rfl (lv_at hl 2 rfl) ?_
      refine lv_ishl hx hb dX8_sickens_55 ?_
      show W _ _ _ _ _ _ _ _ _ _ _ _ _ _ _ (F0 _ _ _ (.int (sh1 o) :: _))
      refine lv_iconst (v := -1) hx hb dX8_sickens_56 (by decide) ?_
      refine lv_ixor hx hb dX8_sickens_57 ?_
      show W _ _ _ _ _ _ _ _ _ _ _ _ _ _ _ (F0 _ _ _ (.int (iv (sh1 o)) :: _))
      refine lv_iand hx hb dX8_sickens_58 ?_
      refine lv_iload_n hx hb dX8_sickens_59 rfl (lv_at hl 3 rfl) ?_
      refine lv_iload_n hx hb dX8_sickens_60 rfl (lv_at hl 2 rfl) ?_
      refine lv_ishl hx hb dX8_sickens_61 ?_
      refine lv_ior hx hb dX8_sickens_62 ?_
      refine wk_iast (i := 16) hx hb hK hP hD hS 5 1 (WM_5 G a (yNote c)) rfl (by omega) (Nat.le_of_ble_eq_true rfl) dX8_sickens_63 (fun H locs hP hD hS => ?_)
      rw [WMc_p5] at hP hD
      replace hP : va_P G.1 vwCl (WM G a (mkJ (qTr (yNote c)) (qTx (yNote c)) (qTy (yNote c)) (qNe (yNote c)) (qTo (yNote c)) (qPl (yNote c)) (qVa (yNote c)) (qFa (yNote c)) (qN (yNote c)) (qSo (yNote c)) (qVo (yNote c)) (qBi (yNote c)) (qHo (yNote c)) (qTd (yNote c)) (upd (qS (yNote c)) 16 (((qS (yNote c) 16) &&& (iv (sh1 o))) ||| (u <<< (o &&& 31)))) (qW (yNote c)) (qKe (yNote c)) (qIk (yNote c)) (qUn (yNote c)) (qUm (yNote c)) (qRb (yNote c)) (qRi (yNote c)) (qRm (yNote c)))) H := hP
      replace hD : va_D A (WM G a (mkJ (qTr (yNote c)) (qTx (yNote c)) (qTy (yNote c)) (qNe (yNote c)) (qTo (yNote c)) (qPl (yNote c)) (qVa (yNote c)) (qFa (yNote c)) (qN (yNote c)) (qSo (yNote c)) (qVo (yNote c)) (qBi (yNote c)) (qHo (yNote c)) (qTd (yNote c)) (upd (qS (yNote c)) 16 (((qS (yNote c) 16) &&& (iv (sh1 o))) ||| (u <<< (o &&& 31)))) (qW (yNote c)) (qKe (yNote c)) (qIk (yNote c)) (qUn (yNote c)) (qUm (yNote c)) (qRb (yNote c)) (qRi (yNote c)) (qRm (yNote c)))) := hD
      refine lv_iload_n hx hb dX8_sickens_64 rfl (lv_at hl 0 rfl) ?_
      have hq : ySickens c o u = ((bitI (qS (yNote c) 16) o), mkJ (qTr (yNote c)) (qTx (yNote c)) (qTy (yNote c)) (qNe (yNote c)) (qTo (yNote c)) (qPl (yNote c)) (qVa (yNote c)) (qFa (yNote c)) (qN (yNote c)) (qSo (yNote c)) (qVo (yNote c)) (qBi (yNote c)) (qHo (yNote c)) (qTd (yNote c)) (upd (qS (yNote c)) 16 (((qS (yNote c) 16) &&& (iv (sh1 o))) ||| (u <<< (o &&& 31)))) (qW (yNote c)) (qKe (yNote c)) (qIk (yNote c)) (qUn (yNote c)) (qUm (yNote c)) (qRb (yNote c)) (qRi (yNote c)) (qRm (yNote c))) := by (simp only [ySickens, wS_mk, note_S, note_N, note_So, note_Vo, note_Bi, c10, c19, if_true, if_false, reduceIte, not_true_eq_false, not_false_eq_true, Bool.and_true, Bool.true_and, Bool.and_self, Bool.and_false, Bool.false_and, Bool.false_eq_true]) <;> rfl
      exact wk_mret' hx hb hr hlocks dX8_sickens_65 hP hS (congrArg (fun z => some (Value.int z.1)) hq) (congrArg (fun z => WM G a z.2) hq)
    · have c19 := b2i_f c19
      refine lv_iconst (v := -1) hx hb dX8_sickens_22 (by decide) ?_
      have hq : ySickens c o u = ((-1), c) := by (simp only [ySickens, wS_mk, note_S, note_N, note_So, note_Vo, note_Bi, c10, c19, if_true, if_false, reduceIte, not_true_eq_false, not_false_eq_true, Bool.and_true, Bool.true_and, Bool.and_self, Bool.and_false, Bool.false_and, Bool.false_eq_true]) <;> rfl
      exact wk_mret' hx hb hr hlocks dX8_sickens_23 hP hS (congrArg (fun z => some (Value.int z.1)) hq) (congrArg (fun z => WM G a z.2) hq)

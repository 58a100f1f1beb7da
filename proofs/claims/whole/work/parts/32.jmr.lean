theorem hdV_X8_letterAt : yX8_letterAt.cls = RX8 ∧ yX8_letterAt.cls ≠ "java/lang/invoke/MethodHandle" ∧ yX8_letterAt.cls ≠ "java/lang/invoke/VarHandle" ∧ (parseMethodDescriptor yX8_letterAt.desc).map (fun d => d.parameters.length) = some 1 := by decide +kernel
set_option maxHeartbeats 600000 in
set_option maxRecDepth 100000 in
theorem c_X8_letterAt (l : Launch) (G : GG) (a : Nat → Nat) (c : JX) (hc : OkJ c) (k : Nat) (hk9 : k < 2 ^ 31) : Met l yX8_letterAt wsX8_letterAt ({ frames := 0, cells := 0, slots := 0, locals := 0 }) (va_Pc [.ref (a 0), .int (nI k)] (fun U => PreW G (WM G a c) U U.heap)) (QcRead (jLet (qTx c) (qTy c) k)) 0 0 (fun _ => False) := by
  refine Met.ofW (cc := cX8_letterAt) (maxL := 2) (ret := (some .int)) (by decide) rfl ?_
  intro p e s m args below meth cd s₁ BB hml hv
  obtain ⟨rfl, hR⟩ := hv
  have hx := BB.exec
  have hb := BB.bytes
  have hr := BB.returns
  have hts := atoms_spec (ws := wsX8_letterAt) BB.pre
  have hown : s.vm.findClass RX8 = some m.cls := findClass_of_methodNamed BB.named
  have hlocks := BB.notSynchronized
  have hrc : 0 + 0 ≤ (headSpec wsX8_letterAt ({ frames := 0, cells := 0, slots := 0, locals := 0 })).room.cells := Nat.le_refl _
  have hrs : 0 + 0 ≤ (headSpec wsX8_letterAt ({ frames := 0, cells := 0, slots := 0, locals := 0 })).room.slots := Nat.le_refl _
  have hP := hR.1
  have hK := hR.2.1
  have hN := hR.2.2
  obtain ⟨hk7, ho1, ho5, hl200, hr6, hu10⟩ := id hc
  have hin8 : ∀ w ∈ u_ws RX8 TX8 24, w ∈ wsX8_letterAt := by decide +kernel
  have hf7 := hts (.fieldLink RX8 7 "RegaliaVotesModel" "text" "[I") (by decide +kernel)
  have hf58 := hts (.fieldLink RX8 58 "RegaliaVotesModel" "typed" "I") (by decide +kernel)
  refine wk_enter (n := 2) (Nat.le_of_ble_eq_true rfl) (fun ls hl => ?_)
  have hl : lv_has ls 2 [(0, .ref (a 0)), (1, .int (nI k))] := hl
  refine lv_iload_n hx hb dX8_letterAt_0 rfl (lv_at hl 1 rfl) ?_
  refine lv_aload_n hx hb dX8_letterAt_1 rfl (lv_at hl 0 rfl) ?_
  refine va_get (D := G.1) (v := .int (nI (qTy c))) hx hb hts hin8 hown hK hP 0 rfl rfl 3 (by decide) hf58 (fun _ h => h) rfl dX8_letterAt_2 ?_
  refine wk_ge (x := k) (y := (qTy c)) (tgt := 17) hx hb (by omega) (by omega) dX8_letterAt_5 (by decide) (fun c5 => ?_) (fun c5 => ?_)
  · refine lv_iconst (v := -1) hx hb dX8_letterAt_17 (by decide) ?_
    exact wk_ret hx hb hr hlocks dX8_letterAt_18 (by rw [jLet, if_neg (by omega)])
  · refine lv_aload_n hx hb dX8_letterAt_8 rfl (lv_at hl 0 rfl) ?_
    refine va_get (D := G.1) (v := .ref (a 9)) hx hb hts hin8 hown hK hP 0 rfl rfl 2 (by decide) hf7 (fun _ h => h) rfl dX8_letterAt_9 ?_
    refine lv_iload_n hx hb dX8_letterAt_12 rfl (lv_at hl 1 rfl) ?_
    refine wk_iald (i := k) hx hb hK hP 9 1 rfl rfl (by omega) (Nat.le_of_ble_eq_true rfl) dX8_letterAt_13 ?_
    refine lv_goto (tgt := 18) hx hb dX8_letterAt_14 (by decide) ?_
    exact wk_ret hx hb hr hlocks dX8_letterAt_18 (by rw [jLet, if_pos (by omega)])
theorem hdV_X8_isWell : yX8_isWell.cls = RX8 ∧ yX8_isWell.cls ≠ "java/lang/invoke/MethodHandle" ∧ yX8_isWell.cls ≠ "java/lang/invoke/VarHandle" ∧ (parseMethodDescriptor yX8_isWell.desc).map (fun d => d.parameters.length) = some 0 := by decide +kernel
set_option maxHeartbeats 600000 in
set_option maxRecDepth 100000 in
theorem c_X8_isWell (l : Launch) (G : GG) (a : Nat → Nat) (c : JX) (hc : OkJ c) : Met l yX8_isWell wsX8_isWell ({ frames := 0, cells := 0, slots := 0, locals := 0 }) (va_Pc [.ref (a 0)] (fun U => PreW G (WM G a c) U U.heap)) (QcRead (b2i (jWl (qFa c)))) 0 0 (fun _ => False) := by
  refine Met.ofW (cc := cX8_isWell) (maxL := 1) (ret := (some .boolean)) (by decide) rfl ?_
  intro p e s m args below meth cd s₁ BB hml hv
  obtain ⟨rfl, hR⟩ := hv
  have hx := BB.exec
  have hb := BB.bytes
  have hr := BB.returns
  have hts := atoms_spec (ws := wsX8_isWell) BB.pre
  have hown : s.vm.findClass RX8 = some m.cls := findClass_of_methodNamed BB.named
  have hlocks := BB.notSynchronized
  have hrc : 0 + 0 ≤ (headSpec wsX8_isWell ({ frames := 0, cells := 0, slots := 0, locals := 0 })).room.cells := Nat.le_refl _
  have hrs : 0 + 0 ≤ (headSpec wsX8_isWell ({ frames := 0, cells := 0, slots := 0, locals := 0 })).room.slots := Nat.le_refl _
  have hP := hR.1
  have hK := hR.2.1
  have hN := hR.2.2
  obtain ⟨hk7, ho1, ho5, hl200, hr6, hu10⟩ := id hc
  have hin8 : ∀ w ∈ u_ws RX8 TX8 24, w ∈ wsX8_isWell := by decide +kernel
  have hf77 := hts (.fieldLink RX8 77 "RegaliaVotesModel" "fault" "I") (by decide +kernel)
  refine wk_enter (n := 1) (Nat.le_of_ble_eq_true rfl) (fun ls hl => ?_)
  have hl : lv_has ls 1 [(0, .ref (a 0))] := hl
  refine lv_aload_n hx hb dX8_isWell_0 rfl (lv_at hl 0 rfl) ?_
  refine va_get (D := G.1) (v := .int (qFa c)) hx hb hts hin8 hown hK hP 0 rfl rfl 8 (by decide) hf77 (fun _ h => h) rfl dX8_isWell_1 ?_
  refine lv_if_ge (tgt := 11) hx hb dX8_isWell_4 (by decide) (fun c4 => ?_) (fun c4 => ?_)
  · refine lv_iconst (v := 0) hx hb dX8_isWell_11 (by decide) ?_
    exact wk_zret hx hb hr hlocks dX8_isWell_12 (by rfl) (by simp [b2i, jWl, c4])
  · refine lv_iconst (v := 1) hx hb dX8_isWell_7 (by decide) ?_
    refine lv_goto (tgt := 12) hx hb dX8_isWell_8 (by decide) ?_
    exact wk_zret hx hb hr hlocks dX8_isWell_12 (by rfl) (by simp [b2i, jWl, c4])
theorem hdV_X8_advances : yX8_advances.cls = RX8 ∧ yX8_advances.cls ≠ "java/lang/invoke/MethodHandle" ∧ yX8_advances.cls ≠ "java/lang/invoke/VarHandle" ∧ (parseMethodDescriptor yX8_advances.desc).map (fun d => d.parameters.length) = some 0 := by decide +kernel
set_option maxHeartbeats 600000 in
set_option maxRecDepth 100000 in
theorem c_X8_advances (l : Launch) (G : GG) (a : Nat → Nat) (c : JX) (hc : OkJ c) (hne : qNe c ≤ qTy c) (sz : Nat) : Met l yX8_advances wsX8_advances ({ frames := 1, cells := 0, slots := 0, locals := 22 }) (va_Pc [.ref (a 0)] (fun U => PreM G (WM G a c) sz U U.heap)) (Qm G.1 vwCl (none) (WM G a (wRJ c (jAdv (qTx c) (qTy c) (qNe c) (qVa c) (qFa c)))) (va_A (WM G a c) sz)) 0 0 (va_A (WM G a c) sz) := by
  refine Met.ofW (cc := cX8_advances) (maxL := 2) (ret := none) (by decide) rfl ?_
  intro p e s m args below meth cd s₁ BB hml hv
  obtain ⟨rfl, ⟨hP, hK, hN⟩, hD0, hsz⟩ := hv
  have hx := BB.exec
  have hb := BB.bytes
  have hr := BB.returns
  have hts := atoms_spec (ws := wsX8_advances) BB.pre
  have hown : s.vm.findClass RX8 = some m.cls := findClass_of_methodNamed BB.named
  have hlocks := BB.notSynchronized
  have hrc : 0 + 0 ≤ (headSpec wsX8_advances ({ frames := 1, cells := 0, slots := 0, locals := 22 })).room.cells := Nat.le_refl _
  have hrs : 0 + 0 ≤ (headSpec wsX8_advances ({ frames := 1, cells := 0, slots := 0, locals := 22 })).room.slots := Nat.le_refl _
  subst hsz
  have hD := hD0.self (sz := s.heap.size)
  generalize hAe : va_A (WM G a c) s.heap.size = A at hD ⊢
  have hA : ∀ q : Nat, s.heap.size ≤ q → A q := fun q h => by rw [← hAe]; exact Or.inr h
  have hS : va_S A s.heap s.heap [] := va_S.rf
  obtain ⟨hk7, ho1, ho5, hl200, hr6, hu10⟩ := id hc
  have hin8 : ∀ w ∈ u_ws RX8 TX8 24, w ∈ wsX8_advances := by decide +kernel
  have hf61 := hts (.fieldLink RX8 61 "RegaliaVotesModel" "next" "I") (by decide +kernel)
  have hf68 := hts (.fieldLink RX8 68 "RegaliaVotesModel" "place" "I") (by decide +kernel)
  have hf71 := hts (.fieldLink RX8 71 "RegaliaVotesModel" "token" "I") (by decide +kernel)
  have hf74 := hts (.fieldLink RX8 74 "RegaliaVotesModel" "value" "I") (by decide +kernel)
  refine wk_enter (n := 2) (Nat.le_of_ble_eq_true rfl) (fun ls hl => ?_)
  have hl : lv_has ls 2 [(0, .ref (a 0))] := hl
  have hP : va_P G.1 vwCl (WM G a (mkJ (qTr c) (qTx c) (qTy c) (qNe c) (qTo c) (qPl c) (qVa c) (qFa c) (qN c) (qSo c) (qVo c) (qBi c) (qHo c) (qTd c) (qS c) (qW c) (qKe c) (qIk c) (qUn c) (qUm c) (qRb c) (qRi c) (qRm c))) s.heap := by rw [mkJ_c]; exact hP
  have hD : va_D A (WM G a (mkJ (qTr c) (qTx c) (qTy c) (qNe c) (qTo c) (qPl c) (qVa c) (qFa c) (qN c) (qSo c) (qVo c) (qBi c) (qHo c) (qTd c) (qS c) (qW c) (qKe c) (qIk c) (qUn c) (qUm c) (qRb c) (qRi c) (qRm c))) := by rw [mkJ_c]; exact hD
  refine wk_loopM (σ := Nat) (nL := 2) (fun xσ n => match xσ with | i => i + n = qTy c ∧ skF (qTx c) (qTy c) n i = skB (qTx c) (qTy c) (qNe c)) (fun xσ => match xσ with | i => [(0, .ref (a 0))]) (fun xσ => match xσ with | i => WM G a (mkJ (qTr c) (qTx c) (qTy c) i (qTo c) (qPl c) (qVa c) (qFa c) (qN c) (qSo c) (qVo c) (qBi c) (qHo c) (qTd c) (qS c) (qW c) (qKe c) (qIk c) (qUn c) (qUm c) (qRb c) (qRi c) (qRm c))) (qNe c) (qTy c - qNe c) (⟨by omega, rfl⟩) hl hP hD hS ?_
  rintro n0 i ls H locs hI0 hl hP hD hS ih0
  have hl : lv_has ls 2 [(0, .ref (a 0))] := hl
  have hP : va_P G.1 vwCl (WM G a (mkJ (qTr c) (qTx c) (qTy c) i (qTo c) (qPl c) (qVa c) (qFa c) (qN c) (qSo c) (qVo c) (qBi c) (qHo c) (qTd c) (qS c) (qW c) (qKe c) (qIk c) (qUn c) (qUm c) (qRb c) (qRi c) (qRm c))) H := hP
  have hD : va_D A (WM G a (mkJ (qTr c) (qTx c) (qTy c) i (qTo c) (qPl c) (qVa c) (qFa c) (qN c) (qSo c) (qVo c) (qBi c) (qHo c) (qTd c) (qS c) (qW c) (qKe c) (qIk c) (qUn c) (qUm c) (qRb c) (qRi c) (qRm c))) := hD
  obtain ⟨hi, hs⟩ := hI0
  refine lv_aload_n hx hb dX8_advances_0 rfl (lv_at hl 0 rfl) ?_
  refine lv_aload_n hx hb dX8_advances_1 rfl (lv_at hl 0 rfl) ?_
  refine va_get (D := G.1) (v := .int (nI i)) hx hb hts hin8 hown hK hP 0 (WM_0 G a (mkJ (qTr c) (qTx c) (qTy c) i (qTo c) (qPl c) (qVa c) (qFa c) (qN c) (qSo c) (qVo c) (qBi c) (qHo c) (qTd c) (qS c) (qW c) (qKe c) (qIk c) (qUn c) (qUm c) (qRb c) (qRi c) (qRm c))) rfl 4 (by decide) hf61 (fun _ h => h) rfl dX8_advances_2 ?_
  refine wk_read (va_runV (As := [.int (nI i)]) (rest := []) ⟨hx, hb, hml, hown, hts⟩ (c_X8_letterAt l G a (mkJ (qTr c) (qTx c) (qTy c) i (qTo c) (qPl c) (qVa c) (qFa c) (qN c) (qSo c) (qVo c) (qBi c) (qHo c) (qTd c) (qS c) (qW c) (qKe c) (qIk c) (qUn c) (qUm c) (qRb c) (qRi c) (qRm c)) (okJ_mk (by omega) (by omega) (by omega) (by omega) (by omega) (by omega)) i (by omega)) (cwV 1 hts gX8_advances_X8_letterAt rfl rfl rfl hdV_X8_letterAt ⟨Nat.le_of_ble_eq_true rfl, Nat.le_of_ble_eq_true rfl⟩) (PreW.pre (G := G) (W0 := WM G a (mkJ (qTr c) (qTx c) (qTy c) i (qTo c) (qPl c) (qVa c) (qFa c) (qN c) (qSo c) (qVo c) (qBi c) (qHo c) (qTd c) (qS c) (qW c) (qKe c) (qIk c) (qUn c) (qUm c) (qRb c) (qRi c) (qRm c))) ⟨hP, hK, hN⟩ (ci := 8) (q0 := 0) rfl rfl) rfl rfl hl.1 rfl (lv_room (Nat.le_of_ble_eq_true rfl)) dX8_advances_5 ⟨hrc, hrs⟩) ?_
  refine W.eq (g2 := F0 m 8 ls [.int (jLet (qTx c) (qTy c) i)]) rfl ?_
  refine lv_bipush (v := 32) hx hb dX8_advances_8 (by decide) ?_
  refine lv_icmp_ne (tgt := 26) hx hb dX8_advances_10 (by decide) (fun c10 => ?_) (fun c10 => ?_)
  · have hsk : skB (qTx c) (qTy c) (qNe c) = i := by rw [← hs]; exact skF_n c10
    refine lv_aload_n hx hb dX8_advances_26 rfl (lv_at hl 0 rfl) ?_
    refine lv_aload_n hx hb dX8_advances_27 rfl (lv_at hl 0 rfl) ?_
    refine va_get (D := G.1) (v := .int (nI i)) hx hb hts hin8 hown hK hP 0 (WM_0 G a (mkJ (qTr c) (qTx c) (qTy c) i (qTo c) (qPl c) (qVa c) (qFa c) (qN c) (qSo c) (qVo c) (qBi c) (qHo c) (qTd c) (qS c) (qW c) (qKe c) (qIk c) (qUn c) (qUm c) (qRb c) (qRi c) (qRm c))) rfl 4 (by decide) hf61 (fun _ h => h) rfl dX8_advances_28 ?_
    refine va_put (D := G.1) (v := .int (nI i)) (ty := .int) hx hb hts hin8 tyX8 tyX8_ok nmX8 hown hK hP hD hS 0 (WM_0 G a (mkJ (qTr c) (qTx c) (qTy c) i (qTo c) (qPl c) (qVa c) (qFa c) (qN c) (qSo c) (qVo c) (qBi c) (qHo c) (qTd c) (qS c) (qW c) (qKe c) (qIk c) (qUn c) (qUm c) (qRb c) (qRi c) (qRm c))) rfl 6 (by decide) hf68 (fun _ h => h) rfl (by decide +kernel) rfl rfl (Nat.le_of_ble_eq_true rfl) dX8_advances_31 (fun H locs hP hD hS => ?_)
    rw [WMk_p0_6] at hP hD
    replace hP : va_P G.1 vwCl (WM G a (mkJ (qTr c) (qTx c) (qTy c) i (qTo c) i (qVa c) (qFa c) (qN c) (qSo c) (qVo c) (qBi c) (qHo c) (qTd c) (qS c) (qW c) (qKe c) (qIk c) (qUn c) (qUm c) (qRb c) (qRi c) (qRm c))) H := hP
    replace hD : va_D A (WM G a (mkJ (qTr c) (qTx c) (qTy c) i (qTo c) i (qVa c) (qFa c) (qN c) (qSo c) (qVo c) (qBi c) (qHo c) (qTd c) (qS c) (qW c) (qKe c) (qIk c) (qUn c) (qUm c) (qRb c) (qRi c) (qRm c))) := hD
    refine lv_aload_n hx hb dX8_advances_34 rfl (lv_at hl 0 rfl) ?_
    refine lv_aload_n hx hb dX8_advances_35 rfl (lv_at hl 0 rfl) ?_
    refine va_get (D := G.1) (v := .int (nI i)) hx hb hts hin8 hown hK hP 0 (WM_0 G a (mkJ (qTr c) (qTx c) (qTy c) i (qTo c) i (qVa c) (qFa c) (qN c) (qSo c) (qVo c) (qBi c) (qHo c) (qTd c) (qS c) (qW c) (qKe c) (qIk c) (qUn c) (qUm c) (qRb c) (qRi c) (qRm c))) rfl 4 (by decide) hf61 (fun _ h => h) rfl dX8_advances_36 ?_
    refine wk_read (va_runV (As := [.int (nI i)]) (rest := []) ⟨hx, hb, hml, hown, hts⟩ (c_X8_letterAt l G a (mkJ (qTr c) (qTx c) (qTy c) i (qTo c) i (qVa c) (qFa c) (qN c) (qSo c) (qVo c) (qBi c) (qHo c) (qTd c) (qS c) (qW c) (qKe c) (qIk c) (qUn c) (qUm c) (qRb c) (qRi c) (qRm c)) (okJ_mk (by omega) (by omega) (by omega) (by omega) (by omega) (by omega)) i (by omega)) (cwV 1 hts gX8_advances_X8_letterAt rfl rfl rfl hdV_X8_letterAt ⟨Nat.le_of_ble_eq_true rfl, Nat.le_of_ble_eq_true rfl⟩) (PreW.pre (G := G) (W0 := WM G a (mkJ (qTr c) (qTx c) (qTy c) i (qTo c) i (qVa c) (qFa c) (qN c) (qSo c) (qVo c) (qBi c) (qHo c) (qTd c) (qS c) (qW c) (qKe c) (qIk c) (qUn c) (qUm c) (qRb c) (qRi c) (qRm c))) ⟨hP, hK, hN⟩ (ci := 8) (q0 := 0) rfl rfl) rfl rfl hl.1 rfl (lv_room (Nat.le_of_ble_eq_true rfl)) dX8_advances_39 ⟨hrc, hrs⟩) ?_
    refine W.eq (g2 := F0 m 42 ls [.int (jLet (qTx c) (qTy c) i)]) rfl ?_
    refine lv_istore_n (lv' := [(1, .int (jLet (qTx c) (qTy c) i)), (0, .ref (a 0))]) hx hb dX8_advances_42 rfl hl (by decide) rfl (fun ls hl => ?_)
    refine lv_iload_n hx hb dX8_advances_43 rfl (lv_at hl 0 rfl) ?_
    refine lv_if_ge (tgt := 55) hx hb dX8_advances_44 (by decide) (fun c44 => ?_) (fun c44 => ?_)
    · generalize hx9 : jLet (qTx c) (qTy c) i = x9 at hl c44
      obtain ⟨j, hj, rfl⟩ := nI_of (Int32.not_lt.mpr c44)
      have hcl := nI_clamp hj
      refine lv_iload_n hx hb dX8_advances_55 rfl (lv_at hl 0 rfl) ?_
      refine lv_bipush (v := 48) hx hb dX8_advances_56 (by decide) ?_
      refine lv_bipush (v := 57) hx hb dX8_advances_58 (by decide) ?_
      refine wk_read (va_runS (As := [.int (nI j), .int 48, .int 57]) (rest := []) ⟨hx, hb, hml, hown, hts⟩ (c_X8_in l (nI j) 48 57) (va_cwS 3 hts gX8_advances_X8_in rfl rfl rfl hdS_X8_in ⟨Nat.le_of_ble_eq_true rfl, Nat.le_of_ble_eq_true rfl⟩) preEq rfl rfl hl.1 rfl (lv_room (Nat.le_of_ble_eq_true rfl)) dX8_advances_60 ⟨hrc, hrs⟩) ?_
      refine lv_if_eq (tgt := 181) hx hb dX8_advances_63 (by decide) (fun c63 => ?_) (fun c63 => ?_)
      · have c63 := b2i_f c63
        refine lv_aload_n hx hb dX8_advances_181 rfl (lv_at hl 1 rfl) ?_
        refine lv_dup hx hb dX8_advances_182 rfl ?_
        refine va_get (D := G.1) (v := .int (nI i)) hx hb hts hin8 hown hK hP 0 (WM_0 G a (mkJ (qTr c) (qTx c) (qTy c) i (qTo c) i (qVa c) (qFa c) (qN c) (qSo c) (qVo c) (qBi c) (qHo c) (qTd c) (qS c) (qW c) (qKe c) (qIk c) (qUn c) (qUm c) (qRb c) (qRi c) (qRm c))) rfl 4 (by decide) hf61 (fun _ h => h) rfl dX8_advances_183 ?_
        refine lv_iconst (v := 1) hx hb dX8_advances_186 (by decide) ?_
        refine wk_iadd (x := i) (y := 1) hx hb dX8_advances_187 ?_
        refine va_put (D := G.1) (v := .int (nI (i + 1))) (ty := .int) hx hb hts hin8 tyX8 tyX8_ok nmX8 hown hK hP hD hS 0 (WM_0 G a (mkJ (qTr c) (qTx c) (qTy c) i (qTo c) i (qVa c) (qFa c) (qN c) (qSo c) (qVo c) (qBi c) (qHo c) (qTd c) (qS c) (qW c) (qKe c) (qIk c) (qUn c) (qUm c) (qRb c) (qRi c) (qRm c))) rfl 4 (by decide) hf61 (fun _ h => h) rfl (by decide +kernel) rfl rfl (Nat.le_of_ble_eq_true rfl) dX8_advances_188 (fun H locs hP hD hS => ?_)
        rw [WMk_p0_4] at hP hD
        replace hP : va_P G.1 vwCl (WM G a (mkJ (qTr c) (qTx c) (qTy c) (i + 1) (qTo c) i (qVa c) (qFa c) (qN c) (qSo c) (qVo c) (qBi c) (qHo c) (qTd c) (qS c) (qW c) (qKe c) (qIk c) (qUn c) (qUm c) (qRb c) (qRi c) (qRm c))) H := hP
        replace hD : va_D A (WM G a (mkJ (qTr c) (qTx c) (qTy c) (i + 1) (qTo c) i (qVa c) (qFa c) (qN c) (qSo c) (qVo c) (qBi c) (qHo c) (qTd c) (qS c) (qW c) (qKe c) (qIk c) (qUn c) (qUm c) (qRb c) (qRi c) (qRm c))) := hD
        refine lv_aload_n hx hb dX8_advances_191 rfl (lv_at hl 1 rfl) ?_
        refine lv_iload_n hx hb dX8_advances_192 rfl (lv_at hl 0 rfl) ?_
        refine va_put (D := G.1) (v := .int (nI j)) (ty := .int) hx hb hts hin8 tyX8 tyX8_ok nmX8 hown hK hP hD hS 0 (WM_0 G a (mkJ (qTr c) (qTx c) (qTy c) (i + 1) (qTo c) i (qVa c) (qFa c) (qN c) (qSo c) (qVo c) (qBi c) (qHo c) (qTd c) (qS c) (qW c) (qKe c) (qIk c) (qUn c) (qUm c) (qRb c) (qRi c) (qRm c))) rfl 7 (by decide) hf74 (fun _ h => h) rfl (by decide +kernel) rfl rfl (Nat.le_of_ble_eq_true rfl) dX8_advances_193 (fun H locs hP hD hS => ?_)
        rw [WMk_p0_7] at hP hD
        replace hP : va_P G.1 vwCl (WM G a (mkJ (qTr c) (qTx c) (qTy c) (i + 1) (qTo c) i j (qFa c) (qN c) (qSo c) (qVo c) (qBi c) (qHo c) (qTd c) (qS c) (qW c) (qKe c) (qIk c) (qUn c) (qUm c) (qRb c) (qRi c) (qRm c))) H := hP
        replace hD : va_D A (WM G a (mkJ (qTr c) (qTx c) (qTy c) (i + 1) (qTo c) i j (qFa c) (qN c) (qSo c) (qVo c) (qBi c) (qHo c) (qTd c) (qS c) (qW c) (qKe c) (qIk c) (qUn c) (qUm c) (qRb c) (qRi c) (qRm c))) := hD
        refine lv_aload_n hx hb dX8_advances_196 rfl (lv_at hl 1 rfl) ?_
        refine lv_iload_n hx hb dX8_advances_197 rfl (lv_at hl 0 rfl) ?_
        refine lv_bipush (v := 59) hx hb dX8_advances_198 (by decide) ?_
        refine wk_ne (x := j) (y := 59) (tgt := 207) hx hb (by omega) (by omega) dX8_advances_200 (by decide) (fun c200 => ?_) (fun c200 => ?_)
        · refine lv_iload_n hx hb dX8_advances_207 rfl (lv_at hl 0 rfl) ?_
          refine lv_bipush (v := 111) hx hb dX8_advances_208 (by decide) ?_
          refine wk_eq (x := j) (y := 111) (tgt := 225) hx hb (by omega) (by omega) dX8_advances_210 (by decide) (fun c210 => ?_) (fun c210 => ?_)
          · refine lv_iconst (v := 1) hx hb dX8_advances_225 (by decide) ?_
            refine lv_goto (tgt := 230) hx hb dX8_advances_226 (by decide) ?_
            refine va_put (D := G.1) (v := .int 1) (ty := .int) hx hb hts hin8 tyX8 tyX8_ok nmX8 hown hK hP hD hS 0 (WM_0 G a (mkJ (qTr c) (qTx c) (qTy c) (i + 1) (qTo c) i j (qFa c) (qN c) (qSo c) (qVo c) (qBi c) (qHo c) (qTd c) (qS c) (qW c) (qKe c) (qIk c) (qUn c) (qUm c) (qRb c) (qRi c) (qRm c))) rfl 5 (by decide) hf71 (fun _ h => h) rfl (by decide +kernel) rfl rfl (Nat.le_of_ble_eq_true rfl) dX8_advances_230 (fun H locs hP hD hS => ?_)
            rw [WMk_p0_5] at hP hD
            replace hP : va_P G.1 vwCl (WM G a (mkJ (qTr c) (qTx c) (qTy c) (i + 1) 1 i j (qFa c) (qN c) (qSo c) (qVo c) (qBi c) (qHo c) (qTd c) (qS c) (qW c) (qKe c) (qIk c) (qUn c) (qUm c) (qRb c) (qRi c) (qRm c))) H := hP
            replace hD : va_D A (WM G a (mkJ (qTr c) (qTx c) (qTy c) (i + 1) 1 i j (qFa c) (qN c) (qSo c) (qVo c) (qBi c) (qHo c) (qTd c) (qS c) (qW c) (qKe c) (qIk c) (qUn c) (qUm c) (qRb c) (qRi c) (qRm c))) := hD
            exact wk_mvret' hx hb hr hlocks dX8_advances_233 hP hS (congrArg (WM G a) (show wRJ c (jAdv (qTx c) (qTy c) (qNe c) (qVa c) (qFa c)) = mkJ (qTr c) (qTx c) (qTy c) (i + 1) 1 i j (qFa c) (qN c) (qSo c) (qVo c) (qBi c) (qHo c) (qTd c) (qS c) (qW c) (qKe c) (qIk c) (qUn c) (qUm c) (qRb c) (qRi c) (qRm c) from by rw [show jAdv (qTx c) (qTy c) (qNe c) (qVa c) (qFa c) = ((i + 1), 1, i, j, qFa c) from by rw [jAdv, hsk, jAdP, hx9, hcl, if_pos c44, if_neg (by rw [c63]; decide), show jKi j = 1 from by rw [jKi, if_neg (by omega), if_pos (by omega)]]]; rfl))
          · refine lv_iload_n hx hb dX8_advances_213 rfl (lv_at hl 0 rfl) ?_
            refine lv_bipush (v := 116) hx hb dX8_advances_214 (by decide) ?_
            refine wk_eq (x := j) (y := 116) (tgt := 225) hx hb (by omega) (by omega) dX8_advances_216 (by decide) (fun c216 => ?_) (fun c216 => ?_)
            · refine lv_iconst (v := 1) hx hb dX8_advances_225 (by decide) ?_
              refine lv_goto (tgt := 230) hx hb dX8_advances_226 (by decide) ?_
              refine va_put (D := G.1) (v := .int 1) (ty := .int) hx hb hts hin8 tyX8 tyX8_ok nmX8 hown hK hP hD hS 0 (WM_0 G a (mkJ (qTr c) (qTx c) (qTy c) (i + 1) (qTo c) i j (qFa c) (qN c) (qSo c) (qVo c) (qBi c) (qHo c) (qTd c) (qS c) (qW c) (qKe c) (qIk c) (qUn c) (qUm c) (qRb c) (qRi c) (qRm c))) rfl 5 (by decide) hf71 (fun _ h => h) rfl (by decide +kernel) rfl rfl (Nat.le_of_ble_eq_true rfl) dX8_advances_230 (fun H locs hP hD hS => ?_)
              rw [WMk_p0_5] at hP hD
              replace hP : va_P G.1 vwCl (WM G a (mkJ (qTr c) (qTx c) (qTy c) (i + 1) 1 i j (qFa c) (qN c) (qSo c) (qVo c) (qBi c) (qHo c) (qTd c) (qS c) (qW c) (qKe c) (qIk c) (qUn c) (qUm c) (qRb c) (qRi c) (qRm c))) H := hP
              replace hD : va_D A (WM G a (mkJ (qTr c) (qTx c) (qTy c) (i + 1) 1 i j (qFa c) (qN c) (qSo c) (qVo c) (qBi c) (qHo c) (qTd c) (qS c) (qW c) (qKe c) (qIk c) (qUn c) (qUm c) (qRb c) (qRi c) (qRm c))) := hD
              exact wk_mvret' hx hb hr hlocks dX8_advances_233 hP hS (congrArg (WM G a) (show wRJ c (jAdv (qTx c) (qTy c) (qNe c) (qVa c) (qFa c)) = mkJ (qTr c) (qTx c) (qTy c) (i + 1) 1 i j (qFa c) (qN c) (qSo c) (qVo c) (qBi c) (qHo c) (qTd c) (qS c) (qW c) (qKe c) (qIk c) (qUn c) (qUm c) (qRb c) (qRi c) (qRm c) from by rw [show jAdv (qTx c) (qTy c) (qNe c) (qVa c) (qFa c) = ((i + 1), 1, i, j, qFa c) from by rw [jAdv, hsk, jAdP, hx9, hcl, if_pos c44, if_neg (by rw [c63]; decide), show jKi j = 1 from by rw [jKi, if_neg (by omega), if_pos (by omega)]]]; rfl))
            · refine lv_iload_n hx hb dX8_advances_219 rfl (lv_at hl 0 rfl) ?_
              refine lv_bipush (v := 119) hx hb dX8_advances_220 (by decide) ?_
              refine wk_ne (x := j) (y := 119) (tgt := 229) hx hb (by omega) (by omega) dX8_advances_222 (by decide) (fun c222 => ?_) (fun c222 => ?_)
              · refine lv_iconst (v := 4) hx hb dX8_advances_229 (by decide) ?_
                refine va_put (D := G.1) (v := .int 4) (ty := .int) hx hb hts hin8 tyX8 tyX8_ok nmX8 hown hK hP hD hS 0 (WM_0 G a (mkJ (qTr c) (qTx c) (qTy c) (i + 1) (qTo c) i j (qFa c) (qN c) (qSo c) (qVo c) (qBi c) (qHo c) (qTd c) (qS c) (qW c) (qKe c) (qIk c) (qUn c) (qUm c) (qRb c) (qRi c) (qRm c))) rfl 5 (by decide) hf71 (fun _ h => h) rfl (by decide +kernel) rfl rfl (Nat.le_of_ble_eq_true rfl) dX8_advances_230 (fun H locs hP hD hS => ?_)
                rw [WMk_p0_5] at hP hD
                replace hP : va_P G.1 vwCl (WM G a (mkJ (qTr c) (qTx c) (qTy c) (i + 1) 4 i j (qFa c) (qN c) (qSo c) (qVo c) (qBi c) (qHo c) (qTd c) (qS c) (qW c) (qKe c) (qIk c) (qUn c) (qUm c) (qRb c) (qRi c) (qRm c))) H := hP
                replace hD : va_D A (WM G a (mkJ (qTr c) (qTx c) (qTy c) (i + 1) 4 i j (qFa c) (qN c) (qSo c) (qVo c) (qBi c) (qHo c) (qTd c) (qS c) (qW c) (qKe c) (qIk c) (qUn c) (qUm c) (qRb c) (qRi c) (qRm c))) := hD
                exact wk_mvret' hx hb hr hlocks dX8_advances_233 hP hS (congrArg (WM G a) (show wRJ c (jAdv (qTx c) (qTy c) (qNe c) (qVa c) (qFa c)) = mkJ (qTr c) (qTx c) (qTy c) (i + 1) 4 i j (qFa c) (qN c) (qSo c) (qVo c) (qBi c) (qHo c) (qTd c) (qS c) (qW c) (qKe c) (qIk c) (qUn c) (qUm c) (qRb c) (qRi c) (qRm c) from by rw [show jAdv (qTx c) (qTy c) (qNe c) (qVa c) (qFa c) = ((i + 1), 4, i, j, qFa c) from by rw [jAdv, hsk, jAdP, hx9, hcl, if_pos c44, if_neg (by rw [c63]; decide), show jKi j = 4 from by rw [jKi, if_neg (by omega), if_neg (by omega)]]]; rfl))
              · refine lv_iconst (v := 1) hx hb dX8_advances_225 (by decide) ?_
                refine lv_goto (tgt := 230) hx hb dX8_advances_226 (by decide) ?_
                refine va_put (D := G.1) (v := .int 1) (ty := .int) hx hb hts hin8 tyX8 tyX8_ok nmX8 hown hK hP hD hS 0 (WM_0 G a (mkJ (qTr c) (qTx c) (qTy c) (i + 1) (qTo c) i j (qFa c) (qN c) (qSo c) (qVo c) (qBi c) (qHo c) (qTd c) (qS c) (qW c) (qKe c) (qIk c) (qUn c) (qUm c) (qRb c) (qRi c) (qRm c))) rfl 5 (by decide) hf71 (fun _ h => h) rfl (by decide +kernel) rfl rfl (Nat.le_of_ble_eq_true rfl) dX8_advances_230 (fun H locs hP hD hS => ?_)
                rw [WMk_p0_5] at hP hD
                replace hP : va_P G.1 vwCl (WM G a (mkJ (qTr c) (qTx c) (qTy c) (i + 1) 1 i j (qFa c) (qN c) (qSo c) (qVo c) (qBi c) (qHo c) (qTd c) (qS c) (qW c) (qKe c) (qIk c) (qUn c) (qUm c) (qRb c) (qRi c) (qRm c))) H := hP
                replace hD : va_D A (WM G a (mkJ (qTr c) (qTx c) (qTy c) (i + 1) 1 i j (qFa c) (qN c) (qSo c) (qVo c) (qBi c) (qHo c) (qTd c) (qS c) (qW c) (qKe c) (qIk c) (qUn c) (qUm c) (qRb c) (qRi c) (qRm c))) := hD
                exact wk_mvret' hx hb hr hlocks dX8_advances_233 hP hS (congrArg (WM G a) (show wRJ c (jAdv (qTx c) (qTy c) (qNe c) (qVa c) (qFa c)) = mkJ (qTr c) (qTx c) (qTy c) (i + 1) 1 i j (qFa c) (qN c) (qSo c) (qVo c) (qBi c) (qHo c) (qTd c) (qS c) (qW c) (qKe c) (qIk c) (qUn c) (qUm c) (qRb c) (qRi c) (qRm c) from by rw [show jAdv (qTx c) (qTy c) (qNe c) (qVa c) (qFa c) = ((i + 1), 1, i, j, qFa c) from by rw [jAdv, hsk, jAdP, hx9, hcl, if_pos c44, if_neg (by rw [c63]; decide), show jKi j = 1 from by rw [jKi, if_neg (by omega), if_pos (by omega)]]]; rfl))
        · refine lv_iconst (v := 3) hx hb dX8_advances_203 (by decide) ?_
          refine lv_goto (tgt := 230) hx hb dX8_advances_204 (by decide) ?_
          refine va_put (D := G.1) (v := .int 3) (ty := .int) hx hb hts hin8 tyX8 tyX8_ok nmX8 hown hK hP hD hS 0 (WM_0 G a (mkJ (qTr c) (qTx c) (qTy c) (i + 1) (qTo c) i j (qFa c) (qN c) (qSo c) (qVo c) (qBi c) (qHo c) (qTd c) (qS c) (qW c) (qKe c) (qIk c) (qUn c) (qUm c) (qRb c) (qRi c) (qRm c))) rfl 5 (by decide) hf71 (fun _ h => h) rfl (by decide +kernel) rfl rfl (Nat.le_of_ble_eq_true rfl) dX8_advances_230 (fun H locs hP hD hS => ?_)
          rw [WMk_p0_5] at hP hD
          replace hP : va_P G.1 vwCl (WM G a (mkJ (qTr c) (qTx c) (qTy c) (i + 1) 3 i j (qFa c) (qN c) (qSo c) (qVo c) (qBi c) (qHo c) (qTd c) (qS c) (qW c) (qKe c) (qIk c) (qUn c) (qUm c) (qRb c) (qRi c) (qRm c))) H := hP
          replace hD : va_D A (WM G a (mkJ (qTr c) (qTx c) (qTy c) (i + 1) 3 i j (qFa c) (qN c) (qSo c) (qVo c) (qBi c) (qHo c) (qTd c) (qS c) (qW c) (qKe c) (qIk c) (qUn c) (qUm c) (qRb c) (qRi c) (qRm c))) := hD
          exact wk_mvret' hx hb hr hlocks dX8_advances_233 hP hS (congrArg (WM G a) (show wRJ c (jAdv (qTx c) (qTy c) (qNe c) (qVa c) (qFa c)) = mkJ (qTr c) (qTx c) (qTy c) (i + 1) 3 i j (qFa c) (qN c) (qSo c) (qVo c) (qBi c) (qHo c) (qTd c) (qS c) (qW c) (qKe c) (qIk c) (qUn c) (qUm c) (qRb c) (qRi c) (qRm c) from by rw [show jAdv (qTx c) (qTy c) (qNe c) (qVa c) (qFa c) = ((i + 1), 3, i, j, qFa c) from by rw [jAdv, hsk, jAdP, hx9, hcl, if_pos c44, if_neg (by rw [c63]; decide), show jKi j = 3 from by rw [jKi, if_pos c200]]]; rfl))
      · have c63 := b2i_t c63
        refine lv_aload_n hx hb dX8_advances_66 rfl (lv_at hl 1 rfl) ?_
        refine lv_iconst (v := 0) hx hb dX8_advances_67 (by decide) ?_
        refine va_put (D := G.1) (v := .int (nI 0)) (ty := .int) hx hb hts hin8 tyX8 tyX8_ok nmX8 hown hK hP hD hS 0 (WM_0 G a (mkJ (qTr c) (qTx c) (qTy c) i (qTo c) i (qVa c) (qFa c) (qN c) (qSo c) (qVo c) (qBi c) (qHo c) (qTd c) (qS c) (qW c) (qKe c) (qIk c) (qUn c) (qUm c) (qRb c) (qRi c) (qRm c))) rfl 7 (by decide) hf74 (fun _ h => h) rfl (by decide +kernel) rfl rfl (Nat.le_of_ble_eq_true rfl) dX8_advances_68 (fun H locs hP hD hS => ?_)
        rw [WMk_p0_7] at hP hD
        replace hP : va_P G.1 vwCl (WM G a (mkJ (qTr c) (qTx c) (qTy c) i (qTo c) i 0 (qFa c) (qN c) (qSo c) (qVo c) (qBi c) (qHo c) (qTd c) (qS c) (qW c) (qKe c) (qIk c) (qUn c) (qUm c) (qRb c) (qRi c) (qRm c))) H := hP
        replace hD : va_D A (WM G a (mkJ (qTr c) (qTx c) (qTy c) i (qTo c) i 0 (qFa c) (qN c) (qSo c) (qVo c) (qBi c) (qHo c) (qTd c) (qS c) (qW c) (qKe c) (qIk c) (qUn c) (qUm c) (qRb c) (qRi c) (qRm c))) := hD
        refine wk_loopM (σ := Nat × Nat) (nL := 2) (fun xσ n => match xσ with | (k, v) => k + n = qTy c ∧ i ≤ k ∧ v ≤ 319 ∧ jDgF (qTx c) (qTy c) n k v = jDg (qTx c) (qTy c) i) (fun xσ => match xσ with | (k, v) => [(1, .int (nI j)), (0, .ref (a 0))]) (fun xσ => match xσ with | (k, v) => WM G a (mkJ (qTr c) (qTx c) (qTy c) k (qTo c) i v (qFa c) (qN c) (qSo c) (qVo c) (qBi c) (qHo c) (qTd c) (qS c) (qW c) (qKe c) (qIk c) (qUn c) (qUm c) (qRb c) (qRi c) (qRm c))) (i, 0) (qTy c - i) (⟨by omega, by omega, by omega, rfl⟩) hl hP hD hS ?_
        rintro n71 ⟨k, v⟩ ls H locs hI71 hl hP hD hS ih71
        have hl : lv_has ls 2 [(1, .int (nI j)), (0, .ref (a 0))] := hl
        have hP : va_P G.1 vwCl (WM G a (mkJ (qTr c) (qTx c) (qTy c) k (qTo c) i v (qFa c) (qN c) (qSo c) (qVo c) (qBi c) (qHo c) (qTd c) (qS c) (qW c) (qKe c) (qIk c) (qUn c) (qUm c) (qRb c) (qRi c) (qRm c))) H := hP
        have hD : va_D A (WM G a (mkJ (qTr c) (qTx c) (qTy c) k (qTo c) i v (qFa c) (qN c) (qSo c) (qVo c) (qBi c) (qHo c) (qTd c) (qS c) (qW c) (qKe c) (qIk c) (qUn c) (qUm c) (qRb c) (qRi c) (qRm c))) := hD
        obtain ⟨hk, hik, hv, hd⟩ := hI71
        refine lv_aload_n hx hb dX8_advances_71 rfl (lv_at hl 1 rfl) ?_
        refine lv_aload_n hx hb dX8_advances_72 rfl (lv_at hl 1 rfl) ?_
        refine va_get (D := G.1) (v := .int (nI k)) hx hb hts hin8 hown hK hP 0 (WM_0 G a (mkJ (qTr c) (qTx c) (qTy c) k (qTo c) i v (qFa c) (qN c) (qSo c) (qVo c) (qBi c) (qHo c) (qTd c) (qS c) (qW c) (qKe c) (qIk c) (qUn c) (qUm c) (qRb c) (qRi c) (qRm c))) rfl 4 (by decide) hf61 (fun _ h => h) rfl dX8_advances_73 ?_
        refine wk_read (va_runV (As := [.int (nI k)]) (rest := []) ⟨hx, hb, hml, hown, hts⟩ (c_X8_letterAt l G a (mkJ (qTr c) (qTx c) (qTy c) k (qTo c) i v (qFa c) (qN c) (qSo c) (qVo c) (qBi c) (qHo c) (qTd c) (qS c) (qW c) (qKe c) (qIk c) (qUn c) (qUm c) (qRb c) (qRi c) (qRm c)) (okJ_mk (by omega) (by omega) (by omega) (by omega) (by omega) (by omega)) k (by omega)) (cwV 1 hts gX8_advances_X8_letterAt rfl rfl rfl hdV_X8_letterAt ⟨Nat.le_of_ble_eq_true rfl, Nat.le_of_ble_eq_true rfl⟩) (PreW.pre (G := G) (W0 := WM G a (mkJ (qTr c) (qTx c) (qTy c) k (qTo c) i v (qFa c) (qN c) (qSo c) (qVo c) (qBi c) (qHo c) (qTd c) (qS c) (qW c) (qKe c) (qIk c) (qUn c) (qUm c) (qRb c) (qRi c) (qRm c))) ⟨hP, hK, hN⟩ (ci := 8) (q0 := 0) rfl rfl) rfl rfl hl.1 rfl (lv_room (Nat.le_of_ble_eq_true rfl)) dX8_advances_76 ⟨hrc, hrs⟩) ?_
        refine W.eq (g2 := F0 m 79 ls [.int (jLet (qTx c) (qTy c) k)]) rfl ?_
        refine lv_bipush (v := 48) hx hb dX8_advances_79 (by decide) ?_
        refine lv_bipush (v := 57) hx hb dX8_advances_81 (by decide) ?_
        refine wk_read (va_runS (As := [.int (jLet (qTx c) (qTy c) k), .int 48, .int 57]) (rest := []) ⟨hx, hb, hml, hown, hts⟩ (c_X8_in l (jLet (qTx c) (qTy c) k) 48 57) (va_cwS 3 hts gX8_advances_X8_in rfl rfl rfl hdS_X8_in ⟨Nat.le_of_ble_eq_true rfl, Nat.le_of_ble_eq_true rfl⟩) preEq rfl rfl hl.1 rfl (lv_room (Nat.le_of_ble_eq_true rfl)) dX8_advances_83 ⟨hrc, hrs⟩) ?_
        refine lv_if_eq (tgt := 141) hx hb dX8_advances_86 (by decide) (fun c86 => ?_) (fun c86 => ?_)
        · have c86 := b2i_f c86
          have hE : jDg (qTx c) (qTy c) i = (k, v) := by rw [← hd]; exact jDgF_n c86
          refine lv_aload_n hx hb dX8_advances_141 rfl (lv_at hl 1 rfl) ?_
          refine lv_aload_n hx hb dX8_advances_142 rfl (lv_at hl 1 rfl) ?_
          refine va_get (D := G.1) (v := .int (nI v)) hx hb hts hin8 hown hK hP 0 (WM_0 G a (mkJ (qTr c) (qTx c) (qTy c) k (qTo c) i v (qFa c) (qN c) (qSo c) (qVo c) (qBi c) (qHo c) (qTd c) (qS c) (qW c) (qKe c) (qIk c) (qUn c) (qUm c) (qRb c) (qRi c) (qRm c))) rfl 7 (by decide) hf74 (fun _ h => h) rfl dX8_advances_143 ?_
          refine lv_bipush (v := 31) hx hb dX8_advances_146 (by decide) ?_
          refine wk_gt (x := v) (y := 31) (tgt := 170) hx hb (by omega) (by omega) dX8_advances_148 (by decide) (fun c148 => ?_) (fun c148 => ?_)
          · refine lv_iconst (v := 4) hx hb dX8_advances_170 (by decide) ?_
            refine lv_goto (tgt := 175) hx hb dX8_advances_171 (by decide) ?_
            refine va_put (D := G.1) (v := .int 4) (ty := .int) hx hb hts hin8 tyX8 tyX8_ok nmX8 hown hK hP hD hS 0 (WM_0 G a (mkJ (qTr c) (qTx c) (qTy c) k (qTo c) i v (qFa c) (qN c) (qSo c) (qVo c) (qBi c) (qHo c) (qTd c) (qS c) (qW c) (qKe c) (qIk c) (qUn c) (qUm c) (qRb c) (qRi c) (qRm c))) rfl 5 (by decide) hf71 (fun _ h => h) rfl (by decide +kernel) rfl rfl (Nat.le_of_ble_eq_true rfl) dX8_advances_175 (fun H locs hP hD hS => ?_)
            rw [WMk_p0_5] at hP hD
            replace hP : va_P G.1 vwCl (WM G a (mkJ (qTr c) (qTx c) (qTy c) k 4 i v (qFa c) (qN c) (qSo c) (qVo c) (qBi c) (qHo c) (qTd c) (qS c) (qW c) (qKe c) (qIk c) (qUn c) (qUm c) (qRb c) (qRi c) (qRm c))) H := hP
            replace hD : va_D A (WM G a (mkJ (qTr c) (qTx c) (qTy c) k 4 i v (qFa c) (qN c) (qSo c) (qVo c) (qBi c) (qHo c) (qTd c) (qS c) (qW c) (qKe c) (qIk c) (qUn c) (qUm c) (qRb c) (qRi c) (qRm c))) := hD
            refine lv_goto (tgt := 233) hx hb dX8_advances_178 (by decide) ?_
            exact wk_mvret' hx hb hr hlocks dX8_advances_233 hP hS (congrArg (WM G a) (show wRJ c (jAdv (qTx c) (qTy c) (qNe c) (qVa c) (qFa c)) = mkJ (qTr c) (qTx c) (qTy c) k 4 i v (qFa c) (qN c) (qSo c) (qVo c) (qBi c) (qHo c) (qTd c) (qS c) (qW c) (qKe c) (qIk c) (qUn c) (qUm c) (qRb c) (qRi c) (qRm c) from by rw [show jAdv (qTx c) (qTy c) (qNe c) (qVa c) (qFa c) = (k, 4, i, v, qFa c) from by rw [jAdv, hsk, jAdP, hx9, hcl, if_pos c44, if_pos c63, hE]; show (k, (if 31 < v ∨ (j = 48 ∧ 1 < k - i) then (4 : Int32) else 2), i, v, qFa c) = _; rw [if_pos (by omega)]]; rfl))
          · refine lv_iload_n hx hb dX8_advances_151 rfl (lv_at hl 0 rfl) ?_
            refine lv_bipush (v := 48) hx hb dX8_advances_152 (by decide) ?_
            refine wk_ne (x := j) (y := 48) (tgt := 174) hx hb (by omega) (by omega) dX8_advances_154 (by decide) (fun c154 => ?_) (fun c154 => ?_)
            · refine lv_iconst (v := 2) hx hb dX8_advances_174 (by decide) ?_
              refine va_put (D := G.1) (v := .int 2) (ty := .int) hx hb hts hin8 tyX8 tyX8_ok nmX8 hown hK hP hD hS 0 (WM_0 G a (mkJ (qTr c) (qTx c) (qTy c) k (qTo c) i v (qFa c) (qN c) (qSo c) (qVo c) (qBi c) (qHo c) (qTd c) (qS c) (qW c) (qKe c) (qIk c) (qUn c) (qUm c) (qRb c) (qRi c) (qRm c))) rfl 5 (by decide) hf71 (fun _ h => h) rfl (by decide +kernel) rfl rfl (Nat.le_of_ble_eq_true rfl) dX8_advances_175 (fun H locs hP hD hS => ?_)
              rw [WMk_p0_5] at hP hD
              replace hP : va_P G.1 vwCl (WM G a (mkJ (qTr c) (qTx c) (qTy c) k 2 i v (qFa c) (qN c) (qSo c) (qVo c) (qBi c) (qHo c) (qTd c) (qS c) (qW c) (qKe c) (qIk c) (qUn c) (qUm c) (qRb c) (qRi c) (qRm c))) H := hP
              replace hD : va_D A (WM G a (mkJ (qTr c) (qTx c) (qTy c) k 2 i v (qFa c) (qN c) (qSo c) (qVo c) (qBi c) (qHo c) (qTd c) (qS c) (qW c) (qKe c) (qIk c) (qUn c) (qUm c) (qRb c) (qRi c) (qRm c))) := hD
              refine lv_goto (tgt := 233) hx hb dX8_advances_178 (by decide) ?_
              exact wk_mvret' hx hb hr hlocks dX8_advances_233 hP hS (congrArg (WM G a) (show wRJ c (jAdv (qTx c) (qTy c) (qNe c) (qVa c) (qFa c)) = mkJ (qTr c) (qTx c) (qTy c) k 2 i v (qFa c) (qN c) (qSo c) (qVo c) (qBi c) (qHo c) (qTd c) (qS c) (qW c) (qKe c) (qIk c) (qUn c) (qUm c) (qRb c) (qRi c) (qRm c) from by rw [show jAdv (qTx c) (qTy c) (qNe c) (qVa c) (qFa c) = (k, 2, i, v, qFa c) from by rw [jAdv, hsk, jAdP, hx9, hcl, if_pos c44, if_pos c63, hE]; show (k, (if 31 < v ∨ (j = 48 ∧ 1 < k - i) then (4 : Int32) else 2), i, v, qFa c) = _; rw [if_neg (by omega)]]; rfl))
            · refine lv_aload_n hx hb dX8_advances_157 rfl (lv_at hl 1 rfl) ?_
              refine va_get (D := G.1) (v := .int (nI k)) hx hb hts hin8 hown hK hP 0 (WM_0 G a (mkJ (qTr c) (qTx c) (qTy c) k (qTo c) i v (qFa c) (qN c) (qSo c) (qVo c) (qBi c) (qHo c) (qTd c) (qS c) (qW c) (qKe c) (qIk c) (qUn c) (qUm c) (qRb c) (qRi c) (qRm c))) rfl 4 (by decide) hf61 (fun _ h => h) rfl dX8_advances_158 ?_
              refine lv_aload_n hx hb dX8_advances_161 rfl (lv_at hl 1 rfl) ?_
              refine va_get (D := G.1) (v := .int (nI i)) hx hb hts hin8 hown hK hP 0 (WM_0 G a (mkJ (qTr c) (qTx c) (qTy c) k (qTo c) i v (qFa c) (qN c) (qSo c) (qVo c) (qBi c) (qHo c) (qTd c) (qS c) (qW c) (qKe c) (qIk c) (qUn c) (qUm c) (qRb c) (qRi c) (qRm c))) rfl 6 (by decide) hf68 (fun _ h => h) rfl dX8_advances_162 ?_
              refine wk_isub (x := k) (y := i) hx hb (by omega) dX8_advances_165 ?_
              refine lv_iconst (v := 1) hx hb dX8_advances_166 (by decide) ?_
              refine wk_le (x := (k - i)) (y := 1) (tgt := 174) hx hb (by omega) (by omega) dX8_advances_167 (by decide) (fun c167 => ?_) (fun c167 => ?_)
              · refine lv_iconst (v := 2) hx hb dX8_advances_174 (by decide) ?_
                refine va_put (D := G.1) (v := .int 2) (ty := .int) hx hb hts hin8 tyX8 tyX8_ok nmX8 hown hK hP hD hS 0 (WM_0 G a (mkJ (qTr c) (qTx c) (qTy c) k (qTo c) i v (qFa c) (qN c) (qSo c) (qVo c) (qBi c) (qHo c) (qTd c) (qS c) (qW c) (qKe c) (qIk c) (qUn c) (qUm c) (qRb c) (qRi c) (qRm c))) rfl 5 (by decide) hf71 (fun _ h => h) rfl (by decide +kernel) rfl rfl (Nat.le_of_ble_eq_true rfl) dX8_advances_175 (fun H locs hP hD hS => ?_)
                rw [WMk_p0_5] at hP hD
                replace hP : va_P G.1 vwCl (WM G a (mkJ (qTr c) (qTx c) (qTy c) k 2 i v (qFa c) (qN c) (qSo c) (qVo c) (qBi c) (qHo c) (qTd c) (qS c) (qW c) (qKe c) (qIk c) (qUn c) (qUm c) (qRb c) (qRi c) (qRm c))) H := hP
                replace hD : va_D A (WM G a (mkJ (qTr c) (qTx c) (qTy c) k 2 i v (qFa c) (qN c) (qSo c) (qVo c) (qBi c) (qHo c) (qTd c) (qS c) (qW c) (qKe c) (qIk c) (qUn c) (qUm c) (qRb c) (qRi c) (qRm c))) := hD
                refine lv_goto (tgt := 233) hx hb dX8_advances_178 (by decide) ?_
                exact wk_mvret' hx hb hr hlocks dX8_advances_233 hP hS (congrArg (WM G a) (show wRJ c (jAdv (qTx c) (qTy c) (qNe c) (qVa c) (qFa c)) = mkJ (qTr c) (qTx c) (qTy c) k 2 i v (qFa c) (qN c) (qSo c) (qVo c) (qBi c) (qHo c) (qTd c) (qS c) (qW c) (qKe c) (qIk c) (qUn c) (qUm c) (qRb c) (qRi c) (qRm c) from by rw [show jAdv (qTx c) (qTy c) (qNe c) (qVa c) (qFa c) = (k, 2, i, v, qFa c) from by rw [jAdv, hsk, jAdP, hx9, hcl, if_pos c44, if_pos c63, hE]; show (k, (if 31 < v ∨ (j = 48 ∧ 1 < k - i) then (4 : Int32) else 2), i, v, qFa c) = _; rw [if_neg (by omega)]]; rfl))
              · refine lv_iconst (v := 4) hx hb dX8_advances_170 (by decide) ?_
                refine lv_goto (tgt := 175) hx hb dX8_advances_171 (by decide) ?_
                refine va_put (D := G.1) (v := .int 4) (ty := .int) hx hb hts hin8 tyX8 tyX8_ok nmX8 hown hK hP hD hS 0 (WM_0 G a (mkJ (qTr c) (qTx c) (qTy c) k (qTo c) i v (qFa c) (qN c) (qSo c) (qVo c) (qBi c) (qHo c) (qTd c) (qS c) (qW c) (qKe c) (qIk c) (qUn c) (qUm c) (qRb c) (qRi c) (qRm c))) rfl 5 (by decide) hf71 (fun _ h => h) rfl (by decide +kernel) rfl rfl (Nat.le_of_ble_eq_true rfl) dX8_advances_175 (fun H locs hP hD hS => ?_)
                rw [WMk_p0_5] at hP hD
                replace hP : va_P G.1 vwCl (WM G a (mkJ (qTr c) (qTx c) (qTy c) k 4 i v (qFa c) (qN c) (qSo c) (qVo c) (qBi c) (qHo c) (qTd c) (qS c) (qW c) (qKe c) (qIk c) (qUn c) (qUm c) (qRb c) (qRi c) (qRm c))) H := hP
                replace hD : va_D A (WM G a (mkJ (qTr c) (qTx c) (qTy c) k 4 i v (qFa c) (qN c) (qSo c) (qVo c) (qBi c) (qHo c) (qTd c) (qS c) (qW c) (qKe c) (qIk c) (qUn c) (qUm c) (qRb c) (qRi c) (qRm c))) := hD
                refine lv_goto (tgt := 233) hx hb dX8_advances_178 (by decide) ?_
                exact wk_mvret' hx hb hr hlocks dX8_advances_233 hP hS (congrArg (WM G a) (show wRJ c (jAdv (qTx c) (qTy c) (qNe c) (qVa c) (qFa c)) = mkJ (qTr c) (qTx c) (qTy c) k 4 i v (qFa c) (qN c) (qSo c) (qVo c) (qBi c) (qHo c) (qTd c) (qS c) (qW c) (qKe c) (qIk c) (qUn c) (qUm c) (qRb c) (qRi c) (qRm c) from by rw [show jAdv (qTx c) (qTy c) (qNe c) (qVa c) (qFa c) = (k, 4, i, v, qFa c) from by rw [jAdv, hsk, jAdP, hx9, hcl, if_pos c44, if_pos c63, hE]; show (k, (if 31 < v ∨ (j = 48 ∧ 1 < k - i) then (4 : Int32) else 2), i, v, qFa c) = _; rw [if_pos (by omega)]]; rfl))
        · have c86 := b2i_t c86
          have hq9 := jLet_dig c86
          refine lv_aload_n hx hb dX8_advances_89 rfl (lv_at hl 1 rfl) ?_
          refine lv_aload_n hx hb dX8_advances_90 rfl (lv_at hl 1 rfl) ?_
          refine va_get (D := G.1) (v := .int (nI v)) hx hb hts hin8 hown hK hP 0 (WM_0 G a (mkJ (qTr c) (qTx c) (qTy c) k (qTo c) i v (qFa c) (qN c) (qSo c) (qVo c) (qBi c) (qHo c) (qTd c) (qS c) (qW c) (qKe c) (qIk c) (qUn c) (qUm c) (qRb c) (qRi c) (qRm c))) rfl 7 (by decide) hf74 (fun _ h => h) rfl dX8_advances_91 ?_
          refine lv_bipush (v := 31) hx hb dX8_advances_94 (by decide) ?_
          refine wk_le (x := v) (y := 31) (tgt := 106) hx hb (by omega) (by omega) dX8_advances_96 (by decide) (fun c96 => ?_) (fun c96 => ?_)
          · refine lv_bipush (v := 10) hx hb dX8_advances_106 (by decide) ?_
            refine lv_aload_n hx hb dX8_advances_108 rfl (lv_at hl 1 rfl) ?_
            refine va_get (D := G.1) (v := .int (nI v)) hx hb hts hin8 hown hK hP 0 (WM_0 G a (mkJ (qTr c) (qTx c) (qTy c) k (qTo c) i v (qFa c) (qN c) (qSo c) (qVo c) (qBi c) (qHo c) (qTd c) (qS c) (qW c) (qKe c) (qIk c) (qUn c) (qUm c) (qRb c) (qRi c) (qRm c))) rfl 7 (by decide) hf74 (fun _ h => h) rfl dX8_advances_109 ?_
            refine wk_imul (x := 10) (y := v) hx hb dX8_advances_112 ?_
            refine lv_aload_n hx hb dX8_advances_113 rfl (lv_at hl 1 rfl) ?_
            refine lv_aload_n hx hb dX8_advances_114 rfl (lv_at hl 1 rfl) ?_
            refine va_get (D := G.1) (v := .int (nI k)) hx hb hts hin8 hown hK hP 0 (WM_0 G a (mkJ (qTr c) (qTx c) (qTy c) k (qTo c) i v (qFa c) (qN c) (qSo c) (qVo c) (qBi c) (qHo c) (qTd c) (qS c) (qW c) (qKe c) (qIk c) (qUn c) (qUm c) (qRb c) (qRi c) (qRm c))) rfl 4 (by decide) hf61 (fun _ h => h) rfl dX8_advances_115 ?_
            refine wk_read (va_runV (As := [.int (nI k)]) (rest := [.int (nI (10 * v)), .ref (a 0)]) ⟨hx, hb, hml, hown, hts⟩ (c_X8_letterAt l G a (mkJ (qTr c) (qTx c) (qTy c) k (qTo c) i v (qFa c) (qN c) (qSo c) (qVo c) (qBi c) (qHo c) (qTd c) (qS c) (qW c) (qKe c) (qIk c) (qUn c) (qUm c) (qRb c) (qRi c) (qRm c)) (okJ_mk (by omega) (by omega) (by omega) (by omega) (by omega) (by omega)) k (by omega)) (cwV 1 hts gX8_advances_X8_letterAt rfl rfl rfl hdV_X8_letterAt ⟨Nat.le_of_ble_eq_true rfl, Nat.le_of_ble_eq_true rfl⟩) (PreW.pre (G := G) (W0 := WM G a (mkJ (qTr c) (qTx c) (qTy c) k (qTo c) i v (qFa c) (qN c) (qSo c) (qVo c) (qBi c) (qHo c) (qTd c) (qS c) (qW c) (qKe c) (qIk c) (qUn c) (qUm c) (qRb c) (qRi c) (qRm c))) ⟨hP, hK, hN⟩ (ci := 8) (q0 := 0) rfl rfl) rfl rfl hl.1 rfl (lv_room (Nat.le_of_ble_eq_true rfl)) dX8_advances_118 ⟨hrc, hrs⟩) ?_
            refine W.eq (g2 := F0 m 121 ls [.int (jLet (qTx c) (qTy c) k), .int (nI (10 * v)), .ref (a 0)]) rfl ?_
            refine lv_iadd hx hb dX8_advances_121 ?_
            refine lv_bipush (v := 48) hx hb dX8_advances_122 (by decide) ?_
            refine lv_isub hx hb dX8_advances_124 ?_
            rw [jDig_i c86]
            refine va_put (D := G.1) (v := .int (nI (10 * v + dg (jLet (qTx c) (qTy c) k)))) (ty := .int) hx hb hts hin8 tyX8 tyX8_ok nmX8 hown hK hP hD hS 0 (WM_0 G a (mkJ (qTr c) (qTx c) (qTy c) k (qTo c) i v (qFa c) (qN c) (qSo c) (qVo c) (qBi c) (qHo c) (qTd c) (qS c) (qW c) (qKe c) (qIk c) (qUn c) (qUm c) (qRb c) (qRi c) (qRm c))) rfl 7 (by decide) hf74 (fun _ h => h) rfl (by decide +kernel) rfl rfl (Nat.le_of_ble_eq_true rfl) dX8_advances_125 (fun H locs hP hD hS => ?_)
            rw [WMk_p0_7] at hP hD
            replace hP : va_P G.1 vwCl (WM G a (mkJ (qTr c) (qTx c) (qTy c) k (qTo c) i (10 * v + dg (jLet (qTx c) (qTy c) k)) (qFa c) (qN c) (qSo c) (qVo c) (qBi c) (qHo c) (qTd c) (qS c) (qW c) (qKe c) (qIk c) (qUn c) (qUm c) (qRb c) (qRi c) (qRm c))) H := hP
            replace hD : va_D A (WM G a (mkJ (qTr c) (qTx c) (qTy c) k (qTo c) i (10 * v + dg (jLet (qTx c) (qTy c) k)) (qFa c) (qN c) (qSo c) (qVo c) (qBi c) (qHo c) (qTd c) (qS c) (qW c) (qKe c) (qIk c) (qUn c) (qUm c) (qRb c) (qRi c) (qRm c))) := hD
            refine lv_aload_n hx hb dX8_advances_128 rfl (lv_at hl 1 rfl) ?_
            refine lv_dup hx hb dX8_advances_129 rfl ?_
            refine va_get (D := G.1) (v := .int (nI k)) hx hb hts hin8 hown hK hP 0 (WM_0 G a (mkJ (qTr c) (qTx c) (qTy c) k (qTo c) i (10 * v + dg (jLet (qTx c) (qTy c) k)) (qFa c) (qN c) (qSo c) (qVo c) (qBi c) (qHo c) (qTd c) (qS c) (qW c) (qKe c) (qIk c) (qUn c) (qUm c) (qRb c) (qRi c) (qRm c))) rfl 4 (by decide) hf61 (fun _ h => h) rfl dX8_advances_130 ?_
            refine lv_iconst (v := 1) hx hb dX8_advances_133 (by decide) ?_
            refine wk_iadd (x := k) (y := 1) hx hb dX8_advances_134 ?_
            refine va_put (D := G.1) (v := .int (nI (k + 1))) (ty := .int) hx hb hts hin8 tyX8 tyX8_ok nmX8 hown hK hP hD hS 0 (WM_0 G a (mkJ (qTr c) (qTx c) (qTy c) k (qTo c) i (10 * v + dg (jLet (qTx c) (qTy c) k)) (qFa c) (qN c) (qSo c) (qVo c) (qBi c) (qHo c) (qTd c) (qS c) (qW c) (qKe c) (qIk c) (qUn c) (qUm c) (qRb c) (qRi c) (qRm c))) rfl 4 (by decide) hf61 (fun _ h => h) rfl (by decide +kernel) rfl rfl (Nat.le_of_ble_eq_true rfl) dX8_advances_135 (fun H locs hP hD hS => ?_)
            rw [WMk_p0_4] at hP hD
            replace hP : va_P G.1 vwCl (WM G a (mkJ (qTr c) (qTx c) (qTy c) (k + 1) (qTo c) i (10 * v + dg (jLet (qTx c) (qTy c) k)) (qFa c) (qN c) (qSo c) (qVo c) (qBi c) (qHo c) (qTd c) (qS c) (qW c) (qKe c) (qIk c) (qUn c) (qUm c) (qRb c) (qRi c) (qRm c))) H := hP
            replace hD : va_D A (WM G a (mkJ (qTr c) (qTx c) (qTy c) (k + 1) (qTo c) i (10 * v + dg (jLet (qTx c) (qTy c) k)) (qFa c) (qN c) (qSo c) (qVo c) (qBi c) (qHo c) (qTd c) (qS c) (qW c) (qKe c) (qIk c) (qUn c) (qUm c) (qRb c) (qRi c) (qRm c))) := hD
            refine lv_goto (tgt := 71) hx hb dX8_advances_138 (by decide) ?_
            obtain ⟨k9, hk9⟩ : ∃ k, n71 = k + 1 := ⟨n71 - 1, by omega⟩
            exact ih71 (k + 1, (10 * v + dg (jLet (qTx c) (qTy c) k))) (n71 - 1) ls H _ (by omega) (⟨by omega, by omega, by omega, by rw [← hd, hk9, jDgF_y c86, if_neg (by omega)]; rfl⟩) (lv_sub hl [0, 1] rfl) hP hD hS
          · refine lv_aload_n hx hb dX8_advances_99 rfl (lv_at hl 1 rfl) ?_
            refine va_get (D := G.1) (v := .int (nI v)) hx hb hts hin8 hown hK hP 0 (WM_0 G a (mkJ (qTr c) (qTx c) (qTy c) k (qTo c) i v (qFa c) (qN c) (qSo c) (qVo c) (qBi c) (qHo c) (qTd c) (qS c) (qW c) (qKe c) (qIk c) (qUn c) (qUm c) (qRb c) (qRi c) (qRm c))) rfl 7 (by decide) hf74 (fun _ h => h) rfl dX8_advances_100 ?_
            refine lv_goto (tgt := 125) hx hb dX8_advances_103 (by decide) ?_
            refine va_put (D := G.1) (v := .int (nI v)) (ty := .int) hx hb hts hin8 tyX8 tyX8_ok nmX8 hown hK hP hD hS 0 (WM_0 G a (mkJ (qTr c) (qTx c) (qTy c) k (qTo c) i v (qFa c) (qN c) (qSo c) (qVo c) (qBi c) (qHo c) (qTd c) (qS c) (qW c) (qKe c) (qIk c) (qUn c) (qUm c) (qRb c) (qRi c) (qRm c))) rfl 7 (by decide) hf74 (fun _ h => h) rfl (by decide +kernel) rfl rfl (Nat.le_of_ble_eq_true rfl) dX8_advances_125 (fun H locs hP hD hS => ?_)
            rw [WMk_p0_7] at hP hD
            replace hP : va_P G.1 vwCl (WM G a (mkJ (qTr c) (qTx c) (qTy c) k (qTo c) i v (qFa c) (qN c) (qSo c) (qVo c) (qBi c) (qHo c) (qTd c) (qS c) (qW c) (qKe c) (qIk c) (qUn c) (qUm c) (qRb c) (qRi c) (qRm c))) H := hP
            replace hD : va_D A (WM G a (mkJ (qTr c) (qTx c) (qTy c) k (qTo c) i v (qFa c) (qN c) (qSo c) (qVo c) (qBi c) (qHo c) (qTd c) (qS c) (qW c) (qKe c) (qIk c) (qUn c) (qUm c) (qRb c) (qRi c) (qRm c))) := hD
            refine lv_aload_n hx hb dX8_advances_128 rfl (lv_at hl 1 rfl) ?_
            refine lv_dup hx hb dX8_advances_129 rfl ?_
            refine va_get (D := G.1) (v := .int (nI k)) hx hb hts hin8 hown hK hP 0 (WM_0 G a (mkJ (qTr c) (qTx c) (qTy c) k (qTo c) i v (qFa c) (qN c) (qSo c) (qVo c) (qBi c) (qHo c) (qTd c) (qS c) (qW c) (qKe c) (qIk c) (qUn c) (qUm c) (qRb c) (qRi c) (qRm c))) rfl 4 (by decide) hf61 (fun _ h => h) rfl dX8_advances_130 ?_
            refine lv_iconst (v := 1) hx hb dX8_advances_133 (by decide) ?_
            refine wk_iadd (x := k) (y := 1) hx hb dX8_advances_134 ?_
            refine va_put (D := G.1) (v := .int (nI (k + 1))) (ty := .int) hx hb hts hin8 tyX8 tyX8_ok nmX8 hown hK hP hD hS 0 (WM_0 G a (mkJ (qTr c) (qTx c) (qTy c) k (qTo c) i v (qFa c) (qN c) (qSo c) (qVo c) (qBi c) (qHo c) (qTd c) (qS c) (qW c) (qKe c) (qIk c) (qUn c) (qUm c) (qRb c) (qRi c) (qRm c))) rfl 4 (by decide) hf61 (fun _ h => h) rfl (by decide +kernel) rfl rfl (Nat.le_of_ble_eq_true rfl) dX8_advances_135 (fun H locs hP hD hS => ?_)
            rw [WMk_p0_4] at hP hD
            replace hP : va_P G.1 vwCl (WM G a (mkJ (qTr c) (qTx c) (qTy c) (k + 1) (qTo c) i v (qFa c) (qN c) (qSo c) (qVo c) (qBi c) (qHo c) (qTd c) (qS c) (qW c) (qKe c) (qIk c) (qUn c) (qUm c) (qRb c) (qRi c) (qRm c))) H := hP
            replace hD : va_D A (WM G a (mkJ (qTr c) (qTx c) (qTy c) (k + 1) (qTo c) i v (qFa c) (qN c) (qSo c) (qVo c) (qBi c) (qHo c) (qTd c) (qS c) (qW c) (qKe c) (qIk c) (qUn c) (qUm c) (qRb c) (qRi c) (qRm c))) := hD
            refine lv_goto (tgt := 71) hx hb dX8_advances_138 (by decide) ?_
            obtain ⟨k9, hk9⟩ : ∃ k, n71 = k + 1 := ⟨n71 - 1, by omega⟩
            exact ih71 (k + 1, v) (n71 - 1) ls H _ (by omega) (⟨by omega, by omega, by omega, by rw [← hd, hk9, jDgF_y c86, if_pos c96]; rfl⟩) (lv_sub hl [0, 1] rfl) hP hD hS
    · refine lv_aload_n hx hb dX8_advances_47 rfl (lv_at hl 1 rfl) ?_
      refine lv_iconst (v := 0) hx hb dX8_advances_48 (by decide) ?_
      refine va_put (D := G.1) (v := .int 0) (ty := .int) hx hb hts hin8 tyX8 tyX8_ok nmX8 hown hK hP hD hS 0 (WM_0 G a (mkJ (qTr c) (qTx c) (qTy c) i (qTo c) i (qVa c) (qFa c) (qN c) (qSo c) (qVo c) (qBi c) (qHo c) (qTd c) (qS c) (qW c) (qKe c) (qIk c) (qUn c) (qUm c) (qRb c) (qRi c) (qRm c))) rfl 5 (by decide) hf71 (fun _ h => h) rfl (by decide +kernel) rfl rfl (Nat.le_of_ble_eq_true rfl) dX8_advances_49 (fun H locs hP hD hS => ?_)
      rw [WMk_p0_5] at hP hD
      replace hP : va_P G.1 vwCl (WM G a (mkJ (qTr c) (qTx c) (qTy c) i 0 i (qVa c) (qFa c) (qN c) (qSo c) (qVo c) (qBi c) (qHo c) (qTd c) (qS c) (qW c) (qKe c) (qIk c) (qUn c) (qUm c) (qRb c) (qRi c) (qRm c))) H := hP
      replace hD : va_D A (WM G a (mkJ (qTr c) (qTx c) (qTy c) i 0 i (qVa c) (qFa c) (qN c) (qSo c) (qVo c) (qBi c) (qHo c) (qTd c) (qS c) (qW c) (qKe c) (qIk c) (qUn c) (qUm c) (qRb c) (qRi c) (qRm c))) := hD
      refine lv_goto (tgt := 233) hx hb dX8_advances_52 (by decide) ?_
      exact wk_mvret' hx hb hr hlocks dX8_advances_233 hP hS (congrArg (WM G a) (show wRJ c (jAdv (qTx c) (qTy c) (qNe c) (qVa c) (qFa c)) = mkJ (qTr c) (qTx c) (qTy c) i 0 i (qVa c) (qFa c) (qN c) (qSo c) (qVo c) (qBi c) (qHo c) (qTd c) (qS c) (qW c) (qKe c) (qIk c) (qUn c) (qUm c) (qRb c) (qRi c) (qRm c) from by rw [show jAdv (qTx c) (qTy c) (qNe c) (qVa c) (qFa c) = (i, 0, i, qVa c, qFa c) from by rw [jAdv, hsk, jAdP, if_neg c44]]; rfl))
  · refine lv_aload_n hx hb dX8_advances_13 rfl (lv_at hl 0 rfl) ?_
    refine lv_dup hx hb dX8_advances_14 rfl ?_
    refine va_get (D := G.1) (v := .int (nI i)) hx hb hts hin8 hown hK hP 0 (WM_0 G a (mkJ (qTr c) (qTx c) (qTy c) i (qTo c) (qPl c) (qVa c) (qFa c) (qN c) (qSo c) (qVo c) (qBi c) (qHo c) (qTd c) (qS c) (qW c) (qKe c) (qIk c) (qUn c) (qUm c) (qRb c) (qRi c) (qRm c))) rfl 4 (by decide) hf61 (fun _ h => h) rfl dX8_advances_15 ?_
    refine lv_iconst (v := 1) hx hb dX8_advances_18 (by decide) ?_
    refine wk_iadd (x := i) (y := 1) hx hb dX8_advances_19 ?_
    refine va_put (D := G.1) (v := .int (nI (i + 1))) (ty := .int) hx hb hts hin8 tyX8 tyX8_ok nmX8 hown hK hP hD hS 0 (WM_0 G a (mkJ (qTr c) (qTx c) (qTy c) i (qTo c) (qPl c) (qVa c) (qFa c) (qN c) (qSo c) (qVo c) (qBi c) (qHo c) (qTd c) (qS c) (qW c) (qKe c) (qIk c) (qUn c) (qUm c) (qRb c) (qRi c) (qRm c))) rfl 4 (by decide) hf61 (fun _ h => h) rfl (by decide +kernel) rfl rfl (Nat.le_of_ble_eq_true rfl) dX8_advances_20 (fun H locs hP hD hS => ?_)
    rw [WMk_p0_4] at hP hD
    replace hP : va_P G.1 vwCl (WM G a (mkJ (qTr c) (qTx c) (qTy c) (i + 1) (qTo c) (qPl c) (qVa c) (qFa c) (qN c) (qSo c) (qVo c) (qBi c) (qHo c) (qTd c) (qS c) (qW c) (qKe c) (qIk c) (qUn c) (qUm c) (qRb c) (qRi c) (qRm c))) H := hP
    replace hD : va_D A (WM G a (mkJ (qTr c) (qTx c) (qTy c) (i + 1) (qTo c) (qPl c) (qVa c) (qFa c) (qN c) (qSo c) (qVo c) (qBi c) (qHo c) (qTd c) (qS c) (qW c) (qKe c) (qIk c) (qUn c) (qUm c) (qRb c) (qRi c) (qRm c))) := hD
    refine lv_goto (tgt := 0) hx hb dX8_advances_23 (by decide) ?_
    have h9 := (jLet_lt c10 (by decide)).1
    obtain ⟨k9, hk9⟩ : ∃ k, n0 = k + 1 := ⟨n0 - 1, by omega⟩
    exact ih0 (i + 1) (n0 - 1) ls H _ (by omega) (⟨by omega, by rw [← hs, hk9, skF_y c10]; rfl⟩) (lv_sub hl [0] rfl) hP hD hS
theorem hdV_X8_takes : yX8_takes.cls = RX8 ∧ yX8_takes.cls ≠ "java/lang/invoke/MethodHandle" ∧ yX8_takes.cls ≠ "java/lang/invoke/VarHandle" ∧ (parseMethodDescriptor yX8_takes.desc).map (fun d => d.parameters.length) = some 1 := by decide +kernel
set_option maxHeartbeats 600000 in
set_option maxRecDepth 100000 in
theorem c_X8_takes (l : Launch) (G : GG) (a : Nat → Nat) (c : JX) (hc : OkJ c) (u : Bool) (hne : qNe c ≤ qTy c) (sz : Nat) : Met l yX8_takes wsX8_takes ({ frames := 2, cells := 0, slots := 0, locals := 43 }) (va_Pc [.ref (a 0), .int (b2i u)] (fun U => PreM G (WM G a c) sz U U.heap)) (Qm G.1 vwCl (some (.int (nI ((jTk (qTx c) (qTy c) (qNe c) (qTo c) (qPl c) (qVa c) (qFa c) u).1)))) (WM G a (wRJ c (jTk (qTx c) (qTy c) (qNe c) (qTo c) (qPl c) (qVa c) (qFa c) u).2)) (va_A (WM G a c) sz)) 0 0 (va_A (WM G a c) sz) := by
  refine Met.ofW (cc := cX8_takes) (maxL := 3) (ret := (some .int)) (by decide) rfl ?_
  intro p e s m args below meth cd s₁ BB hml hv
  obtain ⟨rfl, ⟨hP, hK, hN⟩, hD0, hsz⟩ := hv
  have hx := BB.exec
  have hb := BB.bytes
  have hr := BB.returns
  have hts := atoms_spec (ws := wsX8_takes) BB.pre
  have hown : s.vm.findClass RX8 = some m.cls := findClass_of_methodNamed BB.named
  have hlocks := BB.notSynchronized
  have hrc : 0 + 0 ≤ (headSpec wsX8_takes ({ frames := 2, cells := 0, slots := 0, locals := 43 })).room.cells := Nat.le_refl _
  have hrs : 0 + 0 ≤ (headSpec wsX8_takes ({ frames := 2, cells := 0, slots := 0, locals := 43 })).room.slots := Nat.le_refl _
  subst hsz
  have hD := hD0.self (sz := s.heap.size)
  generalize hAe : va_A (WM G a c) s.heap.size = A at hD ⊢
  have hA : ∀ q : Nat, s.heap.size ≤ q → A q := fun q h => by rw [← hAe]; exact Or.inr h
  have hS : va_S A s.heap s.heap [] := va_S.rf
  obtain ⟨hk7, ho1, ho5, hl200, hr6, hu10⟩ := id hc
  have hin8 : ∀ w ∈ u_ws RX8 TX8 24, w ∈ wsX8_takes := by decide +kernel
  have hf68 := hts (.fieldLink RX8 68 "RegaliaVotesModel" "place" "I") (by decide +kernel)
  have hf74 := hts (.fieldLink RX8 74 "RegaliaVotesModel" "value" "I") (by decide +kernel)
  have hf77 := hts (.fieldLink RX8 77 "RegaliaVotesModel" "fault" "I") (by decide +kernel)
  refine wk_enter (n := 3) (Nat.le_of_ble_eq_true rfl) (fun ls hl => ?_)
  have hl : lv_has ls 3 [(0, .ref (a 0)), (1, .int (b2i u))] := hl
  refine lv_aload_n hx hb dX8_takes_0 rfl (lv_at hl 0 rfl) ?_
  refine wk_read (va_runV (As := []) (rest := []) ⟨hx, hb, hml, hown, hts⟩ (c_X8_isWell l G a c hc) (cwV 0 hts gX8_takes_X8_isWell rfl rfl rfl hdV_X8_isWell ⟨Nat.le_of_ble_eq_true rfl, Nat.le_of_ble_eq_true rfl⟩) (PreW.pre (G := G) (W0 := WM G a c) ⟨hP, hK, hN⟩ (ci := 8) (q0 := 0) rfl rfl) rfl rfl hl.1 rfl (lv_room (Nat.le_of_ble_eq_true rfl)) dX8_takes_1 ⟨hrc, hrs⟩) ?_
  refine W.eq (g2 := F0 m 4 ls [.int (b2i (jWl (qFa c)))]) rfl ?_
  refine lv_if_ne (tgt := 9) hx hb dX8_takes_4 (by decide) (fun c4 => ?_) (fun c4 => ?_)
  · have c4 := b2i_t c4
    refine lv_iload_n hx hb dX8_takes_9 rfl (lv_at hl 1 rfl) ?_
    refine lv_if_ne (tgt := 23) hx hb dX8_takes_10 (by decide) (fun c10 => ?_) (fun c10 => ?_)
    · have c10 := b2i_t c10
      refine lv_aload_n hx hb dX8_takes_23 rfl (lv_at hl 0 rfl) ?_
      refine va_get (D := G.1) (v := .int (nI (qVa c))) hx hb hts hin8 hown hK hP 0 (WM_0 G a c) rfl 7 (by decide) hf74 (fun _ h => h) rfl dX8_takes_24 ?_
      refine lv_istore_n (lv' := [(2, .int (nI (qVa c))), (0, .ref (a 0)), (1, .int (b2i u))]) hx hb dX8_takes_27 rfl hl (by decide) rfl (fun ls hl => ?_)
      refine lv_aload_n hx hb dX8_takes_28 rfl (lv_at hl 1 rfl) ?_
      refine wk_callA (va_runV (As := []) (rest := []) ⟨hx, hb, hml, hown, hts⟩ (c_X8_advances l G a c hc (show qNe c ≤ qTy c by omega) s.heap.size) (cwV 0 hts gX8_takes_X8_advances rfl rfl rfl hdV_X8_advances ⟨Nat.le_of_ble_eq_true rfl, Nat.le_of_ble_eq_true rfl⟩) ((PreM.mk hP hK hN hD).pre (ci := 8) (q0 := 0) rfl (WM_0 G a c)) rfl rfl hl.1 rfl (lv_room (Nat.le_of_ble_eq_true rfl)) dX8_takes_29 ⟨hrc, hrs⟩) hD hS hA WM_fst (fun H locs hP hD hS => ?_)
      replace hP : va_P G.1 vwCl (WM G a (mkJ (qTr c) (qTx c) (qTy c) ((jAdv (qTx c) (qTy c) (qNe c) (qVa c) (qFa c)).1) ((jAdv (qTx c) (qTy c) (qNe c) (qVa c) (qFa c)).2.1) ((jAdv (qTx c) (qTy c) (qNe c) (qVa c) (qFa c)).2.2.1) ((jAdv (qTx c) (qTy c) (qNe c) (qVa c) (qFa c)).2.2.2.1) ((jAdv (qTx c) (qTy c) (qNe c) (qVa c) (qFa c)).2.2.2.2) (qN c) (qSo c) (qVo c) (qBi c) (qHo c) (qTd c) (qS c) (qW c) (qKe c) (qIk c) (qUn c) (qUm c) (qRb c) (qRi c) (qRm c))) H := hP
      replace hD : va_D A (WM G a (mkJ (qTr c) (qTx c) (qTy c) ((jAdv (qTx c) (qTy c) (qNe c) (qVa c) (qFa c)).1) ((jAdv (qTx c) (qTy c) (qNe c) (qVa c) (qFa c)).2.1) ((jAdv (qTx c) (qTy c) (qNe c) (qVa c) (qFa c)).2.2.1) ((jAdv (qTx c) (qTy c) (qNe c) (qVa c) (qFa c)).2.2.2.1) ((jAdv (qTx c) (qTy c) (qNe c) (qVa c) (qFa c)).2.2.2.2) (qN c) (qSo c) (qVo c) (qBi c) (qHo c) (qTd c) (qS c) (qW c) (qKe c) (qIk c) (qUn c) (qUm c) (qRb c) (qRi c) (qRm c))) := hD
      refine W.eq (g2 := F0 m 32 ls []) rfl ?_
      generalize hz29 : jAdv (qTx c) (qTy c) (qNe c) (qVa c) (qFa c) = z29 at hP hD
      have hn29 : z29.1 ≤ qTy c := by rw [← hz29]; exact (jAdv_ok (by omega)).1
      refine lv_iload_n hx hb dX8_takes_32 rfl (lv_at hl 0 rfl) ?_
      exact wk_mret' hx hb hr hlocks dX8_takes_33 hP hS (congrArg (fun z => some (Value.int z)) (show nI (jTk (qTx c) (qTy c) (qNe c) (qTo c) (qPl c) (qVa c) (qFa c) u).1 = (nI (qVa c)) from by rw [jTk, if_neg (jWl_t c4), if_pos c10] <;> rfl)) (congrArg (WM G a) (show wRJ c (jTk (qTx c) (qTy c) (qNe c) (qTo c) (qPl c) (qVa c) (qFa c) u).2 = mkJ (qTr c) (qTx c) (qTy c) z29.1 z29.2.1 z29.2.2.1 z29.2.2.2.1 z29.2.2.2.2 (qN c) (qSo c) (qVo c) (qBi c) (qHo c) (qTd c) (qS c) (qW c) (qKe c) (qIk c) (qUn c) (qUm c) (qRb c) (qRi c) (qRm c) from by rw [jTk, if_neg (jWl_t c4), if_pos c10, hz29] <;> rfl))
    · have c10 := b2i_f c10
      refine lv_aload_n hx hb dX8_takes_13 rfl (lv_at hl 0 rfl) ?_
      refine lv_aload_n hx hb dX8_takes_14 rfl (lv_at hl 0 rfl) ?_
      refine va_get (D := G.1) (v := .int (nI (qPl c))) hx hb hts hin8 hown hK hP 0 (WM_0 G a c) rfl 6 (by decide) hf68 (fun _ h => h) rfl dX8_takes_15 ?_
      refine va_put (D := G.1) (v := .int (nI (qPl c))) (ty := .int) hx hb hts hin8 tyX8 tyX8_ok nmX8 hown hK hP hD hS 0 (WM_0 G a c) rfl 8 (by decide) hf77 (fun _ h => h) rfl (by decide +kernel) rfl rfl (Nat.le_of_ble_eq_true rfl) dX8_takes_18 (fun H locs hP hD hS => ?_)
      rw [WMc_p0_8] at hP hD
      replace hP : va_P G.1 vwCl (WM G a (mkJ (qTr c) (qTx c) (qTy c) (qNe c) (qTo c) (qPl c) (qVa c) (nI (qPl c)) (qN c) (qSo c) (qVo c) (qBi c) (qHo c) (qTd c) (qS c) (qW c) (qKe c) (qIk c) (qUn c) (qUm c) (qRb c) (qRi c) (qRm c))) H := hP
      replace hD : va_D A (WM G a (mkJ (qTr c) (qTx c) (qTy c) (qNe c) (qTo c) (qPl c) (qVa c) (nI (qPl c)) (qN c) (qSo c) (qVo c) (qBi c) (qHo c) (qTd c) (qS c) (qW c) (qKe c) (qIk c) (qUn c) (qUm c) (qRb c) (qRi c) (qRm c))) := hD
      refine lv_iconst (v := 0) hx hb dX8_takes_21 (by decide) ?_
      exact wk_mret' hx hb hr hlocks dX8_takes_22 hP hS (congrArg (fun z => some (Value.int z)) (show nI (jTk (qTx c) (qTy c) (qNe c) (qTo c) (qPl c) (qVa c) (qFa c) u).1 = 0 from by rw [jTk, if_neg (jWl_t c4), if_neg (by rw [c10]; decide)] <;> rfl)) (congrArg (WM G a) (show wRJ c (jTk (qTx c) (qTy c) (qNe c) (qTo c) (qPl c) (qVa c) (qFa c) u).2 = mkJ (qTr c) (qTx c) (qTy c) (qNe c) (qTo c) (qPl c) (qVa c) (nI (qPl c)) (qN c) (qSo c) (qVo c) (qBi c) (qHo c) (qTd c) (qS c) (qW c) (qKe c) (qIk c) (qUn c) (qUm c) (qRb c) (qRi c) (qRm c) from by rw [jTk, if_neg (jWl_t c4), if_neg (by rw [c10]; decide)] <;> rfl))
  · have c4 := b2i_f c4
    refine lv_iconst (v := 0) hx hb dX8_takes_7 (by decide) ?_
    exact wk_mret' hx hb hr hlocks dX8_takes_8 hP hS (congrArg (fun z => some (Value.int z)) (show nI (jTk (qTx c) (qTy c) (qNe c) (qTo c) (qPl c) (qVa c) (qFa c) u).1 = 0 from by rw [jTk, if_pos (jWl_f c4)] <;> rfl)) (congrArg (WM G a) (show wRJ c (jTk (qTx c) (qTy c) (qNe c) (qTo c) (qPl c) (qVa c) (qFa c) u).2 = c from by rw [jTk, if_pos (jWl_f c4)] <;> rfl))
theorem hdV_X8_number : yX8_number.cls = RX8 ∧ yX8_number.cls ≠ "java/lang/invoke/MethodHandle" ∧ yX8_number.cls ≠ "java/lang/invoke/VarHandle" ∧ (parseMethodDescriptor yX8_number.desc).map (fun d => d.parameters.length) = some 2 := by decide +kernel
set_option maxHeartbeats 600000 in
set_option maxRecDepth 100000 in
theorem c_X8_number (l : Launch) (G : GG) (a : Nat → Nat) (c : JX) (hc : OkJ c) (x : Int32) (y : Int32) (hne : qNe c ≤ qTy c) (sz : Nat) : Met l yX8_number wsX8_number ({ frames := 3, cells := 0, slots := 0, locals := 65 }) (va_Pc [.ref (a 0), .int x, .int y] (fun U => PreM G (WM G a c) sz U U.heap)) (Qm G.1 vwCl (some (.int (nI ((jNu (qTx c) (qTy c) (qNe c) (qTo c) (qPl c) (qVa c) (qFa c) x y).1)))) (WM G a (wRJ c (jNu (qTx c) (qTy c) (qNe c) (qTo c) (qPl c) (qVa c) (qFa c) x y).2)) (va_A (WM G a c) sz)) 0 0 (va_A (WM G a c) sz) := by
  refine Met.ofW (cc := cX8_number) (maxL := 3) (ret := (some .int)) (by decide) rfl ?_
  intro p e s m args below meth cd s₁ BB hml hv
  obtain ⟨rfl, ⟨hP, hK, hN⟩, hD0, hsz⟩ := hv
  have hx := BB.exec
  have hb := BB.bytes
  have hr := BB.returns
  have hts := atoms_spec (ws := wsX8_number) BB.pre
  have hown : s.vm.findClass RX8 = some m.cls := findClass_of_methodNamed BB.named
  have hlocks := BB.notSynchronized
  have hrc : 0 + 0 ≤ (headSpec wsX8_number ({ frames := 3, cells := 0, slots := 0, locals := 65 })).room.cells := Nat.le_refl _
  have hrs : 0 + 0 ≤ (headSpec wsX8_number ({ frames := 3, cells := 0, slots := 0, locals := 65 })).room.slots := Nat.le_refl _
  subst hsz
  have hD := hD0.self (sz := s.heap.size)
  generalize hAe : va_A (WM G a c) s.heap.size = A at hD ⊢
  have hA : ∀ q : Nat, s.heap.size ≤ q → A q := fun q h => by rw [← hAe]; exact Or.inr h
  have hS : va_S A s.heap s.heap [] := va_S.rf
  obtain ⟨hk7, ho1, ho5, hl200, hr6, hu10⟩ := id hc
  have hin8 : ∀ w ∈ u_ws RX8 TX8 24, w ∈ wsX8_number := by decide +kernel
  have hf71 := hts (.fieldLink RX8 71 "RegaliaVotesModel" "token" "I") (by decide +kernel)
  have hf74 := hts (.fieldLink RX8 74 "RegaliaVotesModel" "value" "I") (by decide +kernel)
  refine wk_enter (n := 3) (Nat.le_of_ble_eq_true rfl) (fun ls hl => ?_)
  have hl : lv_has ls 3 [(0, .ref (a 0)), (1, .int x), (2, .int y)] := hl
  refine lv_aload_n hx hb dX8_number_0 rfl (lv_at hl 0 rfl) ?_
  refine lv_aload_n hx hb dX8_number_1 rfl (lv_at hl 0 rfl) ?_
  refine va_get (D := G.1) (v := .int (qTo c)) hx hb hts hin8 hown hK hP 0 (WM_0 G a c) rfl 5 (by decide) hf71 (fun _ h => h) rfl dX8_number_2 ?_
  refine lv_iconst (v := 2) hx hb dX8_number_5 (by decide) ?_
  refine lv_icmp_ne (tgt := 25) hx hb dX8_number_6 (by decide) (fun c6 => ?_) (fun c6 => ?_)
  · refine lv_iconst (v := 0) hx hb dX8_number_25 (by decide) ?_
    refine wk_callA (va_runV (As := [.int 0]) (rest := []) ⟨hx, hb, hml, hown, hts⟩ (c_X8_takes l G a c hc false (show qNe c ≤ qTy c by omega) s.heap.size) (cwV 1 hts gX8_number_X8_takes rfl rfl rfl hdV_X8_takes ⟨Nat.le_of_ble_eq_true rfl, Nat.le_of_ble_eq_true rfl⟩) ((PreM.mk hP hK hN hD).pre (ci := 8) (q0 := 0) rfl (WM_0 G a c)) rfl rfl hl.1 rfl (lv_room (Nat.le_of_ble_eq_true rfl)) dX8_number_26 ⟨hrc, hrs⟩) hD hS hA WM_fst (fun H locs hP hD hS => ?_)
    replace hP : va_P G.1 vwCl (WM G a (mkJ (qTr c) (qTx c) (qTy c) ((jTk (qTx c) (qTy c) (qNe c) (qTo c) (qPl c) (qVa c) (qFa c) false).2.1) ((jTk (qTx c) (qTy c) (qNe c) (qTo c) (qPl c) (qVa c) (qFa c) false).2.2.1) ((jTk (qTx c) (qTy c) (qNe c) (qTo c) (qPl c) (qVa c) (qFa c) false).2.2.2.1) ((jTk (qTx c) (qTy c) (qNe c) (qTo c) (qPl c) (qVa c) (qFa c) false).2.2.2.2.1) ((jTk (qTx c) (qTy c) (qNe c) (qTo c) (qPl c) (qVa c) (qFa c) false).2.2.2.2.2) (qN c) (qSo c) (qVo c) (qBi c) (qHo c) (qTd c) (qS c) (qW c) (qKe c) (qIk c) (qUn c) (qUm c) (qRb c) (qRi c) (qRm c))) H := hP
    replace hD : va_D A (WM G a (mkJ (qTr c) (qTx c) (qTy c) ((jTk (qTx c) (qTy c) (qNe c) (qTo c) (qPl c) (qVa c) (qFa c) false).2.1) ((jTk (qTx c) (qTy c) (qNe c) (qTo c) (qPl c) (qVa c) (qFa c) false).2.2.1) ((jTk (qTx c) (qTy c) (qNe c) (qTo c) (qPl c) (qVa c) (qFa c) false).2.2.2.1) ((jTk (qTx c) (qTy c) (qNe c) (qTo c) (qPl c) (qVa c) (qFa c) false).2.2.2.2.1) ((jTk (qTx c) (qTy c) (qNe c) (qTo c) (qPl c) (qVa c) (qFa c) false).2.2.2.2.2) (qN c) (qSo c) (qVo c) (qBi c) (qHo c) (qTd c) (qS c) (qW c) (qKe c) (qIk c) (qUn c) (qUm c) (qRb c) (qRi c) (qRm c))) := hD
    refine W.eq (g2 := F0 m 29 ls [.int (nI ((jTk (qTx c) (qTy c) (qNe c) (qTo c) (qPl c) (qVa c) (qFa c) false).1))]) rfl ?_
    generalize hz26 : jTk (qTx c) (qTy c) (qNe c) (qTo c) (qPl c) (qVa c) (qFa c) false = z26 at hP hD ⊢
    have hn26 : z26.2.1 ≤ qTy c := by rw [← hz26]; exact jTk_ne (by omega)
    exact wk_mret' hx hb hr hlocks dX8_number_29 hP hS (congrArg (fun z => some (Value.int (nI z.1))) (show jNu (qTx c) (qTy c) (qNe c) (qTo c) (qPl c) (qVa c) (qFa c) x y = z26 from by first | rw [jNu, show (decide (qTo c = 2) && pIn (nI (qVa c)) x y) = true from by simp [c6], hz26] | rw [jNu, show (decide (qTo c = 2) && pIn (nI (qVa c)) x y) = false from by simp [c6], hz26])) (congrArg (fun z => WM G a (wRJ c z.2)) (show jNu (qTx c) (qTy c) (qNe c) (qTo c) (qPl c) (qVa c) (qFa c) x y = z26 from by first | rw [jNu, show (decide (qTo c = 2) && pIn (nI (qVa c)) x y) = true from by simp [c6], hz26] | rw [jNu, show (decide (qTo c = 2) && pIn (nI (qVa c)) x y) = false from by simp [c6], hz26]))
  · refine lv_aload_n hx hb dX8_number_9 rfl (lv_at hl 0 rfl) ?_
    refine va_get (D := G.1) (v := .int (nI (qVa c))) hx hb hts hin8 hown hK hP 0 (WM_0 G a c) rfl 7 (by decide) hf74 (fun _ h => h) rfl dX8_number_10 ?_
    refine lv_iload_n hx hb dX8_number_13 rfl (lv_at hl 1 rfl) ?_
    refine lv_iload_n hx hb dX8_number_14 rfl (lv_at hl 2 rfl) ?_
    refine wk_read (va_runS (As := [.int (nI (qVa c)), .int x, .int y]) (rest := [.ref (a 0)]) ⟨hx, hb, hml, hown, hts⟩ (c_X8_in l (nI (qVa c)) x y) (va_cwS 3 hts gX8_number_X8_in rfl rfl rfl hdS_X8_in ⟨Nat.le_of_ble_eq_true rfl, Nat.le_of_ble_eq_true rfl⟩) preEq rfl rfl hl.1 rfl (lv_room (Nat.le_of_ble_eq_true rfl)) dX8_number_15 ⟨hrc, hrs⟩) ?_
    refine lv_if_eq (tgt := 25) hx hb dX8_number_18 (by decide) (fun c18 => ?_) (fun c18 => ?_)
    · have c18 := b2i_f c18
      refine lv_iconst (v := 0) hx hb dX8_number_25 (by decide) ?_
      refine wk_callA (va_runV (As := [.int 0]) (rest := []) ⟨hx, hb, hml, hown, hts⟩ (c_X8_takes l G a c hc false (show qNe c ≤ qTy c by omega) s.heap.size) (cwV 1 hts gX8_number_X8_takes rfl rfl rfl hdV_X8_takes ⟨Nat.le_of_ble_eq_true rfl, Nat.le_of_ble_eq_true rfl⟩) ((PreM.mk hP hK hN hD).pre (ci := 8) (q0 := 0) rfl (WM_0 G a c)) rfl rfl hl.1 rfl (lv_room (Nat.le_of_ble_eq_true rfl)) dX8_number_26 ⟨hrc, hrs⟩) hD hS hA WM_fst (fun H locs hP hD hS => ?_)
      replace hP : va_P G.1 vwCl (WM G a (mkJ (qTr c) (qTx c) (qTy c) ((jTk (qTx c) (qTy c) (qNe c) (qTo c) (qPl c) (qVa c) (qFa c) false).2.1) ((jTk (qTx c) (qTy c) (qNe c) (qTo c) (qPl c) (qVa c) (qFa c) false).2.2.1) ((jTk (qTx c) (qTy c) (qNe c) (qTo c) (qPl c) (qVa c) (qFa c) false).2.2.2.1) ((jTk (qTx c) (qTy c) (qNe c) (qTo c) (qPl c) (qVa c) (qFa c) false).2.2.2.2.1) ((jTk (qTx c) (qTy c) (qNe c) (qTo c) (qPl c) (qVa c) (qFa c) false).2.2.2.2.2) (qN c) (qSo c) (qVo c) (qBi c) (qHo c) (qTd c) (qS c) (qW c) (qKe c) (qIk c) (qUn c) (qUm c) (qRb c) (qRi c) (qRm c))) H := hP
      replace hD : va_D A (WM G a (mkJ (qTr c) (qTx c) (qTy c) ((jTk (qTx c) (qTy c) (qNe c) (qTo c) (qPl c) (qVa c) (qFa c) false).2.1) ((jTk (qTx c) (qTy c) (qNe c) (qTo c) (qPl c) (qVa c) (qFa c) false).2.2.1) ((jTk (qTx c) (qTy c) (qNe c) (qTo c) (qPl c) (qVa c) (qFa c) false).2.2.2.1) ((jTk (qTx c) (qTy c) (qNe c) (qTo c) (qPl c) (qVa c) (qFa c) false).2.2.2.2.1) ((jTk (qTx c) (qTy c) (qNe c) (qTo c) (qPl c) (qVa c) (qFa c) false).2.2.2.2.2) (qN c) (qSo c) (qVo c) (qBi c) (qHo c) (qTd c) (qS c) (qW c) (qKe c) (qIk c) (qUn c) (qUm c) (qRb c) (qRi c) (qRm c))) := hD
      refine W.eq (g2 := F0 m 29 ls [.int (nI ((jTk (qTx c) (qTy c) (qNe c) (qTo c) (qPl c) (qVa c) (qFa c) false).1))]) rfl ?_
      generalize hz26 : jTk (qTx c) (qTy c) (qNe c) (qTo c) (qPl c) (qVa c) (qFa c) false = z26 at hP hD ⊢
      have hn26 : z26.2.1 ≤ qTy c := by rw [← hz26]; exact jTk_ne (by omega)
      exact wk_mret' hx hb hr hlocks dX8_number_29 hP hS (congrArg (fun z => some (Value.int (nI z.1))) (show jNu (qTx c) (qTy c) (qNe c) (qTo c) (qPl c) (qVa c) (qFa c) x y = z26 from by first | rw [jNu, show (decide (qTo c = 2) && pIn (nI (qVa c)) x y) = true from by simp [c6, c18], hz26] | rw [jNu, show (decide (qTo c = 2) && pIn (nI (qVa c)) x y) = false from by simp [c6, c18], hz26])) (congrArg (fun z => WM G a (wRJ c z.2)) (show jNu (qTx c) (qTy c) (qNe c) (qTo c) (qPl c) (qVa c) (qFa c) x y = z26 from by first | rw [jNu, show (decide (qTo c = 2) && pIn (nI (qVa c)) x y) = true from by simp [c6, c18], hz26] | rw [jNu, show (decide (qTo c = 2) && pIn (nI (qVa c)) x y) = false from by simp [c6, c18], hz26]))
    · have c18 := b2i_t c18
      refine lv_iconst (v := 1) hx hb dX8_number_21 (by decide) ?_
      refine lv_goto (tgt := 26) hx hb dX8_number_22 (by decide) ?_
      refine wk_callA (va_runV (As := [.int 1]) (rest := []) ⟨hx, hb, hml, hown, hts⟩ (c_X8_takes l G a c hc true (show qNe c ≤ qTy c by omega) s.heap.size) (cwV 1 hts gX8_number_X8_takes rfl rfl rfl hdV_X8_takes ⟨Nat.le_of_ble_eq_true rfl, Nat.le_of_ble_eq_true rfl⟩) ((PreM.mk hP hK hN hD).pre (ci := 8) (q0 := 0) rfl (WM_0 G a c)) rfl rfl hl.1 rfl (lv_room (Nat.le_of_ble_eq_true rfl)) dX8_number_26 ⟨hrc, hrs⟩) hD hS hA WM_fst (fun H locs hP hD hS => ?_)
      replace hP : va_P G.1 vwCl (WM G a (mkJ (qTr c) (qTx c) (qTy c) ((jTk (qTx c) (qTy c) (qNe c) (qTo c) (qPl c) (qVa c) (qFa c) true).2.1) ((jTk (qTx c) (qTy c) (qNe c) (qTo c) (qPl c) (qVa c) (qFa c) true).2.2.1) ((jTk (qTx c) (qTy c) (qNe c) (qTo c) (qPl c) (qVa c) (qFa c) true).2.2.2.1) ((jTk (qTx c) (qTy c) (qNe c) (qTo c) (qPl c) (qVa c) (qFa c) true).2.2.2.2.1) ((jTk (qTx c) (qTy c) (qNe c) (qTo c) (qPl c) (qVa c) (qFa c) true).2.2.2.2.2) (qN c) (qSo c) (qVo c) (qBi c) (qHo c) (qTd c) (qS c) (qW c) (qKe c) (qIk c) (qUn c) (qUm c) (qRb c) (qRi c) (qRm c))) H := hP
      replace hD : va_D A (WM G a (mkJ (qTr c) (qTx c) (qTy c) ((jTk (qTx c) (qTy c) (qNe c) (qTo c) (qPl c) (qVa c) (qFa c) true).2.1) ((jTk (qTx c) (qTy c) (qNe c) (qTo c) (qPl c) (qVa c) (qFa c) true).2.2.1) ((jTk (qTx c) (qTy c) (qNe c) (qTo c) (qPl c) (qVa c) (qFa c) true).2.2.2.1) ((jTk (qTx c) (qTy c) (qNe c) (qTo c) (qPl c) (qVa c) (qFa c) true).2.2.2.2.1) ((jTk (qTx c) (qTy c) (qNe c) (qTo c) (qPl c) (qVa c) (qFa c) true).2.2.2.2.2) (qN c) (qSo c) (qVo c) (qBi c) (qHo c) (qTd c) (qS c) (qW c) (qKe c) (qIk c) (qUn c) (qUm c) (qRb c) (qRi c) (qRm c))) := hD
      refine W.eq (g2 := F0 m 29 ls [.int (nI ((jTk (qTx c) (qTy c) (qNe c) (qTo c) (qPl c) (qVa c) (qFa c) true).1))]) rfl ?_
      generalize hz26 : jTk (qTx c) (qTy c) (qNe c) (qTo c) (qPl c) (qVa c) (qFa c) true = z26 at hP hD ⊢
      have hn26 : z26.2.1 ≤ qTy c := by rw [← hz26]; exact jTk_ne (by omega)
      exact wk_mret' hx hb hr hlocks dX8_number_29 hP hS (congrArg (fun z => some (Value.int (nI z.1))) (show jNu (qTx c) (qTy c) (qNe c) (qTo c) (qPl c) (qVa c) (qFa c) x y = z26 from by first | rw [jNu, show (decide (qTo c = 2) && pIn (nI (qVa c)) x y) = true from by simp [c6, c18], hz26] | rw [jNu, show (decide (qTo c = 2) && pIn (nI (qVa c)) x y) = false from by simp [c6, c18], hz26])) (congrArg (fun z => WM G a (wRJ c z.2)) (show jNu (qTx c) (qTy c) (qNe c) (qTo c) (qPl c) (qVa c) (qFa c) x y = z26 from by first | rw [jNu, show (decide (qTo c = 2) && pIn (nI (qVa c)) x y) = true from by simp [c6, c18], hz26] | rw [jNu, show (decide (qTo c = 2) && pIn (nI (qVa c)) x y) = false from by simp [c6, c18], hz26]))
theorem hdV_X8_readsItem : yX8_readsItem.cls = RX8 ∧ yX8_readsItem.cls ≠ "java/lang/invoke/MethodHandle" ∧ yX8_readsItem.cls ≠ "java/lang/invoke/VarHandle" ∧ (parseMethodDescriptor yX8_readsItem.desc).map (fun d => d.parameters.length) = some 1 := by decide +kernel
set_option maxHeartbeats 600000 in
set_option maxRecDepth 100000 in
theorem c_X8_readsItem (l : Launch) (G : GG) (a : Nat → Nat) (c : JX) (hc : OkJ c) (w : Int32) (hne : qNe c ≤ qTy c) (h7 : w = 116 → qN c 3 < 7) (sz : Nat) : Met l yX8_readsItem wsX8_readsItem ({ frames := 4, cells := 0, slots := 0, locals := 87 }) (va_Pc [.ref (a 0), .int w] (fun U => PreM G (WM G a c) sz U U.heap)) (Qm G.1 vwCl (none) (WM G a (wSJ c (jIt (qTx c) (qTy c) w (qNe c, qTo c, qPl c, qVa c, qFa c) (qN c, qSo c, qVo c, qBi c, qHo c, qTd c)))) (va_A (WM G a c) sz)) 0 0 (va_A (WM G a c) sz) := by
  refine Met.ofW (cc := cX8_readsItem) (maxL := 3) (ret := none) (by decide) rfl ?_
  intro p e s m args below meth cd s₁ BB hml hv
  obtain ⟨rfl, ⟨hP, hK, hN⟩, hD0, hsz⟩ := hv
  have hx := BB.exec
  have hb := BB.bytes
  have hr := BB.returns
  have hts := atoms_spec (ws := wsX8_readsItem) BB.pre
  have hown : s.vm.findClass RX8 = some m.cls := findClass_of_methodNamed BB.named
  have hlocks := BB.notSynchronized
  have hrc : 0 + 0 ≤ (headSpec wsX8_readsItem ({ frames := 4, cells := 0, slots := 0, locals := 87 })).room.cells := Nat.le_refl _
  have hrs : 0 + 0 ≤ (headSpec wsX8_readsItem ({ frames := 4, cells := 0, slots := 0, locals := 87 })).room.slots := Nat.le_refl _
  subst hsz
  have hD := hD0.self (sz := s.heap.size)
  generalize hAe : va_A (WM G a c) s.heap.size = A at hD ⊢
  have hA : ∀ q : Nat, s.heap.size ≤ q → A q := fun q h => by rw [← hAe]; exact Or.inr h
  have hS : va_S A s.heap s.heap [] := va_S.rf
  obtain ⟨hk7, ho1, ho5, hl200, hr6, hu10⟩ := id hc
  have hin8 : ∀ w ∈ u_ws RX8 TX8 24, w ∈ wsX8_readsItem := by decide +kernel
  have hf13 := hts (.fieldLink RX8 13 "RegaliaVotesModel" "many" "[I") (by decide +kernel)
  have hf16 := hts (.fieldLink RX8 16 "RegaliaVotesModel" "sort" "[I") (by decide +kernel)
  have hf19 := hts (.fieldLink RX8 19 "RegaliaVotesModel" "votes" "[I") (by decide +kernel)
  have hf22 := hts (.fieldLink RX8 22 "RegaliaVotesModel" "bills" "[I") (by decide +kernel)
  have hf25 := hts (.fieldLink RX8 25 "RegaliaVotesModel" "holder" "[I") (by decide +kernel)
  have hf95 := hts (.fieldLink RX8 95 "RegaliaVotesModel" "isWarmthTold" "Z") (by decide +kernel)
  refine wk_enter (n := 3) (Nat.le_of_ble_eq_true rfl) (fun ls hl => ?_)
  have hl : lv_has ls 3 [(0, .ref (a 0)), (1, .int w)] := hl
  refine lv_iload_n hx hb dX8_readsItem_0 rfl (lv_at hl 1 rfl) ?_
  refine lv_bipush (v := 111) hx hb dX8_readsItem_1 (by decide) ?_
  refine lv_icmp_ne (tgt := 21) hx hb dX8_readsItem_3 (by decide) (fun c3 => ?_) (fun c3 => ?_)
  · refine lv_iload_n hx hb dX8_readsItem_21 rfl (lv_at hl 1 rfl) ?_
    refine lv_bipush (v := 116) hx hb dX8_readsItem_22 (by decide) ?_
    refine lv_icmp_ne (tgt := 113) hx hb dX8_readsItem_24 (by decide) (fun c24 => ?_) (fun c24 => ?_)
    · refine lv_aload_n hx hb dX8_readsItem_113 rfl (lv_at hl 0 rfl) ?_
      refine va_get (D := G.1) (v := .ref (a 1)) hx hb hts hin8 hown hK hP 0 (WM_0 G a c) rfl 9 (by decide) hf13 (fun _ h => h) rfl dX8_readsItem_114 ?_
      refine lv_iconst (v := 5) hx hb dX8_readsItem_117 (by decide) ?_
      refine lv_aload_n hx hb dX8_readsItem_118 rfl (lv_at hl 0 rfl) ?_
      refine lv_iconst (v := 0) hx hb dX8_readsItem_119 (by decide) ?_
      refine lv_bipush (v := 9) hx hb dX8_readsItem_120 (by decide) ?_
      refine wk_callA (va_runV (As := [.int 0, .int 9]) (rest := [.int 5, .ref (a 1)]) ⟨hx, hb, hml, hown, hts⟩ (c_X8_number l G a c hc 0 9 (show qNe c ≤ qTy c by omega) s.heap.size) (cwV 2 hts gX8_readsItem_X8_number rfl rfl rfl hdV_X8_number ⟨Nat.le_of_ble_eq_true rfl, Nat.le_of_ble_eq_true rfl⟩) ((PreM.mk hP hK hN hD).pre (ci := 8) (q0 := 0) rfl (WM_0 G a c)) rfl rfl hl.1 rfl (lv_room (Nat.le_of_ble_eq_true rfl)) dX8_readsItem_122 ⟨hrc, hrs⟩) hD hS hA WM_fst (fun H locs hP hD hS => ?_)
      replace hP : va_P G.1 vwCl (WM G a (mkJ (qTr c) (qTx c) (qTy c) ((jNu (qTx c) (qTy c) (qNe c) (qTo c) (qPl c) (qVa c) (qFa c) 0 9).2.1) ((jNu (qTx c) (qTy c) (qNe c) (qTo c) (qPl c) (qVa c) (qFa c) 0 9).2.2.1) ((jNu (qTx c) (qTy c) (qNe c) (qTo c) (qPl c) (qVa c) (qFa c) 0 9).2.2.2.1) ((jNu (qTx c) (qTy c) (qNe c) (qTo c) (qPl c) (qVa c) (qFa c) 0 9).2.2.2.2.1) ((jNu (qTx c) (qTy c) (qNe c) (qTo c) (qPl c) (qVa c) (qFa c) 0 9).2.2.2.2.2) (qN c) (qSo c) (qVo c) (qBi c) (qHo c) (qTd c) (qS c) (qW c) (qKe c) (qIk c) (qUn c) (qUm c) (qRb c) (qRi c) (qRm c))) H := hP
      replace hD : va_D A (WM G a (mkJ (qTr c) (qTx c) (qTy c) ((jNu (qTx c) (qTy c) (qNe c) (qTo c) (qPl c) (qVa c) (qFa c) 0 9).2.1) ((jNu (qTx c) (qTy c) (qNe c) (qTo c) (qPl c) (qVa c) (qFa c) 0 9).2.2.1) ((jNu (qTx c) (qTy c) (qNe c) (qTo c) (qPl c) (qVa c) (qFa c) 0 9).2.2.2.1) ((jNu (qTx c) (qTy c) (qNe c) (qTo c) (qPl c) (qVa c) (qFa c) 0 9).2.2.2.2.1) ((jNu (qTx c) (qTy c) (qNe c) (qTo c) (qPl c) (qVa c) (qFa c) 0 9).2.2.2.2.2) (qN c) (qSo c) (qVo c) (qBi c) (qHo c) (qTd c) (qS c) (qW c) (qKe c) (qIk c) (qUn c) (qUm c) (qRb c) (qRi c) (qRm c))) := hD
      refine W.eq (g2 := F0 m 125 ls [.int (nI ((jNu (qTx c) (qTy c) (qNe c) (qTo c) (qPl c) (qVa c) (qFa c) 0 9).1)), .int 5, .ref (a 1)]) rfl ?_
      generalize hz122 : jNu (qTx c) (qTy c) (qNe c) (qTo c) (qPl c) (qVa c) (qFa c) 0 9 = z122 at hP hD ⊢
      have hn122 : z122.2.1 ≤ qTy c := by rw [← hz122]; exact jTk_ne (by omega)
      refine wk_iast (i := 5) (x := nI z122.1) hx hb hK hP hD hS 1 1 (WM_1 G a (mkJ (qTr c) (qTx c) (qTy c) z122.2.1 z122.2.2.1 z122.2.2.2.1 z122.2.2.2.2.1 z122.2.2.2.2.2 (qN c) (qSo c) (qVo c) (qBi c) (qHo c) (qTd c) (qS c) (qW c) (qKe c) (qIk c) (qUn c) (qUm c) (qRb c) (qRi c) (qRm c))) rfl (by omega) (Nat.le_of_ble_eq_true rfl) dX8_readsItem_125 (fun H locs hP hD hS => ?_)
      rw [updN_eq] at hP hD
      rw [WMk_p1] at hP hD
      replace hP : va_P G.1 vwCl (WM G a (mkJ (qTr c) (qTx c) (qTy c) z122.2.1 z122.2.2.1 z122.2.2.2.1 z122.2.2.2.2.1 z122.2.2.2.2.2 (va_up (qN c) 5 z122.1) (qSo c) (qVo c) (qBi c) (qHo c) (qTd c) (qS c) (qW c) (qKe c) (qIk c) (qUn c) (qUm c) (qRb c) (qRi c) (qRm c))) H := hP
      replace hD : va_D A (WM G a (mkJ (qTr c) (qTx c) (qTy c) z122.2.1 z122.2.2.1 z122.2.2.2.1 z122.2.2.2.2.1 z122.2.2.2.2.2 (va_up (qN c) 5 z122.1) (qSo c) (qVo c) (qBi c) (qHo c) (qTd c) (qS c) (qW c) (qKe c) (qIk c) (qUn c) (qUm c) (qRb c) (qRi c) (qRm c))) := hD
      refine lv_aload_n hx hb dX8_readsItem_126 rfl (lv_at hl 0 rfl) ?_
      refine lv_iconst (v := 1) hx hb dX8_readsItem_127 (by decide) ?_
      refine va_put (D := G.1) (v := .int (b2i true)) (ty := .boolean) hx hb hts hin8 tyX8 tyX8_ok nmX8 hown hK hP hD hS 0 (WM_0 G a (mkJ (qTr c) (qTx c) (qTy c) z122.2.1 z122.2.2.1 z122.2.2.2.1 z122.2.2.2.2.1 z122.2.2.2.2.2 (va_up (qN c) 5 z122.1) (qSo c) (qVo c) (qBi c) (qHo c) (qTd c) (qS c) (qW c) (qKe c) (qIk c) (qUn c) (qUm c) (qRb c) (qRi c) (qRm c))) rfl 14 (by decide) hf95 (fun _ h => h) rfl (by decide +kernel) (b2i_nar _) (b2i_fit _) (Nat.le_of_ble_eq_true rfl) dX8_readsItem_128 (fun H locs hP hD hS => ?_)
      rw [WMk_p0_14] at hP hD
      replace hP : va_P G.1 vwCl (WM G a (mkJ (qTr c) (qTx c) (qTy c) z122.2.1 z122.2.2.1 z122.2.2.2.1 z122.2.2.2.2.1 z122.2.2.2.2.2 (va_up (qN c) 5 z122.1) (qSo c) (qVo c) (qBi c) (qHo c) true (qS c) (qW c) (qKe c) (qIk c) (qUn c) (qUm c) (qRb c) (qRi c) (qRm c))) H := hP
      replace hD : va_D A (WM G a (mkJ (qTr c) (qTx c) (qTy c) z122.2.1 z122.2.2.1 z122.2.2.2.1 z122.2.2.2.2.1 z122.2.2.2.2.2 (va_up (qN c) 5 z122.1) (qSo c) (qVo c) (qBi c) (qHo c) true (qS c) (qW c) (qKe c) (qIk c) (qUn c) (qUm c) (qRb c) (qRi c) (qRm c))) := hD
      exact wk_mvret' hx hb hr hlocks dX8_readsItem_131 hP hS (congrArg (WM G a) (show wSJ c (jIt (qTx c) (qTy c) w (qNe c, qTo c, qPl c, qVa c, qFa c) (qN c, qSo c, qVo c, qBi c, qHo c, qTd c)) = mkJ (qTr c) (qTx c) (qTy c) z122.2.1 z122.2.2.1 z122.2.2.2.1 z122.2.2.2.2.1 z122.2.2.2.2.2 (va_up (qN c) 5 z122.1) (qSo c) (qVo c) (qBi c) (qHo c) true (qS c) (qW c) (qKe c) (qIk c) (qUn c) (qUm c) (qRb c) (qRi c) (qRm c) from by rw [jIt, if_neg c3, if_neg c24]; simp only [hz122]; rfl))
    · have h79 := h7 c24
      refine lv_aload_n hx hb dX8_readsItem_27 rfl (lv_at hl 0 rfl) ?_
      refine va_get (D := G.1) (v := .ref (a 1)) hx hb hts hin8 hown hK hP 0 (WM_0 G a c) rfl 9 (by decide) hf13 (fun _ h => h) rfl dX8_readsItem_28 ?_
      refine lv_iconst (v := 3) hx hb dX8_readsItem_31 (by decide) ?_
      refine wk_iald (i := 3) hx hb hK hP 1 1 (WM_1 G a c) rfl (by omega) (Nat.le_of_ble_eq_true rfl) dX8_readsItem_32 ?_
      refine lv_istore_n (lv' := [(2, .int (nI (qN c 3))), (0, .ref (a 0)), (1, .int w)]) hx hb dX8_readsItem_33 rfl hl (by decide) rfl (fun ls hl => ?_)
      refine lv_aload_n hx hb dX8_readsItem_34 rfl (lv_at hl 1 rfl) ?_
      refine va_get (D := G.1) (v := .ref (a 2)) hx hb hts hin8 hown hK hP 0 (WM_0 G a c) rfl 10 (by decide) hf16 (fun _ h => h) rfl dX8_readsItem_35 ?_
      refine lv_bipush (v := 7) hx hb dX8_readsItem_38 (by decide) ?_
      refine lv_iload_n hx hb dX8_readsItem_40 rfl (lv_at hl 0 rfl) ?_
      refine wk_iadd (x := 7) (y := (qN c 3)) hx hb dX8_readsItem_41 ?_
      refine lv_aload_n hx hb dX8_readsItem_42 rfl (lv_at hl 1 rfl) ?_
      refine lv_iconst (v := 0) hx hb dX8_readsItem_43 (by decide) ?_
      refine lv_iconst (v := 3) hx hb dX8_readsItem_44 (by decide) ?_
      refine wk_callA (va_runV (As := [.int 0, .int 3]) (rest := [.int (nI (7 + (qN c 3))), .ref (a 2)]) ⟨hx, hb, hml, hown, hts⟩ (c_X8_number l G a c hc 0 3 (show qNe c ≤ qTy c by omega) s.heap.size) (cwV 2 hts gX8_readsItem_X8_number rfl rfl rfl hdV_X8_number ⟨Nat.le_of_ble_eq_true rfl, Nat.le_of_ble_eq_true rfl⟩) ((PreM.mk hP hK hN hD).pre (ci := 8) (q0 := 0) rfl (WM_0 G a c)) rfl rfl hl.1 rfl (lv_room (Nat.le_of_ble_eq_true rfl)) dX8_readsItem_45 ⟨hrc, hrs⟩) hD hS hA WM_fst (fun H locs hP hD hS => ?_)
      replace hP : va_P G.1 vwCl (WM G a (mkJ (qTr c) (qTx c) (qTy c) ((jNu (qTx c) (qTy c) (qNe c) (qTo c) (qPl c) (qVa c) (qFa c) 0 3).2.1) ((jNu (qTx c) (qTy c) (qNe c) (qTo c) (qPl c) (qVa c) (qFa c) 0 3).2.2.1) ((jNu (qTx c) (qTy c) (qNe c) (qTo c) (qPl c) (qVa c) (qFa c) 0 3).2.2.2.1) ((jNu (qTx c) (qTy c) (qNe c) (qTo c) (qPl c) (qVa c) (qFa c) 0 3).2.2.2.2.1) ((jNu (qTx c) (qTy c) (qNe c) (qTo c) (qPl c) (qVa c) (qFa c) 0 3).2.2.2.2.2) (qN c) (qSo c) (qVo c) (qBi c) (qHo c) (qTd c) (qS c) (qW c) (qKe c) (qIk c) (qUn c) (qUm c) (qRb c) (qRi c) (qRm c))) H := hP
      replace hD : va_D A (WM G a (mkJ (qTr c) (qTx c) (qTy c) ((jNu (qTx c) (qTy c) (qNe c) (qTo c) (qPl c) (qVa c) (qFa c) 0 3).2.1) ((jNu (qTx c) (qTy c) (qNe c) (qTo c) (qPl c) (qVa c) (qFa c) 0 3).2.2.1) ((jNu (qTx c) (qTy c) (qNe c) (qTo c) (qPl c) (qVa c) (qFa c) 0 3).2.2.2.1) ((jNu (qTx c) (qTy c) (qNe c) (qTo c) (qPl c) (qVa c) (qFa c) 0 3).2.2.2.2.1) ((jNu (qTx c) (qTy c) (qNe c) (qTo c) (qPl c) (qVa c) (qFa c) 0 3).2.2.2.2.2) (qN c) (qSo c) (qVo c) (qBi c) (qHo c) (qTd c) (qS c) (qW c) (qKe c) (qIk c) (qUn c) (qUm c) (qRb c) (qRi c) (qRm c))) := hD
      refine W.eq (g2 := F0 m 48 ls [.int (nI ((jNu (qTx c) (qTy c) (qNe c) (qTo c) (qPl c) (qVa c) (qFa c) 0 3).1)), .int (nI (7 + (qN c 3))), .ref (a 2)]) rfl ?_
      generalize hz45 : jNu (qTx c) (qTy c) (qNe c) (qTo c) (qPl c) (qVa c) (qFa c) 0 3 = z45 at hP hD ⊢
      have hn45 : z45.2.1 ≤ qTy c := by rw [← hz45]; exact jTk_ne (by omega)
      refine wk_iast (i := (7 + (qN c 3))) hx hb hK hP hD hS 2 1 (WM_2 G a (mkJ (qTr c) (qTx c) (qTy c) z45.2.1 z45.2.2.1 z45.2.2.2.1 z45.2.2.2.2.1 z45.2.2.2.2.2 (qN c) (qSo c) (qVo c) (qBi c) (qHo c) (qTd c) (qS c) (qW c) (qKe c) (qIk c) (qUn c) (qUm c) (qRb c) (qRi c) (qRm c))) rfl (by omega) (Nat.le_of_ble_eq_true rfl) dX8_readsItem_48 (fun H locs hP hD hS => ?_)
      rw [WMk_p2] at hP hD
      replace hP : va_P G.1 vwCl (WM G a (mkJ (qTr c) (qTx c) (qTy c) z45.2.1 z45.2.2.1 z45.2.2.2.1 z45.2.2.2.2.1 z45.2.2.2.2.2 (qN c) (upd (qSo c) (7 + (qN c 3)) (nI z45.1)) (qVo c) (qBi c) (qHo c) (qTd c) (qS c) (qW c) (qKe c) (qIk c) (qUn c) (qUm c) (qRb c) (qRi c) (qRm c))) H := hP
      replace hD : va_D A (WM G a (mkJ (qTr c) (qTx c) (qTy c) z45.2.1 z45.2.2.1 z45.2.2.2.1 z45.2.2.2.2.1 z45.2.2.2.2.2 (qN c) (upd (qSo c) (7 + (qN c 3)) (nI z45.1)) (qVo c) (qBi c) (qHo c) (qTd c) (qS c) (qW c) (qKe c) (qIk c) (qUn c) (qUm c) (qRb c) (qRi c) (qRm c))) := hD
      refine lv_aload_n hx hb dX8_readsItem_49 rfl (lv_at hl 1 rfl) ?_
      refine va_get (D := G.1) (v := .ref (a 3)) hx hb hts hin8 hown hK hP 0 (WM_0 G a (mkJ (qTr c) (qTx c) (qTy c) z45.2.1 z45.2.2.1 z45.2.2.2.1 z45.2.2.2.2.1 z45.2.2.2.2.2 (qN c) (upd (qSo c) (7 + (qN c 3)) (nI z45.1)) (qVo c) (qBi c) (qHo c) (qTd c) (qS c) (qW c) (qKe c) (qIk c) (qUn c) (qUm c) (qRb c) (qRi c) (qRm c))) rfl 11 (by decide) hf19 (fun _ h => h) rfl dX8_readsItem_50 ?_
      refine lv_bipush (v := 7) hx hb dX8_readsItem_53 (by decide) ?_
      refine lv_iload_n hx hb dX8_readsItem_55 rfl (lv_at hl 0 rfl) ?_
      refine wk_iadd (x := 7) (y := (qN c 3)) hx hb dX8_readsItem_56 ?_
      refine lv_aload_n hx hb dX8_readsItem_57 rfl (lv_at hl 1 rfl) ?_
      refine lv_iconst (v := 1) hx hb dX8_readsItem_58 (by decide) ?_
      refine lv_bipush (v := 9) hx hb dX8_readsItem_59 (by decide) ?_
      refine wk_callA (va_runV (As := [.int 1, .int 9]) (rest := [.int (nI (7 + (qN c 3))), .ref (a 3)]) ⟨hx, hb, hml, hown, hts⟩ (c_X8_number l G a (mkJ (qTr c) (qTx c) (qTy c) z45.2.1 z45.2.2.1 z45.2.2.2.1 z45.2.2.2.2.1 z45.2.2.2.2.2 (qN c) (upd (qSo c) (7 + (qN c 3)) (nI z45.1)) (qVo c) (qBi c) (qHo c) (qTd c) (qS c) (qW c) (qKe c) (qIk c) (qUn c) (qUm c) (qRb c) (qRi c) (qRm c)) (okJ_mk (by omega) (by omega) (by omega) (by omega) (by omega) (by omega)) 1 9 (show z45.2.1 ≤ qTy c by omega) H.size) (cwV 2 hts gX8_readsItem_X8_number rfl rfl rfl hdV_X8_number ⟨Nat.le_of_ble_eq_true rfl, Nat.le_of_ble_eq_true rfl⟩) ((PreM.mk hP hK hN hD).pre (ci := 8) (q0 := 0) rfl (WM_0 G a (mkJ (qTr c) (qTx c) (qTy c) z45.2.1 z45.2.2.1 z45.2.2.2.1 z45.2.2.2.2.1 z45.2.2.2.2.2 (qN c) (upd (qSo c) (7 + (qN c 3)) (nI z45.1)) (qVo c) (qBi c) (qHo c) (qTd c) (qS c) (qW c) (qKe c) (qIk c) (qUn c) (qUm c) (qRb c) (qRi c) (qRm c)))) rfl rfl hl.1 rfl (lv_room (Nat.le_of_ble_eq_true rfl)) dX8_readsItem_61 ⟨hrc, hrs⟩) hD hS hA WM_fst (fun H locs hP hD hS => ?_)
      replace hP : va_P G.1 vwCl (WM G a (mkJ (qTr c) (qTx c) (qTy c) ((jNu (qTx c) (qTy c) z45.2.1 z45.2.2.1 z45.2.2.2.1 z45.2.2.2.2.1 z45.2.2.2.2.2 1 9).2.1) ((jNu (qTx c) (qTy c) z45.2.1 z45.2.2.1 z45.2.2.2.1 z45.2.2.2.2.1 z45.2.2.2.2.2 1 9).2.2.1) ((jNu (qTx c) (qTy c) z45.2.1 z45.2.2.1 z45.2.2.2.1 z45.2.2.2.2.1 z45.2.2.2.2.2 1 9).2.2.2.1) ((jNu (qTx c) (qTy c) z45.2.1 z45.2.2.1 z45.2.2.2.1 z45.2.2.2.2.1 z45.2.2.2.2.2 1 9).2.2.2.2.1) ((jNu (qTx c) (qTy c) z45.2.1 z45.2.2.1 z45.2.2.2.1 z45.2.2.2.2.1 z45.2.2.2.2.2 1 9).2.2.2.2.2) (qN c) (upd (qSo c) (7 + (qN c 3)) (nI z45.1)) (qVo c) (qBi c) (qHo c) (qTd c) (qS c) (qW c) (qKe c) (qIk c) (qUn c) (qUm c) (qRb c) (qRi c) (qRm c))) H := hP
      replace hD : va_D A (WM G a (mkJ (qTr c) (qTx c) (qTy c) ((jNu (qTx c) (qTy c) z45.2.1 z45.2.2.1 z45.2.2.2.1 z45.2.2.2.2.1 z45.2.2.2.2.2 1 9).2.1) ((jNu (qTx c) (qTy c) z45.2.1 z45.2.2.1 z45.2.2.2.1 z45.2.2.2.2.1 z45.2.2.2.2.2 1 9).2.2.1) ((jNu (qTx c) (qTy c) z45.2.1 z45.2.2.1 z45.2.2.2.1 z45.2.2.2.2.1 z45.2.2.2.2.2 1 9).2.2.2.1) ((jNu (qTx c) (qTy c) z45.2.1 z45.2.2.1 z45.2.2.2.1 z45.2.2.2.2.1 z45.2.2.2.2.2 1 9).2.2.2.2.1) ((jNu (qTx c) (qTy c) z45.2.1 z45.2.2.1 z45.2.2.2.1 z45.2.2.2.2.1 z45.2.2.2.2.2 1 9).2.2.2.2.2) (qN c) (upd (qSo c) (7 + (qN c 3)) (nI z45.1)) (qVo c) (qBi c) (qHo c) (qTd c) (qS c) (qW c) (qKe c) (qIk c) (qUn c) (qUm c) (qRb c) (qRi c) (qRm c))) := hD
      refine W.eq (g2 := F0 m 64 ls [.int (nI ((jNu (qTx c) (qTy c) z45.2.1 z45.2.2.1 z45.2.2.2.1 z45.2.2.2.2.1 z45.2.2.2.2.2 1 9).1)), .int (nI (7 + (qN c 3))), .ref (a 3)]) rfl ?_
      generalize hz61 : jNu (qTx c) (qTy c) z45.2.1 z45.2.2.1 z45.2.2.2.1 z45.2.2.2.2.1 z45.2.2.2.2.2 1 9 = z61 at hP hD ⊢
      have hn61 : z61.2.1 ≤ qTy c := by rw [← hz61]; exact jTk_ne (by omega)
      refine wk_iast (i := (7 + (qN c 3))) hx hb hK hP hD hS 3 1 (WM_3 G a (mkJ (qTr c) (qTx c) (qTy c) z61.2.1 z61.2.2.1 z61.2.2.2.1 z61.2.2.2.2.1 z61.2.2.2.2.2 (qN c) (upd (qSo c) (7 + (qN c 3)) (nI z45.1)) (qVo c) (qBi c) (qHo c) (qTd c) (qS c) (qW c) (qKe c) (qIk c) (qUn c) (qUm c) (qRb c) (qRi c) (qRm c))) rfl (by omega) (Nat.le_of_ble_eq_true rfl) dX8_readsItem_64 (fun H locs hP hD hS => ?_)
      rw [WMk_p3] at hP hD
      replace hP : va_P G.1 vwCl (WM G a (mkJ (qTr c) (qTx c) (qTy c) z61.2.1 z61.2.2.1 z61.2.2.2.1 z61.2.2.2.2.1 z61.2.2.2.2.2 (qN c) (upd (qSo c) (7 + (qN c 3)) (nI z45.1)) (upd (qVo c) (7 + (qN c 3)) (nI z61.1)) (qBi c) (qHo c) (qTd c) (qS c) (qW c) (qKe c) (qIk c) (qUn c) (qUm c) (qRb c) (qRi c) (qRm c))) H := hP
      replace hD : va_D A (WM G a (mkJ (qTr c) (qTx c) (qTy c) z61.2.1 z61.2.2.1 z61.2.2.2.1 z61.2.2.2.2.1 z61.2.2.2.2.2 (qN c) (upd (qSo c) (7 + (qN c 3)) (nI z45.1)) (upd (qVo c) (7 + (qN c 3)) (nI z61.1)) (qBi c) (qHo c) (qTd c) (qS c) (qW c) (qKe c) (qIk c) (qUn c) (qUm c) (qRb c) (qRi c) (qRm c))) := hD
      refine lv_aload_n hx hb dX8_readsItem_65 rfl (lv_at hl 1 rfl) ?_
      refine va_get (D := G.1) (v := .ref (a 4)) hx hb hts hin8 hown hK hP 0 (WM_0 G a (mkJ (qTr c) (qTx c) (qTy c) z61.2.1 z61.2.2.1 z61.2.2.2.1 z61.2.2.2.2.1 z61.2.2.2.2.2 (qN c) (upd (qSo c) (7 + (qN c 3)) (nI z45.1)) (upd (qVo c) (7 + (qN c 3)) (nI z61.1)) (qBi c) (qHo c) (qTd c) (qS c) (qW c) (qKe c) (qIk c) (qUn c) (qUm c) (qRb c) (qRi c) (qRm c))) rfl 12 (by decide) hf22 (fun _ h => h) rfl dX8_readsItem_66 ?_
      refine lv_bipush (v := 7) hx hb dX8_readsItem_69 (by decide) ?_
      refine lv_iload_n hx hb dX8_readsItem_71 rfl (lv_at hl 0 rfl) ?_
      refine wk_iadd (x := 7) (y := (qN c 3)) hx hb dX8_readsItem_72 ?_
      refine lv_aload_n hx hb dX8_readsItem_73 rfl (lv_at hl 1 rfl) ?_
      refine lv_iconst (v := 0) hx hb dX8_readsItem_74 (by decide) ?_
      refine lv_bipush (v := 31) hx hb dX8_readsItem_75 (by decide) ?_
      refine wk_callA (va_runV (As := [.int 0, .int 31]) (rest := [.int (nI (7 + (qN c 3))), .ref (a 4)]) ⟨hx, hb, hml, hown, hts⟩ (c_X8_number l G a (mkJ (qTr c) (qTx c) (qTy c) z61.2.1 z61.2.2.1 z61.2.2.2.1 z61.2.2.2.2.1 z61.2.2.2.2.2 (qN c) (upd (qSo c) (7 + (qN c 3)) (nI z45.1)) (upd (qVo c) (7 + (qN c 3)) (nI z61.1)) (qBi c) (qHo c) (qTd c) (qS c) (qW c) (qKe c) (qIk c) (qUn c) (qUm c) (qRb c) (qRi c) (qRm c)) (okJ_mk (by omega) (by omega) (by omega) (by omega) (by omega) (by omega)) 0 31 (show z61.2.1 ≤ qTy c by omega) H.size) (cwV 2 hts gX8_readsItem_X8_number rfl rfl rfl hdV_X8_number ⟨Nat.le_of_ble_eq_true rfl, Nat.le_of_ble_eq_true rfl⟩) ((PreM.mk hP hK hN hD).pre (ci := 8) (q0 := 0) rfl (WM_0 G a (mkJ (qTr c) (qTx c) (qTy c) z61.2.1 z61.2.2.1 z61.2.2.2.1 z61.2.2.2.2.1 z61.2.2.2.2.2 (qN c) (upd (qSo c) (7 + (qN c 3)) (nI z45.1)) (upd (qVo c) (7 + (qN c 3)) (nI z61.1)) (qBi c) (qHo c) (qTd c) (qS c) (qW c) (qKe c) (qIk c) (qUn c) (qUm c) (qRb c) (qRi c) (qRm c)))) rfl rfl hl.1 rfl (lv_room (Nat.le_of_ble_eq_true rfl)) dX8_readsItem_77 ⟨hrc, hrs⟩) hD hS hA WM_fst (fun H locs hP hD hS => ?_)
      replace hP : va_P G.1 vwCl (WM G a (mkJ (qTr c) (qTx c) (qTy c) ((jNu (qTx c) (qTy c) z61.2.1 z61.2.2.1 z61.2.2.2.1 z61.2.2.2.2.1 z61.2.2.2.2.2 0 31).2.1) ((jNu (qTx c) (qTy c) z61.2.1 z61.2.2.1 z61.2.2.2.1 z61.2.2.2.2.1 z61.2.2.2.2.2 0 31).2.2.1) ((jNu (qTx c) (qTy c) z61.2.1 z61.2.2.1 z61.2.2.2.1 z61.2.2.2.2.1 z61.2.2.2.2.2 0 31).2.2.2.1) ((jNu (qTx c) (qTy c) z61.2.1 z61.2.2.1 z61.2.2.2.1 z61.2.2.2.2.1 z61.2.2.2.2.2 0 31).2.2.2.2.1) ((jNu (qTx c) (qTy c) z61.2.1 z61.2.2.1 z61.2.2.2.1 z61.2.2.2.2.1 z61.2.2.2.2.2 0 31).2.2.2.2.2) (qN c) (upd (qSo c) (7 + (qN c 3)) (nI z45.1)) (upd (qVo c) (7 + (qN c 3)) (nI z61.1)) (qBi c) (qHo c) (qTd c) (qS c) (qW c) (qKe c) (qIk c) (qUn c) (qUm c) (qRb c) (qRi c) (qRm c))) H := hP
      replace hD : va_D A (WM G a (mkJ (qTr c) (qTx c) (qTy c) ((jNu (qTx c) (qTy c) z61.2.1 z61.2.2.1 z61.2.2.2.1 z61.2.2.2.2.1 z61.2.2.2.2.2 0 31).2.1) ((jNu (qTx c) (qTy c) z61.2.1 z61.2.2.1 z61.2.2.2.1 z61.2.2.2.2.1 z61.2.2.2.2.2 0 31).2.2.1) ((jNu (qTx c) (qTy c) z61.2.1 z61.2.2.1 z61.2.2.2.1 z61.2.2.2.2.1 z61.2.2.2.2.2 0 31).2.2.2.1) ((jNu (qTx c) (qTy c) z61.2.1 z61.2.2.1 z61.2.2.2.1 z61.2.2.2.2.1 z61.2.2.2.2.2 0 31).2.2.2.2.1) ((jNu (qTx c) (qTy c) z61.2.1 z61.2.2.1 z61.2.2.2.1 z61.2.2.2.2.1 z61.2.2.2.2.2 0 31).2.2.2.2.2) (qN c) (upd (qSo c) (7 + (qN c 3)) (nI z45.1)) (upd (qVo c) (7 + (qN c 3)) (nI z61.1)) (qBi c) (qHo c) (qTd c) (qS c) (qW c) (qKe c) (qIk c) (qUn c) (qUm c) (qRb c) (qRi c) (qRm c))) := hD
      refine W.eq (g2 := F0 m 80 ls [.int (nI ((jNu (qTx c) (qTy c) z61.2.1 z61.2.2.1 z61.2.2.2.1 z61.2.2.2.2.1 z61.2.2.2.2.2 0 31).1)), .int (nI (7 + (qN c 3))), .ref (a 4)]) rfl ?_
      generalize hz77 : jNu (qTx c) (qTy c) z61.2.1 z61.2.2.1 z61.2.2.2.1 z61.2.2.2.2.1 z61.2.2.2.2.2 0 31 = z77 at hP hD ⊢
      have hn77 : z77.2.1 ≤ qTy c := by rw [← hz77]; exact jTk_ne (by omega)
      refine wk_iast (i := (7 + (qN c 3))) hx hb hK hP hD hS 4 1 (WM_4 G a (mkJ (qTr c) (qTx c) (qTy c) z77.2.1 z77.2.2.1 z77.2.2.2.1 z77.2.2.2.2.1 z77.2.2.2.2.2 (qN c) (upd (qSo c) (7 + (qN c 3)) (nI z45.1)) (upd (qVo c) (7 + (qN c 3)) (nI z61.1)) (qBi c) (qHo c) (qTd c) (qS c) (qW c) (qKe c) (qIk c) (qUn c) (qUm c) (qRb c) (qRi c) (qRm c))) rfl (by omega) (Nat.le_of_ble_eq_true rfl) dX8_readsItem_80 (fun H locs hP hD hS => ?_)
      rw [WMk_p4] at hP hD
      replace hP : va_P G.1 vwCl (WM G a (mkJ (qTr c) (qTx c) (qTy c) z77.2.1 z77.2.2.1 z77.2.2.2.1 z77.2.2.2.2.1 z77.2.2.2.2.2 (qN c) (upd (qSo c) (7 + (qN c 3)) (nI z45.1)) (upd (qVo c) (7 + (qN c 3)) (nI z61.1)) (upd (qBi c) (7 + (qN c 3)) (nI z77.1)) (qHo c) (qTd c) (qS c) (qW c) (qKe c) (qIk c) (qUn c) (qUm c) (qRb c) (qRi c) (qRm c))) H := hP
      replace hD : va_D A (WM G a (mkJ (qTr c) (qTx c) (qTy c) z77.2.1 z77.2.2.1 z77.2.2.2.1 z77.2.2.2.2.1 z77.2.2.2.2.2 (qN c) (upd (qSo c) (7 + (qN c 3)) (nI z45.1)) (upd (qVo c) (7 + (qN c 3)) (nI z61.1)) (upd (qBi c) (7 + (qN c 3)) (nI z77.1)) (qHo c) (qTd c) (qS c) (qW c) (qKe c) (qIk c) (qUn c) (qUm c) (qRb c) (qRi c) (qRm c))) := hD
      refine lv_aload_n hx hb dX8_readsItem_81 rfl (lv_at hl 1 rfl) ?_
      refine va_get (D := G.1) (v := .ref (a 10)) hx hb hts hin8 hown hK hP 0 (WM_0 G a (mkJ (qTr c) (qTx c) (qTy c) z77.2.1 z77.2.2.1 z77.2.2.2.1 z77.2.2.2.2.1 z77.2.2.2.2.2 (qN c) (upd (qSo c) (7 + (qN c 3)) (nI z45.1)) (upd (qVo c) (7 + (qN c 3)) (nI z61.1)) (upd (qBi c) (7 + (qN c 3)) (nI z77.1)) (qHo c) (qTd c) (qS c) (qW c) (qKe c) (qIk c) (qUn c) (qUm c) (qRb c) (qRi c) (qRm c))) rfl 13 (by decide) hf25 (fun _ h => h) rfl dX8_readsItem_82 ?_
      refine lv_iload_n hx hb dX8_readsItem_85 rfl (lv_at hl 0 rfl) ?_
      refine lv_aload_n hx hb dX8_readsItem_86 rfl (lv_at hl 1 rfl) ?_
      refine lv_iconst (v := 0) hx hb dX8_readsItem_87 (by decide) ?_
      refine lv_aload_n hx hb dX8_readsItem_88 rfl (lv_at hl 1 rfl) ?_
      refine va_get (D := G.1) (v := .ref (a 1)) hx hb hts hin8 hown hK hP 0 (WM_0 G a (mkJ (qTr c) (qTx c) (qTy c) z77.2.1 z77.2.2.1 z77.2.2.2.1 z77.2.2.2.2.1 z77.2.2.2.2.2 (qN c) (upd (qSo c) (7 + (qN c 3)) (nI z45.1)) (upd (qVo c) (7 + (qN c 3)) (nI z61.1)) (upd (qBi c) (7 + (qN c 3)) (nI z77.1)) (qHo c) (qTd c) (qS c) (qW c) (qKe c) (qIk c) (qUn c) (qUm c) (qRb c) (qRi c) (qRm c))) rfl 9 (by decide) hf13 (fun _ h => h) rfl dX8_readsItem_89 ?_
      refine lv_iconst (v := 4) hx hb dX8_readsItem_92 (by decide) ?_
      refine wk_iald (i := 4) hx hb hK hP 1 1 (WM_1 G a (mkJ (qTr c) (qTx c) (qTy c) z77.2.1 z77.2.2.1 z77.2.2.2.1 z77.2.2.2.2.1 z77.2.2.2.2.2 (qN c) (upd (qSo c) (7 + (qN c 3)) (nI z45.1)) (upd (qVo c) (7 + (qN c 3)) (nI z61.1)) (upd (qBi c) (7 + (qN c 3)) (nI z77.1)) (qHo c) (qTd c) (qS c) (qW c) (qKe c) (qIk c) (qUn c) (qUm c) (qRb c) (qRi c) (qRm c))) rfl (by omega) (Nat.le_of_ble_eq_true rfl) dX8_readsItem_93 ?_
      refine lv_iconst (v := 1) hx hb dX8_readsItem_94 (by decide) ?_
      refine lv_isub hx hb dX8_readsItem_95 ?_
      refine wk_callA (va_runV (As := [.int 0, .int ((nI (qN c 4)) - 1)]) (rest := [.int (nI (qN c 3)), .ref (a 10)]) ⟨hx, hb, hml, hown, hts⟩ (c_X8_number l G a (mkJ (qTr c) (qTx c) (qTy c) z77.2.1 z77.2.2.1 z77.2.2.2.1 z77.2.2.2.2.1 z77.2.2.2.2.2 (qN c) (upd (qSo c) (7 + (qN c 3)) (nI z45.1)) (upd (qVo c) (7 + (qN c 3)) (nI z61.1)) (upd (qBi c) (7 + (qN c 3)) (nI z77.1)) (qHo c) (qTd c) (qS c) (qW c) (qKe c) (qIk c) (qUn c) (qUm c) (qRb c) (qRi c) (qRm c)) (okJ_mk (by omega) (by omega) (by omega) (by omega) (by omega) (by omega)) 0 ((nI (qN c 4)) - 1) (show z77.2.1 ≤ qTy c by omega) H.size) (cwV 2 hts gX8_readsItem_X8_number rfl rfl rfl hdV_X8_number ⟨Nat.le_of_ble_eq_true rfl, Nat.le_of_ble_eq_true rfl⟩) ((PreM.mk hP hK hN hD).pre (ci := 8) (q0 := 0) rfl (WM_0 G a (mkJ (qTr c) (qTx c) (qTy c) z77.2.1 z77.2.2.1 z77.2.2.2.1 z77.2.2.2.2.1 z77.2.2.2.2.2 (qN c) (upd (qSo c) (7 + (qN c 3)) (nI z45.1)) (upd (qVo c) (7 + (qN c 3)) (nI z61.1)) (upd (qBi c) (7 + (qN c 3)) (nI z77.1)) (qHo c) (qTd c) (qS c) (qW c) (qKe c) (qIk c) (qUn c) (qUm c) (qRb c) (qRi c) (qRm c)))) rfl rfl hl.1 rfl (lv_room (Nat.le_of_ble_eq_true rfl)) dX8_readsItem_96 ⟨hrc, hrs⟩) hD hS hA WM_fst (fun H locs hP hD hS => ?_)
      replace hP : va_P G.1 vwCl (WM G a (mkJ (qTr c) (qTx c) (qTy c) ((jNu (qTx c) (qTy c) z77.2.1 z77.2.2.1 z77.2.2.2.1 z77.2.2.2.2.1 z77.2.2.2.2.2 0 ((nI (qN c 4)) - 1)).2.1) ((jNu (qTx c) (qTy c) z77.2.1 z77.2.2.1 z77.2.2.2.1 z77.2.2.2.2.1 z77.2.2.2.2.2 0 ((nI (qN c 4)) - 1)).2.2.1) ((jNu (qTx c) (qTy c) z77.2.1 z77.2.2.1 z77.2.2.2.1 z77.2.2.2.2.1 z77.2.2.2.2.2 0 ((nI (qN c 4)) - 1)).2.2.2.1) ((jNu (qTx c) (qTy c) z77.2.1 z77.2.2.1 z77.2.2.2.1 z77.2.2.2.2.1 z77.2.2.2.2.2 0 ((nI (qN c 4)) - 1)).2.2.2.2.1) ((jNu (qTx c) (qTy c) z77.2.1 z77.2.2.1 z77.2.2.2.1 z77.2.2.2.2.1 z77.2.2.2.2.2 0 ((nI (qN c 4)) - 1)).2.2.2.2.2) (qN c) (upd (qSo c) (7 + (qN c 3)) (nI z45.1)) (upd (qVo c) (7 + (qN c 3)) (nI z61.1)) (upd (qBi c) (7 + (qN c 3)) (nI z77.1)) (qHo c) (qTd c) (qS c) (qW c) (qKe c) (qIk c) (qUn c) (qUm c) (qRb c) (qRi c) (qRm c))) H := hP
      replace hD : va_D A (WM G a (mkJ (qTr c) (qTx c) (qTy c) ((jNu (qTx c) (qTy c) z77.2.1 z77.2.2.1 z77.2.2.2.1 z77.2.2.2.2.1 z77.2.2.2.2.2 0 ((nI (qN c 4)) - 1)).2.1) ((jNu (qTx c) (qTy c) z77.2.1 z77.2.2.1 z77.2.2.2.1 z77.2.2.2.2.1 z77.2.2.2.2.2 0 ((nI (qN c 4)) - 1)).2.2.1) ((jNu (qTx c) (qTy c) z77.2.1 z77.2.2.1 z77.2.2.2.1 z77.2.2.2.2.1 z77.2.2.2.2.2 0 ((nI (qN c 4)) - 1)).2.2.2.1) ((jNu (qTx c) (qTy c) z77.2.1 z77.2.2.1 z77.2.2.2.1 z77.2.2.2.2.1 z77.2.2.2.2.2 0 ((nI (qN c 4)) - 1)).2.2.2.2.1) ((jNu (qTx c) (qTy c) z77.2.1 z77.2.2.1 z77.2.2.2.1 z77.2.2.2.2.1 z77.2.2.2.2.2 0 ((nI (qN c 4)) - 1)).2.2.2.2.2) (qN c) (upd (qSo c) (7 + (qN c 3)) (nI z45.1)) (upd (qVo c) (7 + (qN c 3)) (nI z61.1)) (upd (qBi c) (7 + (qN c 3)) (nI z77.1)) (qHo c) (qTd c) (qS c) (qW c) (qKe c) (qIk c) (qUn c) (qUm c) (qRb c) (qRi c) (qRm c))) := hD
      refine W.eq (g2 := F0 m 99 ls [.int (nI ((jNu (qTx c) (qTy c) z77.2.1 z77.2.2.1 z77.2.2.2.1 z77.2.2.2.2.1 z77.2.2.2.2.2 0 ((nI (qN c 4)) - 1)).1)), .int (nI (qN c 3)), .ref (a 10)]) rfl ?_
      generalize hz96 : jNu (qTx c) (qTy c) z77.2.1 z77.2.2.1 z77.2.2.2.1 z77.2.2.2.2.1 z77.2.2.2.2.2 0 ((nI (qN c 4)) - 1) = z96 at hP hD ⊢
      have hn96 : z96.2.1 ≤ qTy c := by rw [← hz96]; exact jTk_ne (by omega)
      refine wk_iast (i := (qN c 3)) hx hb hK hP hD hS 10 1 (WM_10 G a (mkJ (qTr c) (qTx c) (qTy c) z96.2.1 z96.2.2.1 z96.2.2.2.1 z96.2.2.2.2.1 z96.2.2.2.2.2 (qN c) (upd (qSo c) (7 + (qN c 3)) (nI z45.1)) (upd (qVo c) (7 + (qN c 3)) (nI z61.1)) (upd (qBi c) (7 + (qN c 3)) (nI z77.1)) (qHo c) (qTd c) (qS c) (qW c) (qKe c) (qIk c) (qUn c) (qUm c) (qRb c) (qRi c) (qRm c))) rfl (by omega) (Nat.le_of_ble_eq_true rfl) dX8_readsItem_99 (fun H locs hP hD hS => ?_)
      rw [WMk_p10] at hP hD
      replace hP : va_P G.1 vwCl (WM G a (mkJ (qTr c) (qTx c) (qTy c) z96.2.1 z96.2.2.1 z96.2.2.2.1 z96.2.2.2.2.1 z96.2.2.2.2.2 (qN c) (upd (qSo c) (7 + (qN c 3)) (nI z45.1)) (upd (qVo c) (7 + (qN c 3)) (nI z61.1)) (upd (qBi c) (7 + (qN c 3)) (nI z77.1)) (upd (qHo c) (qN c 3) (nI z96.1)) (qTd c) (qS c) (qW c) (qKe c) (qIk c) (qUn c) (qUm c) (qRb c) (qRi c) (qRm c))) H := hP
      replace hD : va_D A (WM G a (mkJ (qTr c) (qTx c) (qTy c) z96.2.1 z96.2.2.1 z96.2.2.2.1 z96.2.2.2.2.1 z96.2.2.2.2.2 (qN c) (upd (qSo c) (7 + (qN c 3)) (nI z45.1)) (upd (qVo c) (7 + (qN c 3)) (nI z61.1)) (upd (qBi c) (7 + (qN c 3)) (nI z77.1)) (upd (qHo c) (qN c 3) (nI z96.1)) (qTd c) (qS c) (qW c) (qKe c) (qIk c) (qUn c) (qUm c) (qRb c) (qRi c) (qRm c))) := hD
      refine lv_aload_n hx hb dX8_readsItem_100 rfl (lv_at hl 1 rfl) ?_
      refine va_get (D := G.1) (v := .ref (a 1)) hx hb hts hin8 hown hK hP 0 (WM_0 G a (mkJ (qTr c) (qTx c) (qTy c) z96.2.1 z96.2.2.1 z96.2.2.2.1 z96.2.2.2.2.1 z96.2.2.2.2.2 (qN c) (upd (qSo c) (7 + (qN c 3)) (nI z45.1)) (upd (qVo c) (7 + (qN c 3)) (nI z61.1)) (upd (qBi c) (7 + (qN c 3)) (nI z77.1)) (upd (qHo c) (qN c 3) (nI z96.1)) (qTd c) (qS c) (qW c) (qKe c) (qIk c) (qUn c) (qUm c) (qRb c) (qRi c) (qRm c))) rfl 9 (by decide) hf13 (fun _ h => h) rfl dX8_readsItem_101 ?_
      refine lv_iconst (v := 3) hx hb dX8_readsItem_104 (by decide) ?_
      refine lv_dup2_11 hx hb dX8_readsItem_105 rfl rfl ?_
      refine wk_iald (i := 3) hx hb hK hP 1 1 (WM_1 G a (mkJ (qTr c) (qTx c) (qTy c) z96.2.1 z96.2.2.1 z96.2.2.2.1 z96.2.2.2.2.1 z96.2.2.2.2.2 (qN c) (upd (qSo c) (7 + (qN c 3)) (nI z45.1)) (upd (qVo c) (7 + (qN c 3)) (nI z61.1)) (upd (qBi c) (7 + (qN c 3)) (nI z77.1)) (upd (qHo c) (qN c 3) (nI z96.1)) (qTd c) (qS c) (qW c) (qKe c) (qIk c) (qUn c) (qUm c) (qRb c) (qRi c) (qRm c))) rfl (by omega) (Nat.le_of_ble_eq_true rfl) dX8_readsItem_106 ?_
      refine lv_iconst (v := 1) hx hb dX8_readsItem_107 (by decide) ?_
      refine wk_iadd (x := (qN c 3)) (y := 1) hx hb dX8_readsItem_108 ?_
      refine wk_iast (i := 3) (x := nI ((qN c 3) + 1)) hx hb hK hP hD hS 1 1 (WM_1 G a (mkJ (qTr c) (qTx c) (qTy c) z96.2.1 z96.2.2.1 z96.2.2.2.1 z96.2.2.2.2.1 z96.2.2.2.2.2 (qN c) (upd (qSo c) (7 + (qN c 3)) (nI z45.1)) (upd (qVo c) (7 + (qN c 3)) (nI z61.1)) (upd (qBi c) (7 + (qN c 3)) (nI z77.1)) (upd (qHo c) (qN c 3) (nI z96.1)) (qTd c) (qS c) (qW c) (qKe c) (qIk c) (qUn c) (qUm c) (qRb c) (qRi c) (qRm c))) rfl (by omega) (Nat.le_of_ble_eq_true rfl) dX8_readsItem_109 (fun H locs hP hD hS => ?_)
      rw [updN_eq] at hP hD
      rw [WMk_p1] at hP hD
      replace hP : va_P G.1 vwCl (WM G a (mkJ (qTr c) (qTx c) (qTy c) z96.2.1 z96.2.2.1 z96.2.2.2.1 z96.2.2.2.2.1 z96.2.2.2.2.2 (va_up (qN c) 3 ((qN c 3) + 1)) (upd (qSo c) (7 + (qN c 3)) (nI z45.1)) (upd (qVo c) (7 + (qN c 3)) (nI z61.1)) (upd (qBi c) (7 + (qN c 3)) (nI z77.1)) (upd (qHo c) (qN c 3) (nI z96.1)) (qTd c) (qS c) (qW c) (qKe c) (qIk c) (qUn c) (qUm c) (qRb c) (qRi c) (qRm c))) H := hP
      replace hD : va_D A (WM G a (mkJ (qTr c) (qTx c) (qTy c) z96.2.1 z96.2.2.1 z96.2.2.2.1 z96.2.2.2.2.1 z96.2.2.2.2.2 (va_up (qN c) 3 ((qN c 3) + 1)) (upd (qSo c) (7 + (qN c 3)) (nI z45.1)) (upd (qVo c) (7 + (qN c 3)) (nI z61.1)) (upd (qBi c) (7 + (qN c 3)) (nI z77.1)) (upd (qHo c) (qN c 3) (nI z96.1)) (qTd c) (qS c) (qW c) (qKe c) (qIk c) (qUn c) (qUm c) (qRb c) (qRi c) (qRm c))) := hD
      refine lv_goto (tgt := 131) hx hb dX8_readsItem_110 (by decide) ?_
      exact wk_mvret' hx hb hr hlocks dX8_readsItem_131 hP hS (congrArg (WM G a) (show wSJ c (jIt (qTx c) (qTy c) w (qNe c, qTo c, qPl c, qVa c, qFa c) (qN c, qSo c, qVo c, qBi c, qHo c, qTd c)) = mkJ (qTr c) (qTx c) (qTy c) z96.2.1 z96.2.2.1 z96.2.2.2.1 z96.2.2.2.2.1 z96.2.2.2.2.2 (va_up (qN c) 3 ((qN c 3) + 1)) (upd (qSo c) (7 + (qN c 3)) (nI z45.1)) (upd (qVo c) (7 + (qN c 3)) (nI z61.1)) (upd (qBi c) (7 + (qN c 3)) (nI z77.1)) (upd (qHo c) (qN c 3) (nI z96.1)) (qTd c) (qS c) (qW c) (qKe c) (qIk c) (qUn c) (qUm c) (qRb c) (qRi c) (qRm c) from by rw [jIt, if_neg c3, if_pos c24]; simp only [hz45, hz61, hz77, hz96]; rfl))
  · refine lv_aload_n hx hb dX8_readsItem_6 rfl (lv_at hl 0 rfl) ?_
    refine va_get (D := G.1) (v := .ref (a 1)) hx hb hts hin8 hown hK hP 0 (WM_0 G a c) rfl 9 (by decide) hf13 (fun _ h => h) rfl dX8_readsItem_7 ?_
    refine lv_iconst (v := 4) hx hb dX8_readsItem_10 (by decide) ?_
    refine lv_aload_n hx hb dX8_readsItem_11 rfl (lv_at hl 0 rfl) ?_
    refine lv_iconst (v := 1) hx hb dX8_readsItem_12 (by decide) ?_
    refine lv_iconst (v := 5) hx hb dX8_readsItem_13 (by decide) ?_
    refine wk_callA (va_runV (As := [.int 1, .int 5]) (rest := [.int 4, .ref (a 1)]) ⟨hx, hb, hml, hown, hts⟩ (c_X8_number l G a c hc 1 5 (show qNe c ≤ qTy c by omega) s.heap.size) (cwV 2 hts gX8_readsItem_X8_number rfl rfl rfl hdV_X8_number ⟨Nat.le_of_ble_eq_true rfl, Nat.le_of_ble_eq_true rfl⟩) ((PreM.mk hP hK hN hD).pre (ci := 8) (q0 := 0) rfl (WM_0 G a c)) rfl rfl hl.1 rfl (lv_room (Nat.le_of_ble_eq_true rfl)) dX8_readsItem_14 ⟨hrc, hrs⟩) hD hS hA WM_fst (fun H locs hP hD hS => ?_)
    replace hP : va_P G.1 vwCl (WM G a (mkJ (qTr c) (qTx c) (qTy c) ((jNu (qTx c) (qTy c) (qNe c) (qTo c) (qPl c) (qVa c) (qFa c) 1 5).2.1) ((jNu (qTx c) (qTy c) (qNe c) (qTo c) (qPl c) (qVa c) (qFa c) 1 5).2.2.1) ((jNu (qTx c) (qTy c) (qNe c) (qTo c) (qPl c) (qVa c) (qFa c) 1 5).2.2.2.1) ((jNu (qTx c) (qTy c) (qNe c) (qTo c) (qPl c) (qVa c) (qFa c) 1 5).2.2.2.2.1) ((jNu (qTx c) (qTy c) (qNe c) (qTo c) (qPl c) (qVa c) (qFa c) 1 5).2.2.2.2.2) (qN c) (qSo c) (qVo c) (qBi c) (qHo c) (qTd c) (qS c) (qW c) (qKe c) (qIk c) (qUn c) (qUm c) (qRb c) (qRi c) (qRm c))) H := hP
    replace hD : va_D A (WM G a (mkJ (qTr c) (qTx c) (qTy c) ((jNu (qTx c) (qTy c) (qNe c) (qTo c) (qPl c) (qVa c) (qFa c) 1 5).2.1) ((jNu (qTx c) (qTy c) (qNe c) (qTo c) (qPl c) (qVa c) (qFa c) 1 5).2.2.1) ((jNu (qTx c) (qTy c) (qNe c) (qTo c) (qPl c) (qVa c) (qFa c) 1 5).2.2.2.1) ((jNu (qTx c) (qTy c) (qNe c) (qTo c) (qPl c) (qVa c) (qFa c) 1 5).2.2.2.2.1) ((jNu (qTx c) (qTy c) (qNe c) (qTo c) (qPl c) (qVa c) (qFa c) 1 5).2.2.2.2.2) (qN c) (qSo c) (qVo c) (qBi c) (qHo c) (qTd c) (qS c) (qW c) (qKe c) (qIk c) (qUn c) (qUm c) (qRb c) (qRi c) (qRm c))) := hD
    refine W.eq (g2 := F0 m 17 ls [.int (nI ((jNu (qTx c) (qTy c) (qNe c) (qTo c) (qPl c) (qVa c) (qFa c) 1 5).1)), .int 4, .ref (a 1)]) rfl ?_
    generalize hz14 : jNu (qTx c) (qTy c) (qNe c) (qTo c) (qPl c) (qVa c) (qFa c) 1 5 = z14 at hP hD ⊢
    have hn14 : z14.2.1 ≤ qTy c := by rw [← hz14]; exact jTk_ne (by omega)
    refine wk_iast (i := 4) (x := nI z14.1) hx hb hK hP hD hS 1 1 (WM_1 G a (mkJ (qTr c) (qTx c) (qTy c) z14.2.1 z14.2.2.1 z14.2.2.2.1 z14.2.2.2.2.1 z14.2.2.2.2.2 (qN c) (qSo c) (qVo c) (qBi c) (qHo c) (qTd c) (qS c) (qW c) (qKe c) (qIk c) (qUn c) (qUm c) (qRb c) (qRi c) (qRm c))) rfl (by omega) (Nat.le_of_ble_eq_true rfl) dX8_readsItem_17 (fun H locs hP hD hS => ?_)
    rw [updN_eq] at hP hD
    rw [WMk_p1] at hP hD
    replace hP : va_P G.1 vwCl (WM G a (mkJ (qTr c) (qTx c) (qTy c) z14.2.1 z14.2.2.1 z14.2.2.2.1 z14.2.2.2.2.1 z14.2.2.2.2.2 (va_up (qN c) 4 z14.1) (qSo c) (qVo c) (qBi c) (qHo c) (qTd c) (qS c) (qW c) (qKe c) (qIk c) (qUn c) (qUm c) (qRb c) (qRi c) (qRm c))) H := hP
    replace hD : va_D A (WM G a (mkJ (qTr c) (qTx c) (qTy c) z14.2.1 z14.2.2.1 z14.2.2.2.1 z14.2.2.2.2.1 z14.2.2.2.2.2 (va_up (qN c) 4 z14.1) (qSo c) (qVo c) (qBi c) (qHo c) (qTd c) (qS c) (qW c) (qKe c) (qIk c) (qUn c) (qUm c) (qRb c) (qRi c) (qRm c))) := hD
    refine lv_goto (tgt := 131) hx hb dX8_readsItem_18 (by decide) ?_
    exact wk_mvret' hx hb hr hlocks dX8_readsItem_131 hP hS (congrArg (WM G a) (show wSJ c (jIt (qTx c) (qTy c) w (qNe c, qTo c, qPl c, qVa c, qFa c) (qN c, qSo c, qVo c, qBi c, qHo c, qTd c)) = mkJ (qTr c) (qTx c) (qTy c) z14.2.1 z14.2.2.1 z14.2.2.2.1 z14.2.2.2.2.1 z14.2.2.2.2.2 (va_up (qN c) 4 z14.1) (qSo c) (qVo c) (qBi c) (qHo c) (qTd c) (qS c) (qW c) (qKe c) (qIk c) (qUn c) (qUm c) (qRb c) (qRi c) (qRm c) from by rw [jIt, if_pos c3]; simp only [hz14]; rfl))
theorem hdV_X8_settles : yX8_settles.cls = RX8 ∧ yX8_settles.cls ≠ "java/lang/invoke/MethodHandle" ∧ yX8_settles.cls ≠ "java/lang/invoke/VarHandle" ∧ (parseMethodDescriptor yX8_settles.desc).map (fun d => d.parameters.length) = some 0 := by decide +kernel
set_option maxHeartbeats 600000 in
set_option maxRecDepth 100000 in
theorem c_X8_settles (l : Launch) (G : GG) (a : Nat → Nat) (c : JX) (hc : OkJ c) (h3 : qN c 3 ≤ 7) (sz : Nat) : Met l yX8_settles wsX8_settles ({ frames := 0, cells := 0, slots := 0, locals := 0 }) (va_Pc [.ref (a 0)] (fun U => PreM G (WM G a c) sz U U.heap)) (Qm G.1 vwCl (none) (WM G a (wSet c)) (va_A (WM G a c) sz)) 0 0 (va_A (WM G a c) sz) := by
  refine Met.ofW (cc := cX8_settles) (maxL := 2) (ret := none) (by decide) rfl ?_
  intro p e s m args below meth cd s₁ BB hml hv
  obtain ⟨rfl, ⟨hP, hK, hN⟩, hD0, hsz⟩ := hv
  have hx := BB.exec
  have hb := BB.bytes
  have hr := BB.returns
  have hts := atoms_spec (ws := wsX8_settles) BB.pre
  have hown : s.vm.findClass RX8 = some m.cls := findClass_of_methodNamed BB.named
  have hlocks := BB.notSynchronized
  have hrc : 0 + 0 ≤ (headSpec wsX8_settles ({ frames := 0, cells := 0, slots := 0, locals := 0 })).room.cells := Nat.le_refl _
  have hrs : 0 + 0 ≤ (headSpec wsX8_settles ({ frames := 0, cells := 0, slots := 0, locals := 0 })).room.slots := Nat.le_refl _
  subst hsz
  have hD := hD0.self (sz := s.heap.size)
  generalize hAe : va_A (WM G a c) s.heap.size = A at hD ⊢
  have hA : ∀ q : Nat, s.heap.size ≤ q → A q := fun q h => by rw [← hAe]; exact Or.inr h
  have hS : va_S A s.heap s.heap [] := va_S.rf
  obtain ⟨hk7, ho1, ho5, hl200, hr6, hu10⟩ := id hc
  have hin8 : ∀ w ∈ u_ws RX8 TX8 24, w ∈ wsX8_settles := by decide +kernel
  have hf13 := hts (.fieldLink RX8 13 "RegaliaVotesModel" "many" "[I") (by decide +kernel)
  have hf16 := hts (.fieldLink RX8 16 "RegaliaVotesModel" "sort" "[I") (by decide +kernel)
  have hf19 := hts (.fieldLink RX8 19 "RegaliaVotesModel" "votes" "[I") (by decide +kernel)
  have hf22 := hts (.fieldLink RX8 22 "RegaliaVotesModel" "bills" "[I") (by decide +kernel)
  have hf25 := hts (.fieldLink RX8 25 "RegaliaVotesModel" "holder" "[I") (by decide +kernel)
  have hf28 := hts (.fieldLink RX8 28 "RegaliaVotesModel" "s" "[I") (by decide +kernel)
  have hf37 := hts (.fieldLink RX8 37 "RegaliaVotesModel" "isKept" "[Z") (by decide +kernel)
  have hf58 := hts (.fieldLink RX8 58 "RegaliaVotesModel" "typed" "I") (by decide +kernel)
  have hf106 := hts (.fieldLink RX8 106 "RegaliaVotesModel" "recordMany" "I") (by decide +kernel)
  have hf109 := hts (.fieldLink RX8 109 "RegaliaVotesModel" "undoMany" "I") (by decide +kernel)
  have h30 := jSe1_30 (qN c)
  refine wk_enter (n := 2) (Nat.le_of_ble_eq_true rfl) (fun ls hl => ?_)
  have hl : lv_has ls 2 [(0, .ref (a 0))] := hl
  refine lv_iconst (v := 0) hx hb dX8_settles_0 (by decide) ?_
  refine lv_istore_n (lv' := [(1, .int 0), (0, .ref (a 0))]) hx hb dX8_settles_1 rfl hl (by decide) rfl (fun ls hl => ?_)
  have hP : va_P G.1 vwCl (WM G a (mkJ (qTr c) (qTx c) (qTy c) (qNe c) (qTo c) (qPl c) (qVa c) (qFa c) (jSe1 (qN c) 0) (qSo c) (qVo c) (qBi c) (qHo c) (qTd c) (qS c) (qW c) (qKe c) (qIk c) (qUn c) (qUm c) (qRb c) (qRi c) (qRm c))) s.heap := by rw [jSe1_0]; exact hP
  have hD : va_D A (WM G a (mkJ (qTr c) (qTx c) (qTy c) (qNe c) (qTo c) (qPl c) (qVa c) (qFa c) (jSe1 (qN c) 0) (qSo c) (qVo c) (qBi c) (qHo c) (qTd c) (qS c) (qW c) (qKe c) (qIk c) (qUn c) (qUm c) (qRb c) (qRi c) (qRm c))) := by rw [jSe1_0]; exact hD
  refine wk_loopM (σ := Nat) (nL := 2) (fun xσ n => match xσ with | i => i + n = 3) (fun xσ => match xσ with | i => [(1, .int (nI i)), (0, .ref (a 0))]) (fun xσ => match xσ with | i => WM G a (mkJ (qTr c) (qTx c) (qTy c) (qNe c) (qTo c) (qPl c) (qVa c) (qFa c) (jSe1 (qN c) i) (qSo c) (qVo c) (qBi c) (qHo c) (qTd c) (qS c) (qW c) (qKe c) (qIk c) (qUn c) (qUm c) (qRb c) (qRi c) (qRm c))) 0 3 (by omega) hl hP hD hS ?_
  rintro n2 i ls H locs hI2 hl hP hD hS ih2
  have hl : lv_has ls 2 [(1, .int (nI i)), (0, .ref (a 0))] := hl
  have hP : va_P G.1 vwCl (WM G a (mkJ (qTr c) (qTx c) (qTy c) (qNe c) (qTo c) (qPl c) (qVa c) (qFa c) (jSe1 (qN c) i) (qSo c) (qVo c) (qBi c) (qHo c) (qTd c) (qS c) (qW c) (qKe c) (qIk c) (qUn c) (qUm c) (qRb c) (qRi c) (qRm c))) H := hP
  have hD : va_D A (WM G a (mkJ (qTr c) (qTx c) (qTy c) (qNe c) (qTo c) (qPl c) (qVa c) (qFa c) (jSe1 (qN c) i) (qSo c) (qVo c) (qBi c) (qHo c) (qTd c) (qS c) (qW c) (qKe c) (qIk c) (qUn c) (qUm c) (qRb c) (qRi c) (qRm c))) := hD
  refine lv_iload_n hx hb dX8_settles_2 rfl (lv_at hl 0 rfl) ?_
  refine lv_iconst (v := 3) hx hb dX8_settles_3 (by decide) ?_
  refine wk_ge (x := i) (y := 3) (tgt := 27) hx hb (by omega) (by omega) dX8_settles_4 (by decide) (fun c4 => ?_) (fun c4 => ?_)
  · obtain rfl : i = 3 := by omega
    refine lv_iconst (v := 0) hx hb dX8_settles_27 (by decide) ?_
    refine lv_istore_n (lv' := [(1, .int 0), (0, .ref (a 0))]) hx hb dX8_settles_28 rfl hl (by decide) rfl (fun ls hl => ?_)
    have hP : va_P G.1 vwCl (WM G a (mkJ (qTr c) (qTx c) (qTy c) (qNe c) (qTo c) (qPl c) (qVa c) (qFa c) (jSe1 (qN c) 3) (qSo c) (qVo c) (qBi c) (qHo c) (qTd c) (fillN 0 (qS c) 0) (qW c) (qKe c) (qIk c) (qUn c) (qUm c) (qRb c) (qRi c) (qRm c))) H := by rw [fillN_0]; exact hP
    have hD : va_D A (WM G a (mkJ (qTr c) (qTx c) (qTy c) (qNe c) (qTo c) (qPl c) (qVa c) (qFa c) (jSe1 (qN c) 3) (qSo c) (qVo c) (qBi c) (qHo c) (qTd c) (fillN 0 (qS c) 0) (qW c) (qKe c) (qIk c) (qUn c) (qUm c) (qRb c) (qRi c) (qRm c))) := by rw [fillN_0]; exact hD
    refine wk_loopM (σ := Nat) (nL := 2) (fun xσ n => match xσ with | i => i + n = 19) (fun xσ => match xσ with | i => [(1, .int (nI i)), (0, .ref (a 0))]) (fun xσ => match xσ with | i => WM G a (mkJ (qTr c) (qTx c) (qTy c) (qNe c) (qTo c) (qPl c) (qVa c) (qFa c) (jSe1 (qN c) 3) (qSo c) (qVo c) (qBi c) (qHo c) (qTd c) (fillN 0 (qS c) i) (qW c) (qKe c) (qIk c) (qUn c) (qUm c) (qRb c) (qRi c) (qRm c))) 0 19 (by omega) hl hP hD hS ?_
    rintro n29 i ls H locs hI29 hl hP hD hS ih29
    have hl : lv_has ls 2 [(1, .int (nI i)), (0, .ref (a 0))] := hl
    have hP : va_P G.1 vwCl (WM G a (mkJ (qTr c) (qTx c) (qTy c) (qNe c) (qTo c) (qPl c) (qVa c) (qFa c) (jSe1 (qN c) 3) (qSo c) (qVo c) (qBi c) (qHo c) (qTd c) (fillN 0 (qS c) i) (qW c) (qKe c) (qIk c) (qUn c) (qUm c) (qRb c) (qRi c) (qRm c))) H := hP
    have hD : va_D A (WM G a (mkJ (qTr c) (qTx c) (qTy c) (qNe c) (qTo c) (qPl c) (qVa c) (qFa c) (jSe1 (qN c) 3) (qSo c) (qVo c) (qBi c) (qHo c) (qTd c) (fillN 0 (qS c) i) (qW c) (qKe c) (qIk c) (qUn c) (qUm c) (qRb c) (qRi c) (qRm c))) := hD
    refine lv_iload_n hx hb dX8_settles_29 rfl (lv_at hl 0 rfl) ?_
    refine lv_bipush (v := 19) hx hb dX8_settles_30 (by decide) ?_
    refine wk_ge (x := i) (y := 19) (tgt := 48) hx hb (by omega) (by omega) dX8_settles_32 (by decide) (fun c32 => ?_) (fun c32 => ?_)
    · obtain rfl : i = 19 := by omega
      refine lv_iconst (v := 0) hx hb dX8_settles_48 (by decide) ?_
      refine lv_istore_n (lv' := [(1, .int 0), (0, .ref (a 0))]) hx hb dX8_settles_49 rfl hl (by decide) rfl (fun ls hl => ?_)
      have hP : va_P G.1 vwCl (WM G a (mkJ (qTr c) (qTx c) (qTy c) (qNe c) (qTo c) (qPl c) (qVa c) (qFa c) (jSe1 (qN c) 3) (jSe3 (qSo c) 0) (jSe3 (qVo c) 0) (jSe3 (qBi c) 0) (qHo c) (qTd c) (jSeH (qHo c) (fillN 0 (qS c) 19) 0) (qW c) (qKe c) (qIk c) (qUn c) (qUm c) (qRb c) (qRi c) (qRm c))) H := hP
      have hD : va_D A (WM G a (mkJ (qTr c) (qTx c) (qTy c) (qNe c) (qTo c) (qPl c) (qVa c) (qFa c) (jSe1 (qN c) 3) (jSe3 (qSo c) 0) (jSe3 (qVo c) 0) (jSe3 (qBi c) 0) (qHo c) (qTd c) (jSeH (qHo c) (fillN 0 (qS c) 19) 0) (qW c) (qKe c) (qIk c) (qUn c) (qUm c) (qRb c) (qRi c) (qRm c))) := hD
      refine wk_loopM (σ := Nat) (nL := 2) (fun xσ n => match xσ with | i => i + n = qN c 3) (fun xσ => match xσ with | i => [(1, .int (nI i)), (0, .ref (a 0))]) (fun xσ => match xσ with | i => WM G a (mkJ (qTr c) (qTx c) (qTy c) (qNe c) (qTo c) (qPl c) (qVa c) (qFa c) (jSe1 (qN c) 3) (jSe3 (qSo c) i) (jSe3 (qVo c) i) (jSe3 (qBi c) i) (qHo c) (qTd c) (jSeH (qHo c) (fillN 0 (qS c) 19) i) (qW c) (qKe c) (qIk c) (qUn c) (qUm c) (qRb c) (qRi c) (qRm c))) 0 (qN c 3) (by omega) hl hP hD hS ?_
      rintro n50 i ls H locs hI50 hl hP hD hS ih50
      have hl : lv_has ls 2 [(1, .int (nI i)), (0, .ref (a 0))] := hl
      have hP : va_P G.1 vwCl (WM G a (mkJ (qTr c) (qTx c) (qTy c) (qNe c) (qTo c) (qPl c) (qVa c) (qFa c) (jSe1 (qN c) 3) (jSe3 (qSo c) i) (jSe3 (qVo c) i) (jSe3 (qBi c) i) (qHo c) (qTd c) (jSeH (qHo c) (fillN 0 (qS c) 19) i) (qW c) (qKe c) (qIk c) (qUn c) (qUm c) (qRb c) (qRi c) (qRm c))) H := hP
      have hD : va_D A (WM G a (mkJ (qTr c) (qTx c) (qTy c) (qNe c) (qTo c) (qPl c) (qVa c) (qFa c) (jSe1 (qN c) 3) (jSe3 (qSo c) i) (jSe3 (qVo c) i) (jSe3 (qBi c) i) (qHo c) (qTd c) (jSeH (qHo c) (fillN 0 (qS c) 19) i) (qW c) (qKe c) (qIk c) (qUn c) (qUm c) (qRb c) (qRi c) (qRm c))) := hD
      refine lv_iload_n hx hb dX8_settles_50 rfl (lv_at hl 0 rfl) ?_
      refine lv_aload_n hx hb dX8_settles_51 rfl (lv_at hl 1 rfl) ?_
      refine va_get (D := G.1) (v := .ref (a 1)) hx hb hts hin8 hown hK hP 0 (WM_0 G a (mkJ (qTr c) (qTx c) (qTy c) (qNe c) (qTo c) (qPl c) (qVa c) (qFa c) (jSe1 (qN c) 3) (jSe3 (qSo c) i) (jSe3 (qVo c) i) (jSe3 (qBi c) i) (qHo c) (qTd c) (jSeH (qHo c) (fillN 0 (qS c) 19) i) (qW c) (qKe c) (qIk c) (qUn c) (qUm c) (qRb c) (qRi c) (qRm c))) rfl 9 (by decide) hf13 (fun _ h => h) rfl dX8_settles_52 ?_
      refine lv_iconst (v := 0) hx hb dX8_settles_55 (by decide) ?_
      refine wk_iald (i := 0) hx hb hK hP 1 1 (WM_1 G a (mkJ (qTr c) (qTx c) (qTy c) (qNe c) (qTo c) (qPl c) (qVa c) (qFa c) (jSe1 (qN c) 3) (jSe3 (qSo c) i) (jSe3 (qVo c) i) (jSe3 (qBi c) i) (qHo c) (qTd c) (jSeH (qHo c) (fillN 0 (qS c) 19) i) (qW c) (qKe c) (qIk c) (qUn c) (qUm c) (qRb c) (qRi c) (qRm c))) rfl (by omega) (Nat.le_of_ble_eq_true rfl) dX8_settles_56 ?_
      refine wk_ge (x := i) (y := (jSe1 (qN c) 3 0)) (tgt := 125) hx hb (by omega) (by omega) dX8_settles_57 (by decide) (fun c57 => ?_) (fun c57 => ?_)
      · obtain rfl : i = qN c 3 := by omega
        refine lv_aload_n hx hb dX8_settles_125 rfl (lv_at hl 1 rfl) ?_
        refine lv_iconst (v := 0) hx hb dX8_settles_126 (by decide) ?_
        refine va_put (D := G.1) (v := .int (nI 0)) (ty := .int) hx hb hts hin8 tyX8 tyX8_ok nmX8 hown hK hP hD hS 0 (WM_0 G a (mkJ (qTr c) (qTx c) (qTy c) (qNe c) (qTo c) (qPl c) (qVa c) (qFa c) (jSe1 (qN c) 3) (jSe3 (qSo c) (qN c 3)) (jSe3 (qVo c) (qN c 3)) (jSe3 (qBi c) (qN c 3)) (qHo c) (qTd c) (jSeH (qHo c) (fillN 0 (qS c) 19) (qN c 3)) (qW c) (qKe c) (qIk c) (qUn c) (qUm c) (qRb c) (qRi c) (qRm c))) rfl 3 (by decide) hf58 (fun _ h => h) rfl (by decide +kernel) rfl rfl (Nat.le_of_ble_eq_true rfl) dX8_settles_127 (fun H locs hP hD hS => ?_)
        rw [WMk_p0_3] at hP hD
        replace hP : va_P G.1 vwCl (WM G a (mkJ (qTr c) (qTx c) 0 (qNe c) (qTo c) (qPl c) (qVa c) (qFa c) (jSe1 (qN c) 3) (jSe3 (qSo c) (qN c 3)) (jSe3 (qVo c) (qN c 3)) (jSe3 (qBi c) (qN c 3)) (qHo c) (qTd c) (jSeH (qHo c) (fillN 0 (qS c) 19) (qN c 3)) (qW c) (qKe c) (qIk c) (qUn c) (qUm c) (qRb c) (qRi c) (qRm c))) H := hP
        replace hD : va_D A (WM G a (mkJ (qTr c) (qTx c) 0 (qNe c) (qTo c) (qPl c) (qVa c) (qFa c) (jSe1 (qN c) 3) (jSe3 (qSo c) (qN c 3)) (jSe3 (qVo c) (qN c 3)) (jSe3 (qBi c) (qN c 3)) (qHo c) (qTd c) (jSeH (qHo c) (fillN 0 (qS c) 19) (qN c 3)) (qW c) (qKe c) (qIk c) (qUn c) (qUm c) (qRb c) (qRi c) (qRm c))) := hD
        refine lv_aload_n hx hb dX8_settles_130 rfl (lv_at hl 1 rfl) ?_
        refine lv_iconst (v := 0) hx hb dX8_settles_131 (by decide) ?_
        refine va_put (D := G.1) (v := .int (nI 0)) (ty := .int) hx hb hts hin8 tyX8 tyX8_ok nmX8 hown hK hP hD hS 0 (WM_0 G a (mkJ (qTr c) (qTx c) 0 (qNe c) (qTo c) (qPl c) (qVa c) (qFa c) (jSe1 (qN c) 3) (jSe3 (qSo c) (qN c 3)) (jSe3 (qVo c) (qN c 3)) (jSe3 (qBi c) (qN c 3)) (qHo c) (qTd c) (jSeH (qHo c) (fillN 0 (qS c) 19) (qN c 3)) (qW c) (qKe c) (qIk c) (qUn c) (qUm c) (qRb c) (qRi c) (qRm c))) rfl 23 (by decide) hf106 (fun _ h => h) rfl (by decide +kernel) rfl rfl (Nat.le_of_ble_eq_true rfl) dX8_settles_132 (fun H locs hP hD hS => ?_)
        rw [WMk_p0_23] at hP hD
        replace hP : va_P G.1 vwCl (WM G a (mkJ (qTr c) (qTx c) 0 (qNe c) (qTo c) (qPl c) (qVa c) (qFa c) (jSe1 (qN c) 3) (jSe3 (qSo c) (qN c 3)) (jSe3 (qVo c) (qN c 3)) (jSe3 (qBi c) (qN c 3)) (qHo c) (qTd c) (jSeH (qHo c) (fillN 0 (qS c) 19) (qN c 3)) (qW c) (qKe c) (qIk c) (qUn c) (qUm c) (qRb c) (qRi c) 0)) H := hP
        replace hD : va_D A (WM G a (mkJ (qTr c) (qTx c) 0 (qNe c) (qTo c) (qPl c) (qVa c) (qFa c) (jSe1 (qN c) 3) (jSe3 (qSo c) (qN c 3)) (jSe3 (qVo c) (qN c 3)) (jSe3 (qBi c) (qN c 3)) (qHo c) (qTd c) (jSeH (qHo c) (fillN 0 (qS c) 19) (qN c 3)) (qW c) (qKe c) (qIk c) (qUn c) (qUm c) (qRb c) (qRi c) 0)) := hD
        refine lv_aload_n hx hb dX8_settles_135 rfl (lv_at hl 1 rfl) ?_
        refine lv_iconst (v := 0) hx hb dX8_settles_136 (by decide) ?_
        refine va_put (D := G.1) (v := .int (nI 0)) (ty := .int) hx hb hts hin8 tyX8 tyX8_ok nmX8 hown hK hP hD hS 0 (WM_0 G a (mkJ (qTr c) (qTx c) 0 (qNe c) (qTo c) (qPl c) (qVa c) (qFa c) (jSe1 (qN c) 3) (jSe3 (qSo c) (qN c 3)) (jSe3 (qVo c) (qN c 3)) (jSe3 (qBi c) (qN c 3)) (qHo c) (qTd c) (jSeH (qHo c) (fillN 0 (qS c) 19) (qN c 3)) (qW c) (qKe c) (qIk c) (qUn c) (qUm c) (qRb c) (qRi c) 0)) rfl 20 (by decide) hf109 (fun _ h => h) rfl (by decide +kernel) rfl rfl (Nat.le_of_ble_eq_true rfl) dX8_settles_137 (fun H locs hP hD hS => ?_)
        rw [WMk_p0_20] at hP hD
        replace hP : va_P G.1 vwCl (WM G a (mkJ (qTr c) (qTx c) 0 (qNe c) (qTo c) (qPl c) (qVa c) (qFa c) (jSe1 (qN c) 3) (jSe3 (qSo c) (qN c 3)) (jSe3 (qVo c) (qN c 3)) (jSe3 (qBi c) (qN c 3)) (qHo c) (qTd c) (jSeH (qHo c) (fillN 0 (qS c) 19) (qN c 3)) (qW c) (qKe c) (qIk c) (qUn c) 0 (qRb c) (qRi c) 0)) H := hP
        replace hD : va_D A (WM G a (mkJ (qTr c) (qTx c) 0 (qNe c) (qTo c) (qPl c) (qVa c) (qFa c) (jSe1 (qN c) 3) (jSe3 (qSo c) (qN c 3)) (jSe3 (qVo c) (qN c 3)) (jSe3 (qBi c) (qN c 3)) (qHo c) (qTd c) (jSeH (qHo c) (fillN 0 (qS c) 19) (qN c 3)) (qW c) (qKe c) (qIk c) (qUn c) 0 (qRb c) (qRi c) 0)) := hD
        refine lv_aload_n hx hb dX8_settles_140 rfl (lv_at hl 1 rfl) ?_
        refine va_get (D := G.1) (v := .ref (a 12)) hx hb hts hin8 hown hK hP 0 (WM_0 G a (mkJ (qTr c) (qTx c) 0 (qNe c) (qTo c) (qPl c) (qVa c) (qFa c) (jSe1 (qN c) 3) (jSe3 (qSo c) (qN c 3)) (jSe3 (qVo c) (qN c 3)) (jSe3 (qBi c) (qN c 3)) (qHo c) (qTd c) (jSeH (qHo c) (fillN 0 (qS c) 19) (qN c 3)) (qW c) (qKe c) (qIk c) (qUn c) 0 (qRb c) (qRi c) 0)) rfl 18 (by decide) hf37 (fun _ h => h) rfl dX8_settles_141 ?_
        refine lv_iconst (v := 0) hx hb dX8_settles_144 (by decide) ?_
        refine lv_iconst (v := 0) hx hb dX8_settles_145 (by decide) ?_
        refine wk_zast (i := 0) (x := (b2i false)) hx hb hK hP hD hS 12 2 (WM_12 G a (mkJ (qTr c) (qTx c) 0 (qNe c) (qTo c) (qPl c) (qVa c) (qFa c) (jSe1 (qN c) 3) (jSe3 (qSo c) (qN c 3)) (jSe3 (qVo c) (qN c 3)) (jSe3 (qBi c) (qN c 3)) (qHo c) (qTd c) (jSeH (qHo c) (fillN 0 (qS c) 19) (qN c 3)) (qW c) (qKe c) (qIk c) (qUn c) 0 (qRb c) (qRi c) 0)) rfl (by omega) (Nat.le_of_ble_eq_true rfl) (b2i_vnar _) dX8_settles_146 (fun H locs hP hD hS => ?_)
        rw [updB_eq] at hP hD
        rw [WMk_p12] at hP hD
        replace hP : va_P G.1 vwCl (WM G a (mkJ (qTr c) (qTx c) 0 (qNe c) (qTo c) (qPl c) (qVa c) (qFa c) (jSe1 (qN c) 3) (jSe3 (qSo c) (qN c 3)) (jSe3 (qVo c) (qN c 3)) (jSe3 (qBi c) (qN c 3)) (qHo c) (qTd c) (jSeH (qHo c) (fillN 0 (qS c) 19) (qN c 3)) (qW c) (qKe c) (va_up (qIk c) 0 false) (qUn c) 0 (qRb c) (qRi c) 0)) H := hP
        replace hD : va_D A (WM G a (mkJ (qTr c) (qTx c) 0 (qNe c) (qTo c) (qPl c) (qVa c) (qFa c) (jSe1 (qN c) 3) (jSe3 (qSo c) (qN c 3)) (jSe3 (qVo c) (qN c 3)) (jSe3 (qBi c) (qN c 3)) (qHo c) (qTd c) (jSeH (qHo c) (fillN 0 (qS c) 19) (qN c 3)) (qW c) (qKe c) (va_up (qIk c) 0 false) (qUn c) 0 (qRb c) (qRi c) 0)) := hD
        refine lv_aload_n hx hb dX8_settles_147 rfl (lv_at hl 1 rfl) ?_
        refine va_get (D := G.1) (v := .ref (a 12)) hx hb hts hin8 hown hK hP 0 (WM_0 G a (mkJ (qTr c) (qTx c) 0 (qNe c) (qTo c) (qPl c) (qVa c) (qFa c) (jSe1 (qN c) 3) (jSe3 (qSo c) (qN c 3)) (jSe3 (qVo c) (qN c 3)) (jSe3 (qBi c) (qN c 3)) (qHo c) (qTd c) (jSeH (qHo c) (fillN 0 (qS c) 19) (qN c 3)) (qW c) (qKe c) (va_up (qIk c) 0 false) (qUn c) 0 (qRb c) (qRi c) 0)) rfl 18 (by decide) hf37 (fun _ h => h) rfl dX8_settles_148 ?_
        refine lv_iconst (v := 1) hx hb dX8_settles_151 (by decide) ?_
        refine lv_iconst (v := 0) hx hb dX8_settles_152 (by decide) ?_
        refine wk_zast (i := 1) (x := (b2i false)) hx hb hK hP hD hS 12 2 (WM_12 G a (mkJ (qTr c) (qTx c) 0 (qNe c) (qTo c) (qPl c) (qVa c) (qFa c) (jSe1 (qN c) 3) (jSe3 (qSo c) (qN c 3)) (jSe3 (qVo c) (qN c 3)) (jSe3 (qBi c) (qN c 3)) (qHo c) (qTd c) (jSeH (qHo c) (fillN 0 (qS c) 19) (qN c 3)) (qW c) (qKe c) (va_up (qIk c) 0 false) (qUn c) 0 (qRb c) (qRi c) 0)) rfl (by omega) (Nat.le_of_ble_eq_true rfl) (b2i_vnar _) dX8_settles_153 (fun H locs hP hD hS => ?_)
        rw [updB_eq] at hP hD
        rw [WMk_p12] at hP hD
        replace hP : va_P G.1 vwCl (WM G a (mkJ (qTr c) (qTx c) 0 (qNe c) (qTo c) (qPl c) (qVa c) (qFa c) (jSe1 (qN c) 3) (jSe3 (qSo c) (qN c 3)) (jSe3 (qVo c) (qN c 3)) (jSe3 (qBi c) (qN c 3)) (qHo c) (qTd c) (jSeH (qHo c) (fillN 0 (qS c) 19) (qN c 3)) (qW c) (qKe c) (va_up (va_up (qIk c) 0 false) 1 false) (qUn c) 0 (qRb c) (qRi c) 0)) H := hP
        replace hD : va_D A (WM G a (mkJ (qTr c) (qTx c) 0 (qNe c) (qTo c) (qPl c) (qVa c) (qFa c) (jSe1 (qN c) 3) (jSe3 (qSo c) (qN c 3)) (jSe3 (qVo c) (qN c 3)) (jSe3 (qBi c) (qN c 3)) (qHo c) (qTd c) (jSeH (qHo c) (fillN 0 (qS c) 19) (qN c 3)) (qW c) (qKe c) (va_up (va_up (qIk c) 0 false) 1 false) (qUn c) 0 (qRb c) (qRi c) 0)) := hD
        exact wk_mvret' hx hb hr hlocks dX8_settles_154 hP hS (congrArg (WM G a) (show wSet c = mkJ (qTr c) (qTx c) 0 (qNe c) (qTo c) (qPl c) (qVa c) (qFa c) (jSe1 (qN c) 3) (jSe3 (qSo c) (qN c 3)) (jSe3 (qVo c) (qN c 3)) (jSe3 (qBi c) (qN c 3)) (qHo c) (qTd c) (jSeH (qHo c) (fillN 0 (qS c) 19) (qN c 3)) (qW c) (qKe c) (va_up (va_up (qIk c) 0 false) 1 false) (qUn c) 0 (qRb c) (qRi c) 0 from rfl))
      · refine lv_aload_n hx hb dX8_settles_60 rfl (lv_at hl 1 rfl) ?_
        refine va_get (D := G.1) (v := .ref (a 2)) hx hb hts hin8 hown hK hP 0 (WM_0 G a (mkJ (qTr c) (qTx c) (qTy c) (qNe c) (qTo c) (qPl c) (qVa c) (qFa c) (jSe1 (qN c) 3) (jSe3 (qSo c) i) (jSe3 (qVo c) i) (jSe3 (qBi c) i) (qHo c) (qTd c) (jSeH (qHo c) (fillN 0 (qS c) 19) i) (qW c) (qKe c) (qIk c) (qUn c) (qUm c) (qRb c) (qRi c) (qRm c))) rfl 10 (by decide) hf16 (fun _ h => h) rfl dX8_settles_61 ?_
        refine lv_iload_n hx hb dX8_settles_64 rfl (lv_at hl 0 rfl) ?_
        refine lv_aload_n hx hb dX8_settles_65 rfl (lv_at hl 1 rfl) ?_
        refine va_get (D := G.1) (v := .ref (a 2)) hx hb hts hin8 hown hK hP 0 (WM_0 G a (mkJ (qTr c) (qTx c) (qTy c) (qNe c) (qTo c) (qPl c) (qVa c) (qFa c) (jSe1 (qN c) 3) (jSe3 (qSo c) i) (jSe3 (qVo c) i) (jSe3 (qBi c) i) (qHo c) (qTd c) (jSeH (qHo c) (fillN 0 (qS c) 19) i) (qW c) (qKe c) (qIk c) (qUn c) (qUm c) (qRb c) (qRi c) (qRm c))) rfl 10 (by decide) hf16 (fun _ h => h) rfl dX8_settles_66 ?_
        refine lv_bipush (v := 7) hx hb dX8_settles_69 (by decide) ?_
        refine lv_iload_n hx hb dX8_settles_71 rfl (lv_at hl 0 rfl) ?_
        refine wk_iadd (x := 7) (y := i) hx hb dX8_settles_72 ?_
        refine wk_iald (i := (7 + i)) hx hb hK hP 2 1 (WM_2 G a (mkJ (qTr c) (qTx c) (qTy c) (qNe c) (qTo c) (qPl c) (qVa c) (qFa c) (jSe1 (qN c) 3) (jSe3 (qSo c) i) (jSe3 (qVo c) i) (jSe3 (qBi c) i) (qHo c) (qTd c) (jSeH (qHo c) (fillN 0 (qS c) 19) i) (qW c) (qKe c) (qIk c) (qUn c) (qUm c) (qRb c) (qRi c) (qRm c))) rfl (by omega) (Nat.le_of_ble_eq_true rfl) dX8_settles_73 ?_
        refine wk_iast (i := i) hx hb hK hP hD hS 2 1 (WM_2 G a (mkJ (qTr c) (qTx c) (qTy c) (qNe c) (qTo c) (qPl c) (qVa c) (qFa c) (jSe1 (qN c) 3) (jSe3 (qSo c) i) (jSe3 (qVo c) i) (jSe3 (qBi c) i) (qHo c) (qTd c) (jSeH (qHo c) (fillN 0 (qS c) 19) i) (qW c) (qKe c) (qIk c) (qUn c) (qUm c) (qRb c) (qRi c) (qRm c))) rfl (by omega) (Nat.le_of_ble_eq_true rfl) dX8_settles_74 (fun H locs hP hD hS => ?_)
        rw [WMk_p2] at hP hD
        replace hP : va_P G.1 vwCl (WM G a (mkJ (qTr c) (qTx c) (qTy c) (qNe c) (qTo c) (qPl c) (qVa c) (qFa c) (jSe1 (qN c) 3) (upd (jSe3 (qSo c) i) i (jSe3 (qSo c) i (7 + i))) (jSe3 (qVo c) i) (jSe3 (qBi c) i) (qHo c) (qTd c) (jSeH (qHo c) (fillN 0 (qS c) 19) i) (qW c) (qKe c) (qIk c) (qUn c) (qUm c) (qRb c) (qRi c) (qRm c))) H := hP
        replace hD : va_D A (WM G a (mkJ (qTr c) (qTx c) (qTy c) (qNe c) (qTo c) (qPl c) (qVa c) (qFa c) (jSe1 (qN c) 3) (upd (jSe3 (qSo c) i) i (jSe3 (qSo c) i (7 + i))) (jSe3 (qVo c) i) (jSe3 (qBi c) i) (qHo c) (qTd c) (jSeH (qHo c) (fillN 0 (qS c) 19) i) (qW c) (qKe c) (qIk c) (qUn c) (qUm c) (qRb c) (qRi c) (qRm c))) := hD
        refine lv_aload_n hx hb dX8_settles_75 rfl (lv_at hl 1 rfl) ?_
        refine va_get (D := G.1) (v := .ref (a 3)) hx hb hts hin8 hown hK hP 0 (WM_0 G a (mkJ (qTr c) (qTx c) (qTy c) (qNe c) (qTo c) (qPl c) (qVa c) (qFa c) (jSe1 (qN c) 3) (upd (jSe3 (qSo c) i) i (jSe3 (qSo c) i (7 + i))) (jSe3 (qVo c) i) (jSe3 (qBi c) i) (qHo c) (qTd c) (jSeH (qHo c) (fillN 0 (qS c) 19) i) (qW c) (qKe c) (qIk c) (qUn c) (qUm c) (qRb c) (qRi c) (qRm c))) rfl 11 (by decide) hf19 (fun _ h => h) rfl dX8_settles_76 ?_
        refine lv_iload_n hx hb dX8_settles_79 rfl (lv_at hl 0 rfl) ?_
        refine lv_aload_n hx hb dX8_settles_80 rfl (lv_at hl 1 rfl) ?_
        refine va_get (D := G.1) (v := .ref (a 3)) hx hb hts hin8 hown hK hP 0 (WM_0 G a (mkJ (qTr c) (qTx c) (qTy c) (qNe c) (qTo c) (qPl c) (qVa c) (qFa c) (jSe1 (qN c) 3) (upd (jSe3 (qSo c) i) i (jSe3 (qSo c) i (7 + i))) (jSe3 (qVo c) i) (jSe3 (qBi c) i) (qHo c) (qTd c) (jSeH (qHo c) (fillN 0 (qS c) 19) i) (qW c) (qKe c) (qIk c) (qUn c) (qUm c) (qRb c) (qRi c) (qRm c))) rfl 11 (by decide) hf19 (fun _ h => h) rfl dX8_settles_81 ?_
        refine lv_bipush (v := 7) hx hb dX8_settles_84 (by decide) ?_
        refine lv_iload_n hx hb dX8_settles_86 rfl (lv_at hl 0 rfl) ?_
        refine wk_iadd (x := 7) (y := i) hx hb dX8_settles_87 ?_
        refine wk_iald (i := (7 + i)) hx hb hK hP 3 1 (WM_3 G a (mkJ (qTr c) (qTx c) (qTy c) (qNe c) (qTo c) (qPl c) (qVa c) (qFa c) (jSe1 (qN c) 3) (upd (jSe3 (qSo c) i) i (jSe3 (qSo c) i (7 + i))) (jSe3 (qVo c) i) (jSe3 (qBi c) i) (qHo c) (qTd c) (jSeH (qHo c) (fillN 0 (qS c) 19) i) (qW c) (qKe c) (qIk c) (qUn c) (qUm c) (qRb c) (qRi c) (qRm c))) rfl (by omega) (Nat.le_of_ble_eq_true rfl) dX8_settles_88 ?_
        refine wk_iast (i := i) hx hb hK hP hD hS 3 1 (WM_3 G a (mkJ (qTr c) (qTx c) (qTy c) (qNe c) (qTo c) (qPl c) (qVa c) (qFa c) (jSe1 (qN c) 3) (upd (jSe3 (qSo c) i) i (jSe3 (qSo c) i (7 + i))) (jSe3 (qVo c) i) (jSe3 (qBi c) i) (qHo c) (qTd c) (jSeH (qHo c) (fillN 0 (qS c) 19) i) (qW c) (qKe c) (qIk c) (qUn c) (qUm c) (qRb c) (qRi c) (qRm c))) rfl (by omega) (Nat.le_of_ble_eq_true rfl) dX8_settles_89 (fun H locs hP hD hS => ?_)
        rw [WMk_p3] at hP hD
        replace hP : va_P G.1 vwCl (WM G a (mkJ (qTr c) (qTx c) (qTy c) (qNe c) (qTo c) (qPl c) (qVa c) (qFa c) (jSe1 (qN c) 3) (upd (jSe3 (qSo c) i) i (jSe3 (qSo c) i (7 + i))) (upd (jSe3 (qVo c) i) i (jSe3 (qVo c) i (7 + i))) (jSe3 (qBi c) i) (qHo c) (qTd c) (jSeH (qHo c) (fillN 0 (qS c) 19) i) (qW c) (qKe c) (qIk c) (qUn c) (qUm c) (qRb c) (qRi c) (qRm c))) H := hP
        replace hD : va_D A (WM G a (mkJ (qTr c) (qTx c) (qTy c) (qNe c) (qTo c) (qPl c) (qVa c) (qFa c) (jSe1 (qN c) 3) (upd (jSe3 (qSo c) i) i (jSe3 (qSo c) i (7 + i))) (upd (jSe3 (qVo c) i) i (jSe3 (qVo c) i (7 + i))) (jSe3 (qBi c) i) (qHo c) (qTd c) (jSeH (qHo c) (fillN 0 (qS c) 19) i) (qW c) (qKe c) (qIk c) (qUn c) (qUm c) (qRb c) (qRi c) (qRm c))) := hD
        refine lv_aload_n hx hb dX8_settles_90 rfl (lv_at hl 1 rfl) ?_
        refine va_get (D := G.1) (v := .ref (a 4)) hx hb hts hin8 hown hK hP 0 (WM_0 G a (mkJ (qTr c) (qTx c) (qTy c) (qNe c) (qTo c) (qPl c) (qVa c) (qFa c) (jSe1 (qN c) 3) (upd (jSe3 (qSo c) i) i (jSe3 (qSo c) i (7 + i))) (upd (jSe3 (qVo c) i) i (jSe3 (qVo c) i (7 + i))) (jSe3 (qBi c) i) (qHo c) (qTd c) (jSeH (qHo c) (fillN 0 (qS c) 19) i) (qW c) (qKe c) (qIk c) (qUn c) (qUm c) (qRb c) (qRi c) (qRm c))) rfl 12 (by decide) hf22 (fun _ h => h) rfl dX8_settles_91 ?_
        refine lv_iload_n hx hb dX8_settles_94 rfl (lv_at hl 0 rfl) ?_
        refine lv_aload_n hx hb dX8_settles_95 rfl (lv_at hl 1 rfl) ?_
        refine va_get (D := G.1) (v := .ref (a 4)) hx hb hts hin8 hown hK hP 0 (WM_0 G a (mkJ (qTr c) (qTx c) (qTy c) (qNe c) (qTo c) (qPl c) (qVa c) (qFa c) (jSe1 (qN c) 3) (upd (jSe3 (qSo c) i) i (jSe3 (qSo c) i (7 + i))) (upd (jSe3 (qVo c) i) i (jSe3 (qVo c) i (7 + i))) (jSe3 (qBi c) i) (qHo c) (qTd c) (jSeH (qHo c) (fillN 0 (qS c) 19) i) (qW c) (qKe c) (qIk c) (qUn c) (qUm c) (qRb c) (qRi c) (qRm c))) rfl 12 (by decide) hf22 (fun _ h => h) rfl dX8_settles_96 ?_
        refine lv_bipush (v := 7) hx hb dX8_settles_99 (by decide) ?_
        refine lv_iload_n hx hb dX8_settles_101 rfl (lv_at hl 0 rfl) ?_
        refine wk_iadd (x := 7) (y := i) hx hb dX8_settles_102 ?_
        refine wk_iald (i := (7 + i)) hx hb hK hP 4 1 (WM_4 G a (mkJ (qTr c) (qTx c) (qTy c) (qNe c) (qTo c) (qPl c) (qVa c) (qFa c) (jSe1 (qN c) 3) (upd (jSe3 (qSo c) i) i (jSe3 (qSo c) i (7 + i))) (upd (jSe3 (qVo c) i) i (jSe3 (qVo c) i (7 + i))) (jSe3 (qBi c) i) (qHo c) (qTd c) (jSeH (qHo c) (fillN 0 (qS c) 19) i) (qW c) (qKe c) (qIk c) (qUn c) (qUm c) (qRb c) (qRi c) (qRm c))) rfl (by omega) (Nat.le_of_ble_eq_true rfl) dX8_settles_103 ?_
        refine wk_iast (i := i) hx hb hK hP hD hS 4 1 (WM_4 G a (mkJ (qTr c) (qTx c) (qTy c) (qNe c) (qTo c) (qPl c) (qVa c) (qFa c) (jSe1 (qN c) 3) (upd (jSe3 (qSo c) i) i (jSe3 (qSo c) i (7 + i))) (upd (jSe3 (qVo c) i) i (jSe3 (qVo c) i (7 + i))) (jSe3 (qBi c) i) (qHo c) (qTd c) (jSeH (qHo c) (fillN 0 (qS c) 19) i) (qW c) (qKe c) (qIk c) (qUn c) (qUm c) (qRb c) (qRi c) (qRm c))) rfl (by omega) (Nat.le_of_ble_eq_true rfl) dX8_settles_104 (fun H locs hP hD hS => ?_)
        rw [WMk_p4] at hP hD
        replace hP : va_P G.1 vwCl (WM G a (mkJ (qTr c) (qTx c) (qTy c) (qNe c) (qTo c) (qPl c) (qVa c) (qFa c) (jSe1 (qN c) 3) (upd (jSe3 (qSo c) i) i (jSe3 (qSo c) i (7 + i))) (upd (jSe3 (qVo c) i) i (jSe3 (qVo c) i (7 + i))) (upd (jSe3 (qBi c) i) i (jSe3 (qBi c) i (7 + i))) (qHo c) (qTd c) (jSeH (qHo c) (fillN 0 (qS c) 19) i) (qW c) (qKe c) (qIk c) (qUn c) (qUm c) (qRb c) (qRi c) (qRm c))) H := hP
        replace hD : va_D A (WM G a (mkJ (qTr c) (qTx c) (qTy c) (qNe c) (qTo c) (qPl c) (qVa c) (qFa c) (jSe1 (qN c) 3) (upd (jSe3 (qSo c) i) i (jSe3 (qSo c) i (7 + i))) (upd (jSe3 (qVo c) i) i (jSe3 (qVo c) i (7 + i))) (upd (jSe3 (qBi c) i) i (jSe3 (qBi c) i (7 + i))) (qHo c) (qTd c) (jSeH (qHo c) (fillN 0 (qS c) 19) i) (qW c) (qKe c) (qIk c) (qUn c) (qUm c) (qRb c) (qRi c) (qRm c))) := hD
        refine lv_aload_n hx hb dX8_settles_105 rfl (lv_at hl 1 rfl) ?_
        refine va_get (D := G.1) (v := .ref (a 5)) hx hb hts hin8 hown hK hP 0 (WM_0 G a (mkJ (qTr c) (qTx c) (qTy c) (qNe c) (qTo c) (qPl c) (qVa c) (qFa c) (jSe1 (qN c) 3) (upd (jSe3 (qSo c) i) i (jSe3 (qSo c) i (7 + i))) (upd (jSe3 (qVo c) i) i (jSe3 (qVo c) i (7 + i))) (upd (jSe3 (qBi c) i) i (jSe3 (qBi c) i (7 + i))) (qHo c) (qTd c) (jSeH (qHo c) (fillN 0 (qS c) 19) i) (qW c) (qKe c) (qIk c) (qUn c) (qUm c) (qRb c) (qRi c) (qRm c))) rfl 15 (by decide) hf28 (fun _ h => h) rfl dX8_settles_106 ?_
        refine lv_iconst (v := 0) hx hb dX8_settles_109 (by decide) ?_
        refine lv_iload_n hx hb dX8_settles_110 rfl (lv_at hl 0 rfl) ?_
        refine wk_add0 (x := i) hx hb dX8_settles_111 ?_
        refine lv_aload_n hx hb dX8_settles_112 rfl (lv_at hl 1 rfl) ?_
        refine va_get (D := G.1) (v := .ref (a 10)) hx hb hts hin8 hown hK hP 0 (WM_0 G a (mkJ (qTr c) (qTx c) (qTy c) (qNe c) (qTo c) (qPl c) (qVa c) (qFa c) (jSe1 (qN c) 3) (upd (jSe3 (qSo c) i) i (jSe3 (qSo c) i (7 + i))) (upd (jSe3 (qVo c) i) i (jSe3 (qVo c) i (7 + i))) (upd (jSe3 (qBi c) i) i (jSe3 (qBi c) i (7 + i))) (qHo c) (qTd c) (jSeH (qHo c) (fillN 0 (qS c) 19) i) (qW c) (qKe c) (qIk c) (qUn c) (qUm c) (qRb c) (qRi c) (qRm c))) rfl 13 (by decide) hf25 (fun _ h => h) rfl dX8_settles_113 ?_
        refine lv_iload_n hx hb dX8_settles_116 rfl (lv_at hl 0 rfl) ?_
        refine wk_iald (i := i) hx hb hK hP 10 1 (WM_10 G a (mkJ (qTr c) (qTx c) (qTy c) (qNe c) (qTo c) (qPl c) (qVa c) (qFa c) (jSe1 (qN c) 3) (upd (jSe3 (qSo c) i) i (jSe3 (qSo c) i (7 + i))) (upd (jSe3 (qVo c) i) i (jSe3 (qVo c) i (7 + i))) (upd (jSe3 (qBi c) i) i (jSe3 (qBi c) i (7 + i))) (qHo c) (qTd c) (jSeH (qHo c) (fillN 0 (qS c) 19) i) (qW c) (qKe c) (qIk c) (qUn c) (qUm c) (qRb c) (qRi c) (qRm c))) rfl (by omega) (Nat.le_of_ble_eq_true rfl) dX8_settles_117 ?_
        refine wk_iast (i := i) hx hb hK hP hD hS 5 1 (WM_5 G a (mkJ (qTr c) (qTx c) (qTy c) (qNe c) (qTo c) (qPl c) (qVa c) (qFa c) (jSe1 (qN c) 3) (upd (jSe3 (qSo c) i) i (jSe3 (qSo c) i (7 + i))) (upd (jSe3 (qVo c) i) i (jSe3 (qVo c) i (7 + i))) (upd (jSe3 (qBi c) i) i (jSe3 (qBi c) i (7 + i))) (qHo c) (qTd c) (jSeH (qHo c) (fillN 0 (qS c) 19) i) (qW c) (qKe c) (qIk c) (qUn c) (qUm c) (qRb c) (qRi c) (qRm c))) rfl (by omega) (Nat.le_of_ble_eq_true rfl) dX8_settles_118 (fun H locs hP hD hS => ?_)
        rw [WMk_p5] at hP hD
        replace hP : va_P G.1 vwCl (WM G a (mkJ (qTr c) (qTx c) (qTy c) (qNe c) (qTo c) (qPl c) (qVa c) (qFa c) (jSe1 (qN c) 3) (upd (jSe3 (qSo c) i) i (jSe3 (qSo c) i (7 + i))) (upd (jSe3 (qVo c) i) i (jSe3 (qVo c) i (7 + i))) (upd (jSe3 (qBi c) i) i (jSe3 (qBi c) i (7 + i))) (qHo c) (qTd c) (upd (jSeH (qHo c) (fillN 0 (qS c) 19) i) i (qHo c i)) (qW c) (qKe c) (qIk c) (qUn c) (qUm c) (qRb c) (qRi c) (qRm c))) H := hP
        replace hD : va_D A (WM G a (mkJ (qTr c) (qTx c) (qTy c) (qNe c) (qTo c) (qPl c) (qVa c) (qFa c) (jSe1 (qN c) 3) (upd (jSe3 (qSo c) i) i (jSe3 (qSo c) i (7 + i))) (upd (jSe3 (qVo c) i) i (jSe3 (qVo c) i (7 + i))) (upd (jSe3 (qBi c) i) i (jSe3 (qBi c) i (7 + i))) (qHo c) (qTd c) (upd (jSeH (qHo c) (fillN 0 (qS c) 19) i) i (qHo c i)) (qW c) (qKe c) (qIk c) (qUn c) (qUm c) (qRb c) (qRi c) (qRm c))) := hD
        refine lv_iinc (v := (nI (i + 1))) (lv' := [(1, .int (nI (i + 1))), (0, .ref (a 0))]) hx hb dX8_settles_119 hl (k := 0) rfl (wk_i1 i) (by decide) rfl (fun ls hl => ?_)
        refine lv_goto (tgt := 50) hx hb dX8_settles_122 (by decide) ?_
        rw [jSe3_s, jSe3_s, jSe3_s, jSeH_s] at hP hD
        exact ih50 (i + 1) (n50 - 1) ls H _ (by omega) (by omega) (lv_sub hl [0, 1] rfl) hP hD hS
    · refine lv_aload_n hx hb dX8_settles_35 rfl (lv_at hl 1 rfl) ?_
      refine va_get (D := G.1) (v := .ref (a 5)) hx hb hts hin8 hown hK hP 0 (WM_0 G a (mkJ (qTr c) (qTx c) (qTy c) (qNe c) (qTo c) (qPl c) (qVa c) (qFa c) (jSe1 (qN c) 3) (qSo c) (qVo c) (qBi c) (qHo c) (qTd c) (fillN 0 (qS c) i) (qW c) (qKe c) (qIk c) (qUn c) (qUm c) (qRb c) (qRi c) (qRm c))) rfl 15 (by decide) hf28 (fun _ h => h) rfl dX8_settles_36 ?_
      refine lv_iload_n hx hb dX8_settles_39 rfl (lv_at hl 0 rfl) ?_
      refine lv_iconst (v := 0) hx hb dX8_settles_40 (by decide) ?_
      refine wk_iast (i := i) hx hb hK hP hD hS 5 1 (WM_5 G a (mkJ (qTr c) (qTx c) (qTy c) (qNe c) (qTo c) (qPl c) (qVa c) (qFa c) (jSe1 (qN c) 3) (qSo c) (qVo c) (qBi c) (qHo c) (qTd c) (fillN 0 (qS c) i) (qW c) (qKe c) (qIk c) (qUn c) (qUm c) (qRb c) (qRi c) (qRm c))) rfl (by omega) (Nat.le_of_ble_eq_true rfl) dX8_settles_41 (fun H locs hP hD hS => ?_)
      rw [WMk_p5] at hP hD
      replace hP : va_P G.1 vwCl (WM G a (mkJ (qTr c) (qTx c) (qTy c) (qNe c) (qTo c) (qPl c) (qVa c) (qFa c) (jSe1 (qN c) 3) (qSo c) (qVo c) (qBi c) (qHo c) (qTd c) (upd (fillN 0 (qS c) i) i 0) (qW c) (qKe c) (qIk c) (qUn c) (qUm c) (qRb c) (qRi c) (qRm c))) H := hP
      replace hD : va_D A (WM G a (mkJ (qTr c) (qTx c) (qTy c) (qNe c) (qTo c) (qPl c) (qVa c) (qFa c) (jSe1 (qN c) 3) (qSo c) (qVo c) (qBi c) (qHo c) (qTd c) (upd (fillN 0 (qS c) i) i 0) (qW c) (qKe c) (qIk c) (qUn c) (qUm c) (qRb c) (qRi c) (qRm c))) := hD
      refine lv_iinc (v := (nI (i + 1))) (lv' := [(1, .int (nI (i + 1))), (0, .ref (a 0))]) hx hb dX8_settles_42 hl (k := 0) rfl (wk_i1 i) (by decide) rfl (fun ls hl => ?_)
      refine lv_goto (tgt := 29) hx hb dX8_settles_45 (by decide) ?_
      rw [fillN_s] at hP hD
      exact ih29 (i + 1) (n29 - 1) ls H _ (by omega) (by omega) (lv_sub hl [0, 1] rfl) hP hD hS
  · refine lv_aload_n hx hb dX8_settles_7 rfl (lv_at hl 1 rfl) ?_
    refine va_get (D := G.1) (v := .ref (a 1)) hx hb hts hin8 hown hK hP 0 (WM_0 G a (mkJ (qTr c) (qTx c) (qTy c) (qNe c) (qTo c) (qPl c) (qVa c) (qFa c) (jSe1 (qN c) i) (qSo c) (qVo c) (qBi c) (qHo c) (qTd c) (qS c) (qW c) (qKe c) (qIk c) (qUn c) (qUm c) (qRb c) (qRi c) (qRm c))) rfl 9 (by decide) hf13 (fun _ h => h) rfl dX8_settles_8 ?_
    refine lv_iload_n hx hb dX8_settles_11 rfl (lv_at hl 0 rfl) ?_
    refine lv_aload_n hx hb dX8_settles_12 rfl (lv_at hl 1 rfl) ?_
    refine va_get (D := G.1) (v := .ref (a 1)) hx hb hts hin8 hown hK hP 0 (WM_0 G a (mkJ (qTr c) (qTx c) (qTy c) (qNe c) (qTo c) (qPl c) (qVa c) (qFa c) (jSe1 (qN c) i) (qSo c) (qVo c) (qBi c) (qHo c) (qTd c) (qS c) (qW c) (qKe c) (qIk c) (qUn c) (qUm c) (qRb c) (qRi c) (qRm c))) rfl 9 (by decide) hf13 (fun _ h => h) rfl dX8_settles_13 ?_
    refine lv_iconst (v := 3) hx hb dX8_settles_16 (by decide) ?_
    refine lv_iload_n hx hb dX8_settles_17 rfl (lv_at hl 0 rfl) ?_
    refine wk_iadd (x := 3) (y := i) hx hb dX8_settles_18 ?_
    refine wk_iald (i := (3 + i)) hx hb hK hP 1 1 (WM_1 G a (mkJ (qTr c) (qTx c) (qTy c) (qNe c) (qTo c) (qPl c) (qVa c) (qFa c) (jSe1 (qN c) i) (qSo c) (qVo c) (qBi c) (qHo c) (qTd c) (qS c) (qW c) (qKe c) (qIk c) (qUn c) (qUm c) (qRb c) (qRi c) (qRm c))) rfl (by omega) (Nat.le_of_ble_eq_true rfl) dX8_settles_19 ?_
    refine wk_iast (i := i) (x := nI (jSe1 (qN c) i (3 + i))) hx hb hK hP hD hS 1 1 (WM_1 G a (mkJ (qTr c) (qTx c) (qTy c) (qNe c) (qTo c) (qPl c) (qVa c) (qFa c) (jSe1 (qN c) i) (qSo c) (qVo c) (qBi c) (qHo c) (qTd c) (qS c) (qW c) (qKe c) (qIk c) (qUn c) (qUm c) (qRb c) (qRi c) (qRm c))) rfl (by omega) (Nat.le_of_ble_eq_true rfl) dX8_settles_20 (fun H locs hP hD hS => ?_)
    rw [updN_eq] at hP hD
    rw [WMk_p1] at hP hD
    replace hP : va_P G.1 vwCl (WM G a (mkJ (qTr c) (qTx c) (qTy c) (qNe c) (qTo c) (qPl c) (qVa c) (qFa c) (va_up (jSe1 (qN c) i) i (jSe1 (qN c) i (3 + i))) (qSo c) (qVo c) (qBi c) (qHo c) (qTd c) (qS c) (qW c) (qKe c) (qIk c) (qUn c) (qUm c) (qRb c) (qRi c) (qRm c))) H := hP
    replace hD : va_D A (WM G a (mkJ (qTr c) (qTx c) (qTy c) (qNe c) (qTo c) (qPl c) (qVa c) (qFa c) (va_up (jSe1 (qN c) i) i (jSe1 (qN c) i (3 + i))) (qSo c) (qVo c) (qBi c) (qHo c) (qTd c) (qS c) (qW c) (qKe c) (qIk c) (qUn c) (qUm c) (qRb c) (qRi c) (qRm c))) := hD
    refine lv_iinc (v := (nI (i + 1))) (lv' := [(1, .int (nI (i + 1))), (0, .ref (a 0))]) hx hb dX8_settles_21 hl (k := 0) rfl (wk_i1 i) (by decide) rfl (fun ls hl => ?_)
    refine lv_goto (tgt := 2) hx hb dX8_settles_24 (by decide) ?_
    rw [jSe1_s] at hP hD
    exact ih2 (i + 1) (n2 - 1) ls H _ (by omega) (by omega) (lv_sub hl [0, 1] rfl) hP hD hS
theorem hdV_X8_council : yX8_council.cls = RX8 ∧ yX8_council.cls ≠ "java/lang/invoke/MethodHandle" ∧ yX8_council.cls ≠ "java/lang/invoke/VarHandle" ∧ (parseMethodDescriptor yX8_council.desc).map (fun d => d.parameters.length) = some 0 := by decide +kernel
set_option maxHeartbeats 4000000 in
set_option maxRecDepth 100000 in
theorem c_X8_council (l : Launch) (G : GG) (a : Nat → Nat) (c : JX) (hc : OkJ c) (hv9 : qVa c < 2 ^ 31) (sz : Nat) : Met l yX8_council wsX8_council ({ frames := 5, cells := 0, slots := 0, locals := 109 }) (va_Pc [.ref (a 0)] (fun U => PreM G (WM G a c) sz U U.heap)) (Qm G.1 vwCl (some (.int (yCouncil c).1)) (WM G a ((yCouncil c).2)) (va_A (WM G a c) sz)) 0 0 (va_A (WM G a c) sz) := by
  refine Met.ofW (cc := cX8_council) (maxL := 3) (ret := (some .int)) (by decide) rfl ?_
  intro p e s m args below meth cd s₁ BB hml hv
  obtain ⟨rfl, ⟨hP, hK, hN⟩, hD0, hsz⟩ := hv
  have hx := BB.exec
  have hb := BB.bytes
  have hr := BB.returns
  have hts := atoms_spec (ws := wsX8_council) BB.pre
  have hown : s.vm.findClass RX8 = some m.cls := findClass_of_methodNamed BB.named
  have hlocks := BB.notSynchronized
  have hrc : 0 + 0 ≤ (headSpec wsX8_council ({ frames := 5, cells := 0, slots := 0, locals := 109 })).room.cells := Nat.le_refl _
  have hrs : 0 + 0 ≤ (headSpec wsX8_council ({ frames := 5, cells := 0, slots := 0, locals := 109 })).room.slots := Nat.le_refl _
  subst hsz
  have hD := hD0.self (sz := s.heap.size)
  generalize hAe : va_A (WM G a c) s.heap.size = A at hD ⊢
  have hA : ∀ q : Nat, s.heap.size ≤ q → A q := fun q h => by rw [← hAe]; exact Or.inr h
  have hS : va_S A s.heap s.heap [] := va_S.rf
  obtain ⟨hk7, ho1, ho5, hl200, hr6, hu10⟩ := id hc
  have hin8 : ∀ w ∈ u_ws RX8 TX8 24, w ∈ wsX8_council := by decide +kernel
  have hf13 := hts (.fieldLink RX8 13 "RegaliaVotesModel" "many" "[I") (by decide +kernel)
  have hf50 := hts (.fieldLink RX8 50 "RegaliaVotesModel" "thrown" "I") (by decide +kernel)
  have hf61 := hts (.fieldLink RX8 61 "RegaliaVotesModel" "next" "I") (by decide +kernel)
  have hf71 := hts (.fieldLink RX8 71 "RegaliaVotesModel" "token" "I") (by decide +kernel)
  have hf74 := hts (.fieldLink RX8 74 "RegaliaVotesModel" "value" "I") (by decide +kernel)
  have hf77 := hts (.fieldLink RX8 77 "RegaliaVotesModel" "fault" "I") (by decide +kernel)
  have hf95 := hts (.fieldLink RX8 95 "RegaliaVotesModel" "isWarmthTold" "Z") (by decide +kernel)
  refine wk_enter (n := 3) (Nat.le_of_ble_eq_true rfl) (fun ls hl => ?_)
  have hl : lv_has ls 3 [(0, .ref (a 0))] := hl
  refine lv_aload_n hx hb dX8_council_0 rfl (lv_at hl 0 rfl) ?_
  refine lv_iconst (v := 0) hx hb dX8_council_1 (by decide) ?_
  refine va_put (D := G.1) (v := .int 0) (ty := .int) hx hb hts hin8 tyX8 tyX8_ok nmX8 hown hK hP hD hS 0 (WM_0 G a c) rfl 0 (by decide) hf50 (fun _ h => h) rfl (by decide +kernel) rfl rfl (Nat.le_of_ble_eq_true rfl) dX8_council_2 (fun H locs hP hD hS => ?_)
  rw [WM_p0_0] at hP hD
  refine lv_aload_n hx hb dX8_council_5 rfl (lv_at hl 0 rfl) ?_
  refine lv_iconst (v := -1) hx hb dX8_council_6 (by decide) ?_
  refine va_put (D := G.1) (v := .int (-1)) (ty := .int) hx hb hts hin8 tyX8 tyX8_ok nmX8 hown hK hP hD hS 0 (WM_0 G a c) rfl 8 (by decide) hf77 (fun _ h => h) rfl (by decide +kernel) rfl rfl (Nat.le_of_ble_eq_true rfl) dX8_council_7 (fun H locs hP hD hS => ?_)
  rw [WMc_p0_8] at hP hD
  replace hP : va_P G.1 vwCl (WM G a (mkJ (qTr c) (qTx c) (qTy c) (qNe c) (qTo c) (qPl c) (qVa c) (-1) (qN c) (qSo c) (qVo c) (qBi c) (qHo c) (qTd c) (qS c) (qW c) (qKe c) (qIk c) (qUn c) (qUm c) (qRb c) (qRi c) (qRm c))) H := hP
  replace hD : va_D A (WM G a (mkJ (qTr c) (qTx c) (qTy c) (qNe c) (qTo c) (qPl c) (qVa c) (-1) (qN c) (qSo c) (qVo c) (qBi c) (qHo c) (qTd c) (qS c) (qW c) (qKe c) (qIk c) (qUn c) (qUm c) (qRb c) (qRi c) (qRm c))) := hD
  refine lv_aload_n hx hb dX8_council_10 rfl (lv_at hl 0 rfl) ?_
  refine lv_iconst (v := 0) hx hb dX8_council_11 (by decide) ?_
  refine va_put (D := G.1) (v := .int (nI 0)) (ty := .int) hx hb hts hin8 tyX8 tyX8_ok nmX8 hown hK hP hD hS 0 (WM_0 G a (mkJ (qTr c) (qTx c) (qTy c) (qNe c) (qTo c) (qPl c) (qVa c) (-1) (qN c) (qSo c) (qVo c) (qBi c) (qHo c) (qTd c) (qS c) (qW c) (qKe c) (qIk c) (qUn c) (qUm c) (qRb c) (qRi c) (qRm c))) rfl 4 (by decide) hf61 (fun _ h => h) rfl (by decide +kernel) rfl rfl (Nat.le_of_ble_eq_true rfl) dX8_council_12 (fun H locs hP hD hS => ?_)
  rw [WMk_p0_4] at hP hD
  replace hP : va_P G.1 vwCl (WM G a (mkJ (qTr c) (qTx c) (qTy c) 0 (qTo c) (qPl c) (qVa c) (-1) (qN c) (qSo c) (qVo c) (qBi c) (qHo c) (qTd c) (qS c) (qW c) (qKe c) (qIk c) (qUn c) (qUm c) (qRb c) (qRi c) (qRm c))) H := hP
  replace hD : va_D A (WM G a (mkJ (qTr c) (qTx c) (qTy c) 0 (qTo c) (qPl c) (qVa c) (-1) (qN c) (qSo c) (qVo c) (qBi c) (qHo c) (qTd c) (qS c) (qW c) (qKe c) (qIk c) (qUn c) (qUm c) (qRb c) (qRi c) (qRm c))) := hD
  refine lv_iconst (v := 0) hx hb dX8_council_15 (by decide) ?_
  refine lv_istore_n (lv' := [(1, .int 0), (0, .ref (a 0))]) hx hb dX8_council_16 rfl hl (by decide) rfl (fun ls hl => ?_)
  refine lv_aload_n hx hb dX8_council_17 rfl (lv_at hl 1 rfl) ?_
  refine va_get (D := G.1) (v := .ref (a 1)) hx hb hts hin8 hown hK hP 0 (WM_0 G a (mkJ (qTr c) (qTx c) (qTy c) 0 (qTo c) (qPl c) (qVa c) (-1) (qN c) (qSo c) (qVo c) (qBi c) (qHo c) (qTd c) (qS c) (qW c) (qKe c) (qIk c) (qUn c) (qUm c) (qRb c) (qRi c) (qRm c))) rfl 9 (by decide) hf13 (fun _ h => h) rfl dX8_council_18 ?_
  refine lv_iconst (v := 3) hx hb dX8_council_21 (by decide) ?_
  refine lv_iconst (v := 0) hx hb dX8_council_22 (by decide) ?_
  refine wk_iast (i := 3) (x := nI 0) hx hb hK hP hD hS 1 1 (WM_1 G a (mkJ (qTr c) (qTx c) (qTy c) 0 (qTo c) (qPl c) (qVa c) (-1) (qN c) (qSo c) (qVo c) (qBi c) (qHo c) (qTd c) (qS c) (qW c) (qKe c) (qIk c) (qUn c) (qUm c) (qRb c) (qRi c) (qRm c))) rfl (by omega) (Nat.le_of_ble_eq_true rfl) dX8_council_23 (fun H locs hP hD hS => ?_)
  rw [updN_eq] at hP hD
  rw [WMk_p1] at hP hD
  replace hP : va_P G.1 vwCl (WM G a (mkJ (qTr c) (qTx c) (qTy c) 0 (qTo c) (qPl c) (qVa c) (-1) (va_up (qN c) 3 0) (qSo c) (qVo c) (qBi c) (qHo c) (qTd c) (qS c) (qW c) (qKe c) (qIk c) (qUn c) (qUm c) (qRb c) (qRi c) (qRm c))) H := hP
  replace hD : va_D A (WM G a (mkJ (qTr c) (qTx c) (qTy c) 0 (qTo c) (qPl c) (qVa c) (-1) (va_up (qN c) 3 0) (qSo c) (qVo c) (qBi c) (qHo c) (qTd c) (qS c) (qW c) (qKe c) (qIk c) (qUn c) (qUm c) (qRb c) (qRi c) (qRm c))) := hD
  refine lv_aload_n hx hb dX8_council_24 rfl (lv_at hl 1 rfl) ?_
  refine va_get (D := G.1) (v := .ref (a 1)) hx hb hts hin8 hown hK hP 0 (WM_0 G a (mkJ (qTr c) (qTx c) (qTy c) 0 (qTo c) (qPl c) (qVa c) (-1) (va_up (qN c) 3 0) (qSo c) (qVo c) (qBi c) (qHo c) (qTd c) (qS c) (qW c) (qKe c) (qIk c) (qUn c) (qUm c) (qRb c) (qRi c) (qRm c))) rfl 9 (by decide) hf13 (fun _ h => h) rfl dX8_council_25 ?_
  refine lv_iconst (v := 4) hx hb dX8_council_28 (by decide) ?_
  refine lv_iconst (v := 3) hx hb dX8_council_29 (by decide) ?_
  refine wk_iast (i := 4) (x := nI 3) hx hb hK hP hD hS 1 1 (WM_1 G a (mkJ (qTr c) (qTx c) (qTy c) 0 (qTo c) (qPl c) (qVa c) (-1) (va_up (qN c) 3 0) (qSo c) (qVo c) (qBi c) (qHo c) (qTd c) (qS c) (qW c) (qKe c) (qIk c) (qUn c) (qUm c) (qRb c) (qRi c) (qRm c))) rfl (by omega) (Nat.le_of_ble_eq_true rfl) dX8_council_30 (fun H locs hP hD hS => ?_)
  rw [updN_eq] at hP hD
  rw [WMk_p1] at hP hD
  replace hP : va_P G.1 vwCl (WM G a (mkJ (qTr c) (qTx c) (qTy c) 0 (qTo c) (qPl c) (qVa c) (-1) (va_up (va_up (qN c) 3 0) 4 3) (qSo c) (qVo c) (qBi c) (qHo c) (qTd c) (qS c) (qW c) (qKe c) (qIk c) (qUn c) (qUm c) (qRb c) (qRi c) (qRm c))) H := hP
  replace hD : va_D A (WM G a (mkJ (qTr c) (qTx c) (qTy c) 0 (qTo c) (qPl c) (qVa c) (-1) (va_up (va_up (qN c) 3 0) 4 3) (qSo c) (qVo c) (qBi c) (qHo c) (qTd c) (qS c) (qW c) (qKe c) (qIk c) (qUn c) (qUm c) (qRb c) (qRi c) (qRm c))) := hD
  refine lv_aload_n hx hb dX8_council_31 rfl (lv_at hl 1 rfl) ?_
  refine va_get (D := G.1) (v := .ref (a 1)) hx hb hts hin8 hown hK hP 0 (WM_0 G a (mkJ (qTr c) (qTx c) (qTy c) 0 (qTo c) (qPl c) (qVa c) (-1) (va_up (va_up (qN c) 3 0) 4 3) (qSo c) (qVo c) (qBi c) (qHo c) (qTd c) (qS c) (qW c) (qKe c) (qIk c) (qUn c) (qUm c) (qRb c) (qRi c) (qRm c))) rfl 9 (by decide) hf13 (fun _ h => h) rfl dX8_council_32 ?_
  refine lv_iconst (v := 5) hx hb dX8_council_35 (by decide) ?_
  refine lv_iconst (v := 2) hx hb dX8_council_36 (by decide) ?_
  refine wk_iast (i := 5) (x := nI 2) hx hb hK hP hD hS 1 1 (WM_1 G a (mkJ (qTr c) (qTx c) (qTy c) 0 (qTo c) (qPl c) (qVa c) (-1) (va_up (va_up (qN c) 3 0) 4 3) (qSo c) (qVo c) (qBi c) (qHo c) (qTd c) (qS c) (qW c) (qKe c) (qIk c) (qUn c) (qUm c) (qRb c) (qRi c) (qRm c))) rfl (by omega) (Nat.le_of_ble_eq_true rfl) dX8_council_37 (fun H locs hP hD hS => ?_)
  rw [updN_eq] at hP hD
  rw [WMk_p1] at hP hD
  replace hP : va_P G.1 vwCl (WM G a (mkJ (qTr c) (qTx c) (qTy c) 0 (qTo c) (qPl c) (qVa c) (-1) (va_up (va_up (va_up (qN c) 3 0) 4 3) 5 2) (qSo c) (qVo c) (qBi c) (qHo c) (qTd c) (qS c) (qW c) (qKe c) (qIk c) (qUn c) (qUm c) (qRb c) (qRi c) (qRm c))) H := hP
  replace hD : va_D A (WM G a (mkJ (qTr c) (qTx c) (qTy c) 0 (qTo c) (qPl c) (qVa c) (-1) (va_up (va_up (va_up (qN c) 3 0) 4 3) 5 2) (qSo c) (qVo c) (qBi c) (qHo c) (qTd c) (qS c) (qW c) (qKe c) (qIk c) (qUn c) (qUm c) (qRb c) (qRi c) (qRm c))) := hD
  refine lv_aload_n hx hb dX8_council_38 rfl (lv_at hl 1 rfl) ?_
  refine lv_iconst (v := 0) hx hb dX8_council_39 (by decide) ?_
  refine va_put (D := G.1) (v := .int (b2i false)) (ty := .boolean) hx hb hts hin8 tyX8 tyX8_ok nmX8 hown hK hP hD hS 0 (WM_0 G a (mkJ (qTr c) (qTx c) (qTy c) 0 (qTo c) (qPl c) (qVa c) (-1) (va_up (va_up (va_up (qN c) 3 0) 4 3) 5 2) (qSo c) (qVo c) (qBi c) (qHo c) (qTd c) (qS c) (qW c) (qKe c) (qIk c) (qUn c) (qUm c) (qRb c) (qRi c) (qRm c))) rfl 14 (by decide) hf95 (fun _ h => h) rfl (by decide +kernel) (b2i_nar _) (b2i_fit _) (Nat.le_of_ble_eq_true rfl) dX8_council_40 (fun H locs hP hD hS => ?_)
  rw [WMk_p0_14] at hP hD
  replace hP : va_P G.1 vwCl (WM G a (mkJ (qTr c) (qTx c) (qTy c) 0 (qTo c) (qPl c) (qVa c) (-1) (va_up (va_up (va_up (qN c) 3 0) 4 3) 5 2) (qSo c) (qVo c) (qBi c) (qHo c) false (qS c) (qW c) (qKe c) (qIk c) (qUn c) (qUm c) (qRb c) (qRi c) (qRm c))) H := hP
  replace hD : va_D A (WM G a (mkJ (qTr c) (qTx c) (qTy c) 0 (qTo c) (qPl c) (qVa c) (-1) (va_up (va_up (va_up (qN c) 3 0) 4 3) 5 2) (qSo c) (qVo c) (qBi c) (qHo c) false (qS c) (qW c) (qKe c) (qIk c) (qUn c) (qUm c) (qRb c) (qRi c) (qRm c))) := hD
  refine lv_aload_n hx hb dX8_council_43 rfl (lv_at hl 1 rfl) ?_
  refine wk_callA (va_runV (As := []) (rest := []) ⟨hx, hb, hml, hown, hts⟩ (c_X8_advances l G a (mkJ (qTr c) (qTx c) (qTy c) 0 (qTo c) (qPl c) (qVa c) (-1) (va_up (va_up (va_up (qN c) 3 0) 4 3) 5 2) (qSo c) (qVo c) (qBi c) (qHo c) false (qS c) (qW c) (qKe c) (qIk c) (qUn c) (qUm c) (qRb c) (qRi c) (qRm c)) (okJ_mk hk7 ho1 ho5 (by omega) (by omega) (by omega)) (show 0 ≤ qTy c by omega) H.size) (cwV 0 hts gX8_council_X8_advances rfl rfl rfl hdV_X8_advances ⟨Nat.le_of_ble_eq_true rfl, Nat.le_of_ble_eq_true rfl⟩) ((PreM.mk hP hK hN hD).pre (ci := 8) (q0 := 0) rfl (WM_0 G a (mkJ (qTr c) (qTx c) (qTy c) 0 (qTo c) (qPl c) (qVa c) (-1) (va_up (va_up (va_up (qN c) 3 0) 4 3) 5 2) (qSo c) (qVo c) (qBi c) (qHo c) false (qS c) (qW c) (qKe c) (qIk c) (qUn c) (qUm c) (qRb c) (qRi c) (qRm c)))) rfl rfl hl.1 rfl (lv_room (Nat.le_of_ble_eq_true rfl)) dX8_council_44 ⟨hrc, hrs⟩) hD hS hA WM_fst (fun H locs hP hD hS => ?_)
  replace hP : va_P G.1 vwCl (WM G a (mkJ (qTr c) (qTx c) (qTy c) ((jAdv (qTx c) (qTy c) 0 (qVa c) (-1)).1) ((jAdv (qTx c) (qTy c) 0 (qVa c) (-1)).2.1) ((jAdv (qTx c) (qTy c) 0 (qVa c) (-1)).2.2.1) ((jAdv (qTx c) (qTy c) 0 (qVa c) (-1)).2.2.2.1) ((jAdv (qTx c) (qTy c) 0 (qVa c) (-1)).2.2.2.2) (va_up (va_up (va_up (qN c) 3 0) 4 3) 5 2) (qSo c) (qVo c) (qBi c) (qHo c) false (qS c) (qW c) (qKe c) (qIk c) (qUn c) (qUm c) (qRb c) (qRi c) (qRm c))) H := hP
  replace hD : va_D A (WM G a (mkJ (qTr c) (qTx c) (qTy c) ((jAdv (qTx c) (qTy c) 0 (qVa c) (-1)).1) ((jAdv (qTx c) (qTy c) 0 (qVa c) (-1)).2.1) ((jAdv (qTx c) (qTy c) 0 (qVa c) (-1)).2.2.1) ((jAdv (qTx c) (qTy c) 0 (qVa c) (-1)).2.2.2.1) ((jAdv (qTx c) (qTy c) 0 (qVa c) (-1)).2.2.2.2) (va_up (va_up (va_up (qN c) 3 0) 4 3) 5 2) (qSo c) (qVo c) (qBi c) (qHo c) false (qS c) (qW c) (qKe c) (qIk c) (qUn c) (qUm c) (qRb c) (qRi c) (qRm c))) := hD
  refine W.eq (g2 := F0 m 47 ls []) rfl ?_
  generalize hz44 : jAdv (qTx c) (qTy c) 0 (qVa c) (-1) = z44 at hP hD
  have hn44 : z44.1 ≤ qTy c := by rw [← hz44]; exact (jAdv_ok (by omega)).1
  refine wk_loopM (σ := Nat × RJ × BJ) (nL := 3) (fun xσ n => match xσ with | (i, r, b) => jCo (qTx c) (qTy c) n i (r, b) = yCoZ c ∧ JI (qTy c) i (r, b) n) (fun xσ => match xσ with | (i, r, b) => [(1, .int (nI i)), (0, .ref (a 0))]) (fun xσ => match xσ with | (i, r, b) => WM G a (mkJ (qTr c) (qTx c) (qTy c) r.1 r.2.1 r.2.2.1 r.2.2.2.1 r.2.2.2.2 b.1 b.2.1 b.2.2.1 b.2.2.2.1 b.2.2.2.2.1 b.2.2.2.2.2 (qS c) (qW c) (qKe c) (qIk c) (qUn c) (qUm c) (qRb c) (qRi c) (qRm c))) (0, z44, va_up (va_up (va_up (qN c) 3 0) 4 3) 5 2, qSo c, qVo c, qBi c, qHo c, false) 201 (⟨by rw [yCoZ, jCs0, hz44], by rw [← hz44]; exact JI_0 hl200 hv9 hk7 ho1 ho5 (Nat.zero_le 7) (show 1 ≤ 3 by omega) (show 3 ≤ 5 by omega)⟩) hl hP hD hS ?_
  rintro n47 ⟨i, r, b⟩ ls H locs hI47 hl hP hD hS ih47
  have hl : lv_has ls 3 [(1, .int (nI i)), (0, .ref (a 0))] := hl
  have hP : va_P G.1 vwCl (WM G a (mkJ (qTr c) (qTx c) (qTy c) r.1 r.2.1 r.2.2.1 r.2.2.2.1 r.2.2.2.2 b.1 b.2.1 b.2.2.1 b.2.2.2.1 b.2.2.2.2.1 b.2.2.2.2.2 (qS c) (qW c) (qKe c) (qIk c) (qUn c) (qUm c) (qRb c) (qRi c) (qRm c))) H := hP
  have hD : va_D A (WM G a (mkJ (qTr c) (qTx c) (qTy c) r.1 r.2.1 r.2.2.1 r.2.2.2.1 r.2.2.2.2 b.1 b.2.1 b.2.2.1 b.2.2.2.1 b.2.2.2.2.1 b.2.2.2.2.2 (qS c) (qW c) (qKe c) (qIk c) (qUn c) (qUm c) (qRb c) (qRi c) (qRm c))) := hD
  obtain ⟨hL, hJ⟩ := hI47
  have b1 : r.1 ≤ qTy c := hJ.1.1
  have b4 : b.1 0 ≤ 7 := hJ.2.1
  have b5 : 1 ≤ b.1 1 := hJ.2.2.1
  have b6 : b.1 1 ≤ 5 := hJ.2.2.2.1
  have b7 : b.1 3 ≤ 7 := hJ.2.2.2.2.1
  have b8 : i + n47 ≤ 201 := hJ.2.2.2.2.2.2.2
  refine lv_aload_n hx hb dX8_council_47 rfl (lv_at hl 1 rfl) ?_
  refine wk_read (va_runV (As := []) (rest := []) ⟨hx, hb, hml, hown, hts⟩ (c_X8_isWell l G a (mkJ (qTr c) (qTx c) (qTy c) r.1 r.2.1 r.2.2.1 r.2.2.2.1 r.2.2.2.2 b.1 b.2.1 b.2.2.1 b.2.2.2.1 b.2.2.2.2.1 b.2.2.2.2.2 (qS c) (qW c) (qKe c) (qIk c) (qUn c) (qUm c) (qRb c) (qRi c) (qRm c)) (okJ_mk (by omega) (by omega) (by omega) (by omega) (by omega) (by omega))) (cwV 0 hts gX8_council_X8_isWell rfl rfl rfl hdV_X8_isWell ⟨Nat.le_of_ble_eq_true rfl, Nat.le_of_ble_eq_true rfl⟩) (PreW.pre (G := G) (W0 := WM G a (mkJ (qTr c) (qTx c) (qTy c) r.1 r.2.1 r.2.2.1 r.2.2.2.1 r.2.2.2.2 b.1 b.2.1 b.2.2.1 b.2.2.2.1 b.2.2.2.2.1 b.2.2.2.2.2 (qS c) (qW c) (qKe c) (qIk c) (qUn c) (qUm c) (qRb c) (qRi c) (qRm c))) ⟨hP, hK, hN⟩ (ci := 8) (q0 := 0) rfl rfl) rfl rfl hl.1 rfl (lv_room (Nat.le_of_ble_eq_true rfl)) dX8_council_48 ⟨hrc, hrs⟩) ?_
  refine W.eq (g2 := F0 m 51 ls [.int (b2i (jWl r.2.2.2.2))]) rfl ?_
  refine lv_if_eq (tgt := 161) hx hb dX8_council_51 (by decide) (fun c51 => ?_) (fun c51 => ?_)
  · have c51 := b2i_f c51
    have hE : jCo (qTx c) (qTy c) n47 i (r, b) = (i, r, b) := jCo_end (Or.inl (jWl_f c51))
    refine lv_aload_n hx hb dX8_council_161 rfl (lv_at hl 1 rfl) ?_
    refine wk_read (va_runV (As := []) (rest := []) ⟨hx, hb, hml, hown, hts⟩ (c_X8_isWell l G a (mkJ (qTr c) (qTx c) (qTy c) r.1 r.2.1 r.2.2.1 r.2.2.2.1 r.2.2.2.2 b.1 b.2.1 b.2.2.1 b.2.2.2.1 b.2.2.2.2.1 b.2.2.2.2.2 (qS c) (qW c) (qKe c) (qIk c) (qUn c) (qUm c) (qRb c) (qRi c) (qRm c)) (okJ_mk (by omega) (by omega) (by omega) (by omega) (by omega) (by omega))) (cwV 0 hts gX8_council_X8_isWell rfl rfl rfl hdV_X8_isWell ⟨Nat.le_of_ble_eq_true rfl, Nat.le_of_ble_eq_true rfl⟩) (PreW.pre (G := G) (W0 := WM G a (mkJ (qTr c) (qTx c) (qTy c) r.1 r.2.1 r.2.2.1 r.2.2.2.1 r.2.2.2.2 b.1 b.2.1 b.2.2.1 b.2.2.2.1 b.2.2.2.2.1 b.2.2.2.2.2 (qS c) (qW c) (qKe c) (qIk c) (qUn c) (qUm c) (qRb c) (qRi c) (qRm c))) ⟨hP, hK, hN⟩ (ci := 8) (q0 := 0) rfl rfl) rfl rfl hl.1 rfl (lv_room (Nat.le_of_ble_eq_true rfl)) dX8_council_162 ⟨hrc, hrs⟩) ?_
    refine W.eq (g2 := F0 m 165 ls [.int (b2i (jWl r.2.2.2.2))]) rfl ?_
    refine lv_if_ne (tgt := 176) hx hb dX8_council_165 (by decide) (fun c165 => ?_) (fun c165 => ?_)
    · have c165 := b2i_t c165
      refine lv_aload_n hx hb dX8_council_176 rfl (lv_at hl 1 rfl) ?_
      refine wk_callA (va_runV (As := []) (rest := []) ⟨hx, hb, hml, hown, hts⟩ (c_X8_settles l G a (mkJ (qTr c) (qTx c) (qTy c) r.1 r.2.1 r.2.2.1 r.2.2.2.1 r.2.2.2.2 b.1 b.2.1 b.2.2.1 b.2.2.2.1 b.2.2.2.2.1 b.2.2.2.2.2 (qS c) (qW c) (qKe c) (qIk c) (qUn c) (qUm c) (qRb c) (qRi c) (qRm c)) (okJ_mk (by omega) (by omega) (by omega) (by omega) (by omega) (by omega))  b7 H.size) (cwV 0 hts gX8_council_X8_settles rfl rfl rfl hdV_X8_settles ⟨Nat.le_of_ble_eq_true rfl, Nat.le_of_ble_eq_true rfl⟩) ((PreM.mk hP hK hN hD).pre (ci := 8) (q0 := 0) rfl (WM_0 G a (mkJ (qTr c) (qTx c) (qTy c) r.1 r.2.1 r.2.2.1 r.2.2.2.1 r.2.2.2.2 b.1 b.2.1 b.2.2.1 b.2.2.2.1 b.2.2.2.2.1 b.2.2.2.2.2 (qS c) (qW c) (qKe c) (qIk c) (qUn c) (qUm c) (qRb c) (qRi c) (qRm c)))) rfl rfl hl.1 rfl (lv_room (Nat.le_of_ble_eq_true rfl)) dX8_council_177 ⟨hrc, hrs⟩) hD hS hA WM_fst (fun H locs hP hD hS => ?_)
      refine W.eq (g2 := F0 m 180 ls []) rfl ?_
      refine lv_iload_n hx hb dX8_council_180 rfl (lv_at hl 0 rfl) ?_
      have hq : yCouncil c = ((nI i), wSet (mkJ (qTr c) (qTx c) (qTy c) r.1 r.2.1 r.2.2.1 r.2.2.2.1 r.2.2.2.2 b.1 b.2.1 b.2.2.1 b.2.2.2.1 b.2.2.2.2.1 b.2.2.2.2.2 (qS c) (qW c) (qKe c) (qIk c) (qUn c) (qUm c) (qRb c) (qRi c) (qRm c))) := by rw [yCouncil, ← hL, hE, if_neg (jWl_t c165)]; rfl
      generalize yCouncil c = xx at hq ⊢
      subst hq
      exact wk_mret' hx hb hr hlocks dX8_council_181 hP hS rfl rfl
    · have c165 := b2i_f c165
      refine lv_bipush (v := -10) hx hb dX8_council_168 (by decide) ?_
      refine lv_aload_n hx hb dX8_council_170 rfl (lv_at hl 1 rfl) ?_
      refine va_get (D := G.1) (v := .int r.2.2.2.2) hx hb hts hin8 hown hK hP 0 (WM_0 G a (mkJ (qTr c) (qTx c) (qTy c) r.1 r.2.1 r.2.2.1 r.2.2.2.1 r.2.2.2.2 b.1 b.2.1 b.2.2.1 b.2.2.2.1 b.2.2.2.2.1 b.2.2.2.2.2 (qS c) (qW c) (qKe c) (qIk c) (qUn c) (qUm c) (qRb c) (qRi c) (qRm c))) rfl 8 (by decide) hf77 (fun _ h => h) rfl dX8_council_171 ?_
      refine lv_isub hx hb dX8_council_174 ?_
      have hq : yCouncil c = (((-10) - r.2.2.2.2), mkJ (qTr c) (qTx c) (qTy c) r.1 r.2.1 r.2.2.1 r.2.2.2.1 r.2.2.2.2 b.1 b.2.1 b.2.2.1 b.2.2.2.1 b.2.2.2.2.1 b.2.2.2.2.2 (qS c) (qW c) (qKe c) (qIk c) (qUn c) (qUm c) (qRb c) (qRi c) (qRm c)) := by rw [yCouncil, ← hL, hE, if_pos (jWl_f c165)]; rfl
      generalize yCouncil c = xx at hq ⊢
      subst hq
      exact wk_mret' hx hb hr hlocks dX8_council_175 hP hS rfl rfl
  · have c51 := b2i_t c51
    have h51 : ¬ 0 ≤ r.2.2.2.2 := jWl_t c51
    refine lv_aload_n hx hb dX8_council_54 rfl (lv_at hl 1 rfl) ?_
    refine va_get (D := G.1) (v := .int r.2.1) hx hb hts hin8 hown hK hP 0 (WM_0 G a (mkJ (qTr c) (qTx c) (qTy c) r.1 r.2.1 r.2.2.1 r.2.2.2.1 r.2.2.2.2 b.1 b.2.1 b.2.2.1 b.2.2.2.1 b.2.2.2.2.1 b.2.2.2.2.2 (qS c) (qW c) (qKe c) (qIk c) (qUn c) (qUm c) (qRb c) (qRi c) (qRm c))) rfl 5 (by decide) hf71 (fun _ h => h) rfl dX8_council_55 ?_
    refine lv_if_eq (tgt := 161) hx hb dX8_council_58 (by decide) (fun c58 => ?_) (fun c58 => ?_)
    · have hE : jCo (qTx c) (qTy c) n47 i (r, b) = (i, r, b) := jCo_end (Or.inr c58)
      refine lv_aload_n hx hb dX8_council_161 rfl (lv_at hl 1 rfl) ?_
      refine wk_read (va_runV (As := []) (rest := []) ⟨hx, hb, hml, hown, hts⟩ (c_X8_isWell l G a (mkJ (qTr c) (qTx c) (qTy c) r.1 r.2.1 r.2.2.1 r.2.2.2.1 r.2.2.2.2 b.1 b.2.1 b.2.2.1 b.2.2.2.1 b.2.2.2.2.1 b.2.2.2.2.2 (qS c) (qW c) (qKe c) (qIk c) (qUn c) (qUm c) (qRb c) (qRi c) (qRm c)) (okJ_mk (by omega) (by omega) (by omega) (by omega) (by omega) (by omega))) (cwV 0 hts gX8_council_X8_isWell rfl rfl rfl hdV_X8_isWell ⟨Nat.le_of_ble_eq_true rfl, Nat.le_of_ble_eq_true rfl⟩) (PreW.pre (G := G) (W0 := WM G a (mkJ (qTr c) (qTx c) (qTy c) r.1 r.2.1 r.2.2.1 r.2.2.2.1 r.2.2.2.2 b.1 b.2.1 b.2.2.1 b.2.2.2.1 b.2.2.2.2.1 b.2.2.2.2.2 (qS c) (qW c) (qKe c) (qIk c) (qUn c) (qUm c) (qRb c) (qRi c) (qRm c))) ⟨hP, hK, hN⟩ (ci := 8) (q0 := 0) rfl rfl) rfl rfl hl.1 rfl (lv_room (Nat.le_of_ble_eq_true rfl)) dX8_council_162 ⟨hrc, hrs⟩) ?_
      refine W.eq (g2 := F0 m 165 ls [.int (b2i (jWl r.2.2.2.2))]) rfl ?_
      refine lv_if_ne (tgt := 176) hx hb dX8_council_165 (by decide) (fun c165 => ?_) (fun c165 => ?_)
      · have c165 := b2i_t c165
        refine lv_aload_n hx hb dX8_council_176 rfl (lv_at hl 1 rfl) ?_
        refine wk_callA (va_runV (As := []) (rest := []) ⟨hx, hb, hml, hown, hts⟩ (c_X8_settles l G a (mkJ (qTr c) (qTx c) (qTy c) r.1 r.2.1 r.2.2.1 r.2.2.2.1 r.2.2.2.2 b.1 b.2.1 b.2.2.1 b.2.2.2.1 b.2.2.2.2.1 b.2.2.2.2.2 (qS c) (qW c) (qKe c) (qIk c) (qUn c) (qUm c) (qRb c) (qRi c) (qRm c)) (okJ_mk (by omega) (by omega) (by omega) (by omega) (by omega) (by omega))  b7 H.size) (cwV 0 hts gX8_council_X8_settles rfl rfl rfl hdV_X8_settles ⟨Nat.le_of_ble_eq_true rfl, Nat.le_of_ble_eq_true rfl⟩) ((PreM.mk hP hK hN hD).pre (ci := 8) (q0 := 0) rfl (WM_0 G a (mkJ (qTr c) (qTx c) (qTy c) r.1 r.2.1 r.2.2.1 r.2.2.2.1 r.2.2.2.2 b.1 b.2.1 b.2.2.1 b.2.2.2.1 b.2.2.2.2.1 b.2.2.2.2.2 (qS c) (qW c) (qKe c) (qIk c) (qUn c) (qUm c) (qRb c) (qRi c) (qRm c)))) rfl rfl hl.1 rfl (lv_room (Nat.le_of_ble_eq_true rfl)) dX8_council_177 ⟨hrc, hrs⟩) hD hS hA WM_fst (fun H locs hP hD hS => ?_)
        refine W.eq (g2 := F0 m 180 ls []) rfl ?_
        refine lv_iload_n hx hb dX8_council_180 rfl (lv_at hl 0 rfl) ?_
        have hq : yCouncil c = ((nI i), wSet (mkJ (qTr c) (qTx c) (qTy c) r.1 r.2.1 r.2.2.1 r.2.2.2.1 r.2.2.2.2 b.1 b.2.1 b.2.2.1 b.2.2.2.1 b.2.2.2.2.1 b.2.2.2.2.2 (qS c) (qW c) (qKe c) (qIk c) (qUn c) (qUm c) (qRb c) (qRi c) (qRm c))) := by rw [yCouncil, ← hL, hE, if_neg (jWl_t c165)]; rfl
        generalize yCouncil c = xx at hq ⊢
        subst hq
        exact wk_mret' hx hb hr hlocks dX8_council_181 hP hS rfl rfl
      · have c165 := b2i_f c165
        refine lv_bipush (v := -10) hx hb dX8_council_168 (by decide) ?_
        refine lv_aload_n hx hb dX8_council_170 rfl (lv_at hl 1 rfl) ?_
        refine va_get (D := G.1) (v := .int r.2.2.2.2) hx hb hts hin8 hown hK hP 0 (WM_0 G a (mkJ (qTr c) (qTx c) (qTy c) r.1 r.2.1 r.2.2.1 r.2.2.2.1 r.2.2.2.2 b.1 b.2.1 b.2.2.1 b.2.2.2.1 b.2.2.2.2.1 b.2.2.2.2.2 (qS c) (qW c) (qKe c) (qIk c) (qUn c) (qUm c) (qRb c) (qRi c) (qRm c))) rfl 8 (by decide) hf77 (fun _ h => h) rfl dX8_council_171 ?_
        refine lv_isub hx hb dX8_council_174 ?_
        have hq : yCouncil c = (((-10) - r.2.2.2.2), mkJ (qTr c) (qTx c) (qTy c) r.1 r.2.1 r.2.2.1 r.2.2.2.1 r.2.2.2.2 b.1 b.2.1 b.2.2.1 b.2.2.2.1 b.2.2.2.2.1 b.2.2.2.2.2 (qS c) (qW c) (qKe c) (qIk c) (qUn c) (qUm c) (qRb c) (qRi c) (qRm c)) := by rw [yCouncil, ← hL, hE, if_pos (jWl_f c165)]; rfl
        generalize yCouncil c = xx at hq ⊢
        subst hq
        exact wk_mret' hx hb hr hlocks dX8_council_175 hP hS rfl rfl
    · refine lv_aload_n hx hb dX8_council_61 rfl (lv_at hl 1 rfl) ?_
      refine wk_cut 121 [.ref (a 0)] (fun z => z = b2i (jU i r.2.1 r.2.2.2.1 b.1 b.2.2.2.2.2)) (fun x121 hx121 => ?_) (fun k121 => ?_)
      · subst hx121
        refine wk_callA (va_runV (As := [.int (b2i (jU i r.2.1 r.2.2.2.1 b.1 b.2.2.2.2.2))]) (rest := []) ⟨hx, hb, hml, hown, hts⟩ (c_X8_takes l G a (mkJ (qTr c) (qTx c) (qTy c) r.1 r.2.1 r.2.2.1 r.2.2.2.1 r.2.2.2.2 b.1 b.2.1 b.2.2.1 b.2.2.2.1 b.2.2.2.2.1 b.2.2.2.2.2 (qS c) (qW c) (qKe c) (qIk c) (qUn c) (qUm c) (qRb c) (qRi c) (qRm c)) (okJ_mk (by omega) (by omega) (by omega) (by omega) (by omega) (by omega)) (jU i r.2.1 r.2.2.2.1 b.1 b.2.2.2.2.2) (show r.1 ≤ qTy c by omega) H.size) (cwV 1 hts gX8_council_X8_takes rfl rfl rfl hdV_X8_takes ⟨Nat.le_of_ble_eq_true rfl, Nat.le_of_ble_eq_true rfl⟩) ((PreM.mk hP hK hN hD).pre (ci := 8) (q0 := 0) rfl (WM_0 G a (mkJ (qTr c) (qTx c) (qTy c) r.1 r.2.1 r.2.2.1 r.2.2.2.1 r.2.2.2.2 b.1 b.2.1 b.2.2.1 b.2.2.2.1 b.2.2.2.2.1 b.2.2.2.2.2 (qS c) (qW c) (qKe c) (qIk c) (qUn c) (qUm c) (qRb c) (qRi c) (qRm c)))) rfl rfl hl.1 rfl (lv_room (Nat.le_of_ble_eq_true rfl)) dX8_council_121 ⟨hrc, hrs⟩) hD hS hA WM_fst (fun H locs hP hD hS => ?_)
        replace hP : va_P G.1 vwCl (WM G a (mkJ (qTr c) (qTx c) (qTy c) ((jTk (qTx c) (qTy c) r.1 r.2.1 r.2.2.1 r.2.2.2.1 r.2.2.2.2 (jU i r.2.1 r.2.2.2.1 b.1 b.2.2.2.2.2)).2.1) ((jTk (qTx c) (qTy c) r.1 r.2.1 r.2.2.1 r.2.2.2.1 r.2.2.2.2 (jU i r.2.1 r.2.2.2.1 b.1 b.2.2.2.2.2)).2.2.1) ((jTk (qTx c) (qTy c) r.1 r.2.1 r.2.2.1 r.2.2.2.1 r.2.2.2.2 (jU i r.2.1 r.2.2.2.1 b.1 b.2.2.2.2.2)).2.2.2.1) ((jTk (qTx c) (qTy c) r.1 r.2.1 r.2.2.1 r.2.2.2.1 r.2.2.2.2 (jU i r.2.1 r.2.2.2.1 b.1 b.2.2.2.2.2)).2.2.2.2.1) ((jTk (qTx c) (qTy c) r.1 r.2.1 r.2.2.1 r.2.2.2.1 r.2.2.2.2 (jU i r.2.1 r.2.2.2.1 b.1 b.2.2.2.2.2)).2.2.2.2.2) b.1 b.2.1 b.2.2.1 b.2.2.2.1 b.2.2.2.2.1 b.2.2.2.2.2 (qS c) (qW c) (qKe c) (qIk c) (qUn c) (qUm c) (qRb c) (qRi c) (qRm c))) H := hP
        replace hD : va_D A (WM G a (mkJ (qTr c) (qTx c) (qTy c) ((jTk (qTx c) (qTy c) r.1 r.2.1 r.2.2.1 r.2.2.2.1 r.2.2.2.2 (jU i r.2.1 r.2.2.2.1 b.1 b.2.2.2.2.2)).2.1) ((jTk (qTx c) (qTy c) r.1 r.2.1 r.2.2.1 r.2.2.2.1 r.2.2.2.2 (jU i r.2.1 r.2.2.2.1 b.1 b.2.2.2.2.2)).2.2.1) ((jTk (qTx c) (qTy c) r.1 r.2.1 r.2.2.1 r.2.2.2.1 r.2.2.2.2 (jU i r.2.1 r.2.2.2.1 b.1 b.2.2.2.2.2)).2.2.2.1) ((jTk (qTx c) (qTy c) r.1 r.2.1 r.2.2.1 r.2.2.2.1 r.2.2.2.2 (jU i r.2.1 r.2.2.2.1 b.1 b.2.2.2.2.2)).2.2.2.2.1) ((jTk (qTx c) (qTy c) r.1 r.2.1 r.2.2.1 r.2.2.2.1 r.2.2.2.2 (jU i r.2.1 r.2.2.2.1 b.1 b.2.2.2.2.2)).2.2.2.2.2) b.1 b.2.1 b.2.2.1 b.2.2.2.1 b.2.2.2.2.1 b.2.2.2.2.2 (qS c) (qW c) (qKe c) (qIk c) (qUn c) (qUm c) (qRb c) (qRi c) (qRm c))) := hD
        refine W.eq (g2 := F0 m 124 ls [.int (nI ((jTk (qTx c) (qTy c) r.1 r.2.1 r.2.2.1 r.2.2.2.1 r.2.2.2.2 (jU i r.2.1 r.2.2.2.1 b.1 b.2.2.2.2.2)).1))]) rfl ?_
        generalize hz121 : jTk (qTx c) (qTy c) r.1 r.2.1 r.2.2.1 r.2.2.2.1 r.2.2.2.2 (jU i r.2.1 r.2.2.2.1 b.1 b.2.2.2.2.2) = z121 at hP hD ⊢
        have hn121 : z121.2.1 ≤ qTy c := by rw [← hz121]; exact jTk_ne (by omega)
        have e1 : jSt1 (qTx c) (qTy c) i (r, b) = z121 := hz121
        refine lv_istore_n (lv' := [(2, .int (nI z121.1)), (1, .int (nI i)), (0, .ref (a 0))]) hx hb dX8_council_124 rfl hl (by decide) rfl (fun ls hl => ?_)
        refine lv_aload_n hx hb dX8_council_125 rfl (lv_at hl 2 rfl) ?_
        refine wk_read (va_runV (As := []) (rest := []) ⟨hx, hb, hml, hown, hts⟩ (c_X8_isWell l G a (mkJ (qTr c) (qTx c) (qTy c) z121.2.1 z121.2.2.1 z121.2.2.2.1 z121.2.2.2.2.1 z121.2.2.2.2.2 b.1 b.2.1 b.2.2.1 b.2.2.2.1 b.2.2.2.2.1 b.2.2.2.2.2 (qS c) (qW c) (qKe c) (qIk c) (qUn c) (qUm c) (qRb c) (qRi c) (qRm c)) (okJ_mk (by omega) (by omega) (by omega) (by omega) (by omega) (by omega))) (cwV 0 hts gX8_council_X8_isWell rfl rfl rfl hdV_X8_isWell ⟨Nat.le_of_ble_eq_true rfl, Nat.le_of_ble_eq_true rfl⟩) (PreW.pre (G := G) (W0 := WM G a (mkJ (qTr c) (qTx c) (qTy c) z121.2.1 z121.2.2.1 z121.2.2.2.1 z121.2.2.2.2.1 z121.2.2.2.2.2 b.1 b.2.1 b.2.2.1 b.2.2.2.1 b.2.2.2.2.1 b.2.2.2.2.2 (qS c) (qW c) (qKe c) (qIk c) (qUn c) (qUm c) (qRb c) (qRi c) (qRm c))) ⟨hP, hK, hN⟩ (ci := 8) (q0 := 0) rfl rfl) rfl rfl hl.1 rfl (lv_room (Nat.le_of_ble_eq_true rfl)) dX8_council_126 ⟨hrc, hrs⟩) ?_
        refine W.eq (g2 := F0 m 129 ls [.int (b2i (jWl z121.2.2.2.2.2))]) rfl ?_
        refine lv_if_eq (tgt := 137) hx hb dX8_council_129 (by decide) (fun c129 => ?_) (fun c129 => ?_)
        · have c129 := b2i_f c129
          have h129 := jWl_f c129
          have e2 : jSt2 (qTx c) (qTy c) i (r, b) = (z121.2, b) := by rw [jSt2, e1, if_pos h129]
          refine lv_aload_n hx hb dX8_council_137 rfl (lv_at hl 2 rfl) ?_
          refine wk_cut 151 [.ref (a 0)] (fun z => z = b2i (decide (z121.2.2.1 = 3))) (fun x151 hx151 => ?_) (fun k151 => ?_)
          · subst hx151
            refine wk_callA (va_runV (As := [.int (b2i (decide (z121.2.2.1 = 3)))]) (rest := []) ⟨hx, hb, hml, hown, hts⟩ (c_X8_takes l G a (mkJ (qTr c) (qTx c) (qTy c) z121.2.1 z121.2.2.1 z121.2.2.2.1 z121.2.2.2.2.1 z121.2.2.2.2.2 b.1 b.2.1 b.2.2.1 b.2.2.2.1 b.2.2.2.2.1 b.2.2.2.2.2 (qS c) (qW c) (qKe c) (qIk c) (qUn c) (qUm c) (qRb c) (qRi c) (qRm c)) (okJ_mk (by omega) (by omega) (by omega) (by omega) (by omega) (by omega)) (decide (z121.2.2.1 = 3)) (show z121.2.1 ≤ qTy c by omega) H.size) (cwV 1 hts gX8_council_X8_takes rfl rfl rfl hdV_X8_takes ⟨Nat.le_of_ble_eq_true rfl, Nat.le_of_ble_eq_true rfl⟩) ((PreM.mk hP hK hN hD).pre (ci := 8) (q0 := 0) rfl (WM_0 G a (mkJ (qTr c) (qTx c) (qTy c) z121.2.1 z121.2.2.1 z121.2.2.2.1 z121.2.2.2.2.1 z121.2.2.2.2.2 b.1 b.2.1 b.2.2.1 b.2.2.2.1 b.2.2.2.2.1 b.2.2.2.2.2 (qS c) (qW c) (qKe c) (qIk c) (qUn c) (qUm c) (qRb c) (qRi c) (qRm c)))) rfl rfl hl.1 rfl (lv_room (Nat.le_of_ble_eq_true rfl)) dX8_council_151 ⟨hrc, hrs⟩) hD hS hA WM_fst (fun H locs hP hD hS => ?_)
            replace hP : va_P G.1 vwCl (WM G a (mkJ (qTr c) (qTx c) (qTy c) ((jTk (qTx c) (qTy c) z121.2.1 z121.2.2.1 z121.2.2.2.1 z121.2.2.2.2.1 z121.2.2.2.2.2 (decide (z121.2.2.1 = 3))).2.1) ((jTk (qTx c) (qTy c) z121.2.1 z121.2.2.1 z121.2.2.2.1 z121.2.2.2.2.1 z121.2.2.2.2.2 (decide (z121.2.2.1 = 3))).2.2.1) ((jTk (qTx c) (qTy c) z121.2.1 z121.2.2.1 z121.2.2.2.1 z121.2.2.2.2.1 z121.2.2.2.2.2 (decide (z121.2.2.1 = 3))).2.2.2.1) ((jTk (qTx c) (qTy c) z121.2.1 z121.2.2.1 z121.2.2.2.1 z121.2.2.2.2.1 z121.2.2.2.2.2 (decide (z121.2.2.1 = 3))).2.2.2.2.1) ((jTk (qTx c) (qTy c) z121.2.1 z121.2.2.1 z121.2.2.2.1 z121.2.2.2.2.1 z121.2.2.2.2.2 (decide (z121.2.2.1 = 3))).2.2.2.2.2) b.1 b.2.1 b.2.2.1 b.2.2.2.1 b.2.2.2.2.1 b.2.2.2.2.2 (qS c) (qW c) (qKe c) (qIk c) (qUn c) (qUm c) (qRb c) (qRi c) (qRm c))) H := hP
            replace hD : va_D A (WM G a (mkJ (qTr c) (qTx c) (qTy c) ((jTk (qTx c) (qTy c) z121.2.1 z121.2.2.1 z121.2.2.2.1 z121.2.2.2.2.1 z121.2.2.2.2.2 (decide (z121.2.2.1 = 3))).2.1) ((jTk (qTx c) (qTy c) z121.2.1 z121.2.2.1 z121.2.2.2.1 z121.2.2.2.2.1 z121.2.2.2.2.2 (decide (z121.2.2.1 = 3))).2.2.1) ((jTk (qTx c) (qTy c) z121.2.1 z121.2.2.1 z121.2.2.2.1 z121.2.2.2.2.1 z121.2.2.2.2.2 (decide (z121.2.2.1 = 3))).2.2.2.1) ((jTk (qTx c) (qTy c) z121.2.1 z121.2.2.1 z121.2.2.2.1 z121.2.2.2.2.1 z121.2.2.2.2.2 (decide (z121.2.2.1 = 3))).2.2.2.2.1) ((jTk (qTx c) (qTy c) z121.2.1 z121.2.2.1 z121.2.2.2.1 z121.2.2.2.2.1 z121.2.2.2.2.2 (decide (z121.2.2.1 = 3))).2.2.2.2.2) b.1 b.2.1 b.2.2.1 b.2.2.2.1 b.2.2.2.2.1 b.2.2.2.2.2 (qS c) (qW c) (qKe c) (qIk c) (qUn c) (qUm c) (qRb c) (qRi c) (qRm c))) := hD
            refine W.eq (g2 := F0 m 154 ls [.int (nI ((jTk (qTx c) (qTy c) z121.2.1 z121.2.2.1 z121.2.2.2.1 z121.2.2.2.2.1 z121.2.2.2.2.2 (decide (z121.2.2.1 = 3))).1))]) rfl ?_
            generalize hz151 : jTk (qTx c) (qTy c) z121.2.1 z121.2.2.1 z121.2.2.2.1 z121.2.2.2.2.1 z121.2.2.2.2.2 (decide (z121.2.2.1 = 3)) = z151 at hP hD ⊢
            have hn151 : z151.2.1 ≤ qTy c := by rw [← hz151]; exact jTk_ne (by omega)
            refine lv_pop hx hb dX8_council_154 rfl ?_
            refine lv_iinc (v := (nI (i + 1))) (lv' := [(1, .int (nI (i + 1))), (2, .int (nI z121.1)), (0, .ref (a 0))]) hx hb dX8_council_155 hl (k := 1) rfl (wk_i1 i) (by decide) rfl (fun ls hl => ?_)
            refine lv_goto (tgt := 47) hx hb dX8_council_158 (by decide) ?_
            have e3 : jStp (qTx c) (qTy c) i (r, b) = (z151.2, b) := by rw [jStp, e2]; exact congrArg (fun z : Nat × RJ => ((z.2, b) : SJ)) hz151
            obtain ⟨hj9, hJ3⟩ := JI_step (tx := qTx c) hl200 hJ h51 c58
            rw [e3] at hJ3
            exact ih47 (i + 1, z151.2, b) (n47 - 1) ls H _ (by omega) (⟨by rw [← hL, jCo_go hj9 h51 c58, e3], hJ3⟩) (lv_sub hl [0, 2] rfl) hP hD hS
          · refine lv_aload_n hx hb dX8_council_138 rfl (lv_at hl 2 rfl) ?_
            refine va_get (D := G.1) (v := .int z121.2.2.1) hx hb hts hin8 hown hK hP 0 (WM_0 G a (mkJ (qTr c) (qTx c) (qTy c) z121.2.1 z121.2.2.1 z121.2.2.2.1 z121.2.2.2.2.1 z121.2.2.2.2.2 b.1 b.2.1 b.2.2.1 b.2.2.2.1 b.2.2.2.2.1 b.2.2.2.2.2 (qS c) (qW c) (qKe c) (qIk c) (qUn c) (qUm c) (qRb c) (qRi c) (qRm c))) rfl 5 (by decide) hf71 (fun _ h => h) rfl dX8_council_139 ?_
            refine lv_iconst (v := 3) hx hb dX8_council_142 (by decide) ?_
            refine lv_icmp_ne (tgt := 150) hx hb dX8_council_143 (by decide) (fun c143 => ?_) (fun c143 => ?_)
            · refine lv_iconst (v := 0) hx hb dX8_council_150 (by decide) ?_
              exact k151 0 (by simp [b2i, c143])
            · refine lv_iconst (v := 1) hx hb dX8_council_146 (by decide) ?_
              refine lv_goto (tgt := 151) hx hb dX8_council_147 (by decide) ?_
              exact k151 1 (by simp [b2i, c143])
        · have c129 := b2i_t c129
          have h129 := jWl_t c129
          have h7 : nI z121.1 = 116 → b.1 3 < 7 := fun hw => JI_h7 hl200 hJ h51 (by rw [e1]; exact h129) (by rw [e1]; exact hw)
          refine lv_aload_n hx hb dX8_council_132 rfl (lv_at hl 2 rfl) ?_
          refine lv_iload_n hx hb dX8_council_133 rfl (lv_at hl 0 rfl) ?_
          refine wk_callA (va_runV (As := [.int (nI z121.1)]) (rest := []) ⟨hx, hb, hml, hown, hts⟩ (c_X8_readsItem l G a (mkJ (qTr c) (qTx c) (qTy c) z121.2.1 z121.2.2.1 z121.2.2.2.1 z121.2.2.2.2.1 z121.2.2.2.2.2 b.1 b.2.1 b.2.2.1 b.2.2.2.1 b.2.2.2.2.1 b.2.2.2.2.2 (qS c) (qW c) (qKe c) (qIk c) (qUn c) (qUm c) (qRb c) (qRi c) (qRm c)) (okJ_mk (by omega) (by omega) (by omega) (by omega) (by omega) (by omega)) (nI z121.1) (show z121.2.1 ≤ qTy c by omega) h7 H.size) (cwV 1 hts gX8_council_X8_readsItem rfl rfl rfl hdV_X8_readsItem ⟨Nat.le_of_ble_eq_true rfl, Nat.le_of_ble_eq_true rfl⟩) ((PreM.mk hP hK hN hD).pre (ci := 8) (q0 := 0) rfl (WM_0 G a (mkJ (qTr c) (qTx c) (qTy c) z121.2.1 z121.2.2.1 z121.2.2.2.1 z121.2.2.2.2.1 z121.2.2.2.2.2 b.1 b.2.1 b.2.2.1 b.2.2.2.1 b.2.2.2.2.1 b.2.2.2.2.2 (qS c) (qW c) (qKe c) (qIk c) (qUn c) (qUm c) (qRb c) (qRi c) (qRm c)))) rfl rfl hl.1 rfl (lv_room (Nat.le_of_ble_eq_true rfl)) dX8_council_134 ⟨hrc, hrs⟩) hD hS hA WM_fst (fun H locs hP hD hS => ?_)
          replace hP : va_P G.1 vwCl (WM G a (mkJ (qTr c) (qTx c) (qTy c) ((jIt (qTx c) (qTy c) (nI z121.1) (z121.2.1, z121.2.2.1, z121.2.2.2.1, z121.2.2.2.2.1, z121.2.2.2.2.2) (b.1, b.2.1, b.2.2.1, b.2.2.2.1, b.2.2.2.2.1, b.2.2.2.2.2)).1.1) ((jIt (qTx c) (qTy c) (nI z121.1) (z121.2.1, z121.2.2.1, z121.2.2.2.1, z121.2.2.2.2.1, z121.2.2.2.2.2) (b.1, b.2.1, b.2.2.1, b.2.2.2.1, b.2.2.2.2.1, b.2.2.2.2.2)).1.2.1) ((jIt (qTx c) (qTy c) (nI z121.1) (z121.2.1, z121.2.2.1, z121.2.2.2.1, z121.2.2.2.2.1, z121.2.2.2.2.2) (b.1, b.2.1, b.2.2.1, b.2.2.2.1, b.2.2.2.2.1, b.2.2.2.2.2)).1.2.2.1) ((jIt (qTx c) (qTy c) (nI z121.1) (z121.2.1, z121.2.2.1, z121.2.2.2.1, z121.2.2.2.2.1, z121.2.2.2.2.2) (b.1, b.2.1, b.2.2.1, b.2.2.2.1, b.2.2.2.2.1, b.2.2.2.2.2)).1.2.2.2.1) ((jIt (qTx c) (qTy c) (nI z121.1) (z121.2.1, z121.2.2.1, z121.2.2.2.1, z121.2.2.2.2.1, z121.2.2.2.2.2) (b.1, b.2.1, b.2.2.1, b.2.2.2.1, b.2.2.2.2.1, b.2.2.2.2.2)).1.2.2.2.2) ((jIt (qTx c) (qTy c) (nI z121.1) (z121.2.1, z121.2.2.1, z121.2.2.2.1, z121.2.2.2.2.1, z121.2.2.2.2.2) (b.1, b.2.1, b.2.2.1, b.2.2.2.1, b.2.2.2.2.1, b.2.2.2.2.2)).2.1) ((jIt (qTx c) (qTy c) (nI z121.1) (z121.2.1, z121.2.2.1, z121.2.2.2.1, z121.2.2.2.2.1, z121.2.2.2.2.2) (b.1, b.2.1, b.2.2.1, b.2.2.2.1, b.2.2.2.2.1, b.2.2.2.2.2)).2.2.1) ((jIt (qTx c) (qTy c) (nI z121.1) (z121.2.1, z121.2.2.1, z121.2.2.2.1, z121.2.2.2.2.1, z121.2.2.2.2.2) (b.1, b.2.1, b.2.2.1, b.2.2.2.1, b.2.2.2.2.1, b.2.2.2.2.2)).2.2.2.1) ((jIt (qTx c) (qTy c) (nI z121.1) (z121.2.1, z121.2.2.1, z121.2.2.2.1, z121.2.2.2.2.1, z121.2.2.2.2.2) (b.1, b.2.1, b.2.2.1, b.2.2.2.1, b.2.2.2.2.1, b.2.2.2.2.2)).2.2.2.2.1) ((jIt (qTx c) (qTy c) (nI z121.1) (z121.2.1, z121.2.2.1, z121.2.2.2.1, z121.2.2.2.2.1, z121.2.2.2.2.2) (b.1, b.2.1, b.2.2.1, b.2.2.2.1, b.2.2.2.2.1, b.2.2.2.2.2)).2.2.2.2.2.1) ((jIt (qTx c) (qTy c) (nI z121.1) (z121.2.1, z121.2.2.1, z121.2.2.2.1, z121.2.2.2.2.1, z121.2.2.2.2.2) (b.1, b.2.1, b.2.2.1, b.2.2.2.1, b.2.2.2.2.1, b.2.2.2.2.2)).2.2.2.2.2.2) (qS c) (qW c) (qKe c) (qIk c) (qUn c) (qUm c) (qRb c) (qRi c) (qRm c))) H := hP
          replace hD : va_D A (WM G a (mkJ (qTr c) (qTx c) (qTy c) ((jIt (qTx c) (qTy c) (nI z121.1) (z121.2.1, z121.2.2.1, z121.2.2.2.1, z121.2.2.2.2.1, z121.2.2.2.2.2) (b.1, b.2.1, b.2.2.1, b.2.2.2.1, b.2.2.2.2.1, b.2.2.2.2.2)).1.1) ((jIt (qTx c) (qTy c) (nI z121.1) (z121.2.1, z121.2.2.1, z121.2.2.2.1, z121.2.2.2.2.1, z121.2.2.2.2.2) (b.1, b.2.1, b.2.2.1, b.2.2.2.1, b.2.2.2.2.1, b.2.2.2.2.2)).1.2.1) ((jIt (qTx c) (qTy c) (nI z121.1) (z121.2.1, z121.2.2.1, z121.2.2.2.1, z121.2.2.2.2.1, z121.2.2.2.2.2) (b.1, b.2.1, b.2.2.1, b.2.2.2.1, b.2.2.2.2.1, b.2.2.2.2.2)).1.2.2.1) ((jIt (qTx c) (qTy c) (nI z121.1) (z121.2.1, z121.2.2.1, z121.2.2.2.1, z121.2.2.2.2.1, z121.2.2.2.2.2) (b.1, b.2.1, b.2.2.1, b.2.2.2.1, b.2.2.2.2.1, b.2.2.2.2.2)).1.2.2.2.1) ((jIt (qTx c) (qTy c) (nI z121.1) (z121.2.1, z121.2.2.1, z121.2.2.2.1, z121.2.2.2.2.1, z121.2.2.2.2.2) (b.1, b.2.1, b.2.2.1, b.2.2.2.1, b.2.2.2.2.1, b.2.2.2.2.2)).1.2.2.2.2) ((jIt (qTx c) (qTy c) (nI z121.1) (z121.2.1, z121.2.2.1, z121.2.2.2.1, z121.2.2.2.2.1, z121.2.2.2.2.2) (b.1, b.2.1, b.2.2.1, b.2.2.2.1, b.2.2.2.2.1, b.2.2.2.2.2)).2.1) ((jIt (qTx c) (qTy c) (nI z121.1) (z121.2.1, z121.2.2.1, z121.2.2.2.1, z121.2.2.2.2.1, z121.2.2.2.2.2) (b.1, b.2.1, b.2.2.1, b.2.2.2.1, b.2.2.2.2.1, b.2.2.2.2.2)).2.2.1) ((jIt (qTx c) (qTy c) (nI z121.1) (z121.2.1, z121.2.2.1, z121.2.2.2.1, z121.2.2.2.2.1, z121.2.2.2.2.2) (b.1, b.2.1, b.2.2.1, b.2.2.2.1, b.2.2.2.2.1, b.2.2.2.2.2)).2.2.2.1) ((jIt (qTx c) (qTy c) (nI z121.1) (z121.2.1, z121.2.2.1, z121.2.2.2.1, z121.2.2.2.2.1, z121.2.2.2.2.2) (b.1, b.2.1, b.2.2.1, b.2.2.2.1, b.2.2.2.2.1, b.2.2.2.2.2)).2.2.2.2.1) ((jIt (qTx c) (qTy c) (nI z121.1) (z121.2.1, z121.2.2.1, z121.2.2.2.1, z121.2.2.2.2.1, z121.2.2.2.2.2) (b.1, b.2.1, b.2.2.1, b.2.2.2.1, b.2.2.2.2.1, b.2.2.2.2.2)).2.2.2.2.2.1) ((jIt (qTx c) (qTy c) (nI z121.1) (z121.2.1, z121.2.2.1, z121.2.2.2.1, z121.2.2.2.2.1, z121.2.2.2.2.2) (b.1, b.2.1, b.2.2.1, b.2.2.2.1, b.2.2.2.2.1, b.2.2.2.2.2)).2.2.2.2.2.2) (qS c) (qW c) (qKe c) (qIk c) (qUn c) (qUm c) (qRb c) (qRi c) (qRm c))) := hD
          refine W.eq (g2 := F0 m 137 ls []) rfl ?_
          generalize hz134 : jIt (qTx c) (qTy c) (nI z121.1) (z121.2.1, z121.2.2.1, z121.2.2.2.1, z121.2.2.2.2.1, z121.2.2.2.2.2) (b.1, b.2.1, b.2.2.1, b.2.2.2.1, b.2.2.2.2.1, b.2.2.2.2.2) = z134 at hP hD
          have hn134 : z134.1.1 ≤ qTy c := by rw [← hz134]; exact jIt_ne (show _ ≤ _ by omega)
          have e2 : jSt2 (qTx c) (qTy c) i (r, b) = z134 := by rw [jSt2, e1, if_neg h129]; exact hz134
          obtain ⟨-, hJ2⟩ := JI_2 (tx := qTx c) hl200 hJ h51 c58
          rw [e2] at hJ2
          have d4 : z134.2.1 0 ≤ 7 := hJ2.2.1
          have d5 : 1 ≤ z134.2.1 1 := hJ2.2.2.1
          have d6 : z134.2.1 1 ≤ 5 := hJ2.2.2.2.1
          refine lv_aload_n hx hb dX8_council_137 rfl (lv_at hl 2 rfl) ?_
          refine wk_cut 151 [.ref (a 0)] (fun z => z = b2i (decide (z134.1.2.1 = 3))) (fun x151 hx151 => ?_) (fun k151 => ?_)
          · subst hx151
            refine wk_callA (va_runV (As := [.int (b2i (decide (z134.1.2.1 = 3)))]) (rest := []) ⟨hx, hb, hml, hown, hts⟩ (c_X8_takes l G a (mkJ (qTr c) (qTx c) (qTy c) z134.1.1 z134.1.2.1 z134.1.2.2.1 z134.1.2.2.2.1 z134.1.2.2.2.2 z134.2.1 z134.2.2.1 z134.2.2.2.1 z134.2.2.2.2.1 z134.2.2.2.2.2.1 z134.2.2.2.2.2.2 (qS c) (qW c) (qKe c) (qIk c) (qUn c) (qUm c) (qRb c) (qRi c) (qRm c)) (okJ_mk (by omega) (by omega) (by omega) (by omega) (by omega) (by omega)) (decide (z134.1.2.1 = 3)) (show z134.1.1 ≤ qTy c by omega) H.size) (cwV 1 hts gX8_council_X8_takes rfl rfl rfl hdV_X8_takes ⟨Nat.le_of_ble_eq_true rfl, Nat.le_of_ble_eq_true rfl⟩) ((PreM.mk hP hK hN hD).pre (ci := 8) (q0 := 0) rfl (WM_0 G a (mkJ (qTr c) (qTx c) (qTy c) z134.1.1 z134.1.2.1 z134.1.2.2.1 z134.1.2.2.2.1 z134.1.2.2.2.2 z134.2.1 z134.2.2.1 z134.2.2.2.1 z134.2.2.2.2.1 z134.2.2.2.2.2.1 z134.2.2.2.2.2.2 (qS c) (qW c) (qKe c) (qIk c) (qUn c) (qUm c) (qRb c) (qRi c) (qRm c)))) rfl rfl hl.1 rfl (lv_room (Nat.le_of_ble_eq_true rfl)) dX8_council_151 ⟨hrc, hrs⟩) hD hS hA WM_fst (fun H locs hP hD hS => ?_)
            replace hP : va_P G.1 vwCl (WM G a (mkJ (qTr c) (qTx c) (qTy c) ((jTk (qTx c) (qTy c) z134.1.1 z134.1.2.1 z134.1.2.2.1 z134.1.2.2.2.1 z134.1.2.2.2.2 (decide (z134.1.2.1 = 3))).2.1) ((jTk (qTx c) (qTy c) z134.1.1 z134.1.2.1 z134.1.2.2.1 z134.1.2.2.2.1 z134.1.2.2.2.2 (decide (z134.1.2.1 = 3))).2.2.1) ((jTk (qTx c) (qTy c) z134.1.1 z134.1.2.1 z134.1.2.2.1 z134.1.2.2.2.1 z134.1.2.2.2.2 (decide (z134.1.2.1 = 3))).2.2.2.1) ((jTk (qTx c) (qTy c) z134.1.1 z134.1.2.1 z134.1.2.2.1 z134.1.2.2.2.1 z134.1.2.2.2.2 (decide (z134.1.2.1 = 3))).2.2.2.2.1) ((jTk (qTx c) (qTy c) z134.1.1 z134.1.2.1 z134.1.2.2.1 z134.1.2.2.2.1 z134.1.2.2.2.2 (decide (z134.1.2.1 = 3))).2.2.2.2.2) z134.2.1 z134.2.2.1 z134.2.2.2.1 z134.2.2.2.2.1 z134.2.2.2.2.2.1 z134.2.2.2.2.2.2 (qS c) (qW c) (qKe c) (qIk c) (qUn c) (qUm c) (qRb c) (qRi c) (qRm c))) H := hP
            replace hD : va_D A (WM G a (mkJ (qTr c) (qTx c) (qTy c) ((jTk (qTx c) (qTy c) z134.1.1 z134.1.2.1 z134.1.2.2.1 z134.1.2.2.2.1 z134.1.2.2.2.2 (decide (z134.1.2.1 = 3))).2.1) ((jTk (qTx c) (qTy c) z134.1.1 z134.1.2.1 z134.1.2.2.1 z134.1.2.2.2.1 z134.1.2.2.2.2 (decide (z134.1.2.1 = 3))).2.2.1) ((jTk (qTx c) (qTy c) z134.1.1 z134.1.2.1 z134.1.2.2.1 z134.1.2.2.2.1 z134.1.2.2.2.2 (decide (z134.1.2.1 = 3))).2.2.2.1) ((jTk (qTx c) (qTy c) z134.1.1 z134.1.2.1 z134.1.2.2.1 z134.1.2.2.2.1 z134.1.2.2.2.2 (decide (z134.1.2.1 = 3))).2.2.2.2.1) ((jTk (qTx c) (qTy c) z134.1.1 z134.1.2.1 z134.1.2.2.1 z134.1.2.2.2.1 z134.1.2.2.2.2 (decide (z134.1.2.1 = 3))).2.2.2.2.2) z134.2.1 z134.2.2.1 z134.2.2.2.1 z134.2.2.2.2.1 z134.2.2.2.2.2.1 z134.2.2.2.2.2.2 (qS c) (qW c) (qKe c) (qIk c) (qUn c) (qUm c) (qRb c) (qRi c) (qRm c))) := hD
            refine W.eq (g2 := F0 m 154 ls [.int (nI ((jTk (qTx c) (qTy c) z134.1.1 z134.1.2.1 z134.1.2.2.1 z134.1.2.2.2.1 z134.1.2.2.2.2 (decide (z134.1.2.1 = 3))).1))]) rfl ?_
            generalize hz151 : jTk (qTx c) (qTy c) z134.1.1 z134.1.2.1 z134.1.2.2.1 z134.1.2.2.2.1 z134.1.2.2.2.2 (decide (z134.1.2.1 = 3)) = z151 at hP hD ⊢
            have hn151 : z151.2.1 ≤ qTy c := by rw [← hz151]; exact jTk_ne (by omega)
            refine lv_pop hx hb dX8_council_154 rfl ?_
            refine lv_iinc (v := (nI (i + 1))) (lv' := [(1, .int (nI (i + 1))), (2, .int (nI z121.1)), (0, .ref (a 0))]) hx hb dX8_council_155 hl (k := 1) rfl (wk_i1 i) (by decide) rfl (fun ls hl => ?_)
            refine lv_goto (tgt := 47) hx hb dX8_council_158 (by decide) ?_
            have e3 : jStp (qTx c) (qTy c) i (r, b) = (z151.2, z134.2) := by rw [jStp, e2]; exact congrArg (fun z : Nat × RJ => ((z.2, z134.2) : SJ)) hz151
            obtain ⟨hj9, hJ3⟩ := JI_step (tx := qTx c) hl200 hJ h51 c58
            rw [e3] at hJ3
            exact ih47 (i + 1, z151.2, z134.2) (n47 - 1) ls H _ (by omega) (⟨by rw [← hL, jCo_go hj9 h51 c58, e3], hJ3⟩) (lv_sub hl [0, 2] rfl) hP hD hS
          · refine lv_aload_n hx hb dX8_council_138 rfl (lv_at hl 2 rfl) ?_
            refine va_get (D := G.1) (v := .int z134.1.2.1) hx hb hts hin8 hown hK hP 0 (WM_0 G a (mkJ (qTr c) (qTx c) (qTy c) z134.1.1 z134.1.2.1 z134.1.2.2.1 z134.1.2.2.2.1 z134.1.2.2.2.2 z134.2.1 z134.2.2.1 z134.2.2.2.1 z134.2.2.2.2.1 z134.2.2.2.2.2.1 z134.2.2.2.2.2.2 (qS c) (qW c) (qKe c) (qIk c) (qUn c) (qUm c) (qRb c) (qRi c) (qRm c))) rfl 5 (by decide) hf71 (fun _ h => h) rfl dX8_council_139 ?_
            refine lv_iconst (v := 3) hx hb dX8_council_142 (by decide) ?_
            refine lv_icmp_ne (tgt := 150) hx hb dX8_council_143 (by decide) (fun c143 => ?_) (fun c143 => ?_)
            · refine lv_iconst (v := 0) hx hb dX8_council_150 (by decide) ?_
              exact k151 0 (by simp [b2i, c143])
            · refine lv_iconst (v := 1) hx hb dX8_council_146 (by decide) ?_
              refine lv_goto (tgt := 151) hx hb dX8_council_147 (by decide) ?_
              exact k151 1 (by simp [b2i, c143])
      · refine lv_aload_n hx hb dX8_council_62 rfl (lv_at hl 1 rfl) ?_
        refine va_get (D := G.1) (v := .int r.2.1) hx hb hts hin8 hown hK hP 0 (WM_0 G a (mkJ (qTr c) (qTx c) (qTy c) r.1 r.2.1 r.2.2.1 r.2.2.2.1 r.2.2.2.2 b.1 b.2.1 b.2.2.1 b.2.2.2.1 b.2.2.2.2.1 b.2.2.2.2.2 (qS c) (qW c) (qKe c) (qIk c) (qUn c) (qUm c) (qRb c) (qRi c) (qRm c))) rfl 5 (by decide) hf71 (fun _ h => h) rfl dX8_council_63 ?_
        refine lv_iconst (v := 1) hx hb dX8_council_66 (by decide) ?_
        refine lv_icmp_ne (tgt := 120) hx hb dX8_council_67 (by decide) (fun c67 => ?_) (fun c67 => ?_)
        · refine lv_iconst (v := 0) hx hb dX8_council_120 (by decide) ?_
          exact k121 0 (by simp [b2i, jU, c67])
        · refine lv_aload_n hx hb dX8_council_70 rfl (lv_at hl 1 rfl) ?_
          refine va_get (D := G.1) (v := .int (nI r.2.2.2.1)) hx hb hts hin8 hown hK hP 0 (WM_0 G a (mkJ (qTr c) (qTx c) (qTy c) r.1 r.2.1 r.2.2.1 r.2.2.2.1 r.2.2.2.2 b.1 b.2.1 b.2.2.1 b.2.2.2.1 b.2.2.2.2.1 b.2.2.2.2.2 (qS c) (qW c) (qKe c) (qIk c) (qUn c) (qUm c) (qRb c) (qRi c) (qRm c))) rfl 7 (by decide) hf74 (fun _ h => h) rfl dX8_council_71 ?_
          skip
          refine lv_bipush (v := 111) hx hb dX8_council_74 (by decide) ?_
          refine lv_icmp_ne (tgt := 86) hx hb dX8_council_76 (by decide) (fun c76 => ?_) (fun c76 => ?_)
          · refine lv_aload_n hx hb dX8_council_86 rfl (lv_at hl 1 rfl) ?_
            refine va_get (D := G.1) (v := .int (nI r.2.2.2.1)) hx hb hts hin8 hown hK hP 0 (WM_0 G a (mkJ (qTr c) (qTx c) (qTy c) r.1 r.2.1 r.2.2.1 r.2.2.2.1 r.2.2.2.2 b.1 b.2.1 b.2.2.1 b.2.2.2.1 b.2.2.2.2.1 b.2.2.2.2.2 (qS c) (qW c) (qKe c) (qIk c) (qUn c) (qUm c) (qRb c) (qRi c) (qRm c))) rfl 7 (by decide) hf74 (fun _ h => h) rfl dX8_council_87 ?_
            skip
            refine lv_bipush (v := 116) hx hb dX8_council_90 (by decide) ?_
            refine lv_icmp_ne (tgt := 109) hx hb dX8_council_92 (by decide) (fun c92 => ?_) (fun c92 => ?_)
            · refine lv_aload_n hx hb dX8_council_109 rfl (lv_at hl 1 rfl) ?_
              refine va_get (D := G.1) (v := .int (b2i b.2.2.2.2.2)) hx hb hts hin8 hown hK hP 0 (WM_0 G a (mkJ (qTr c) (qTx c) (qTy c) r.1 r.2.1 r.2.2.1 r.2.2.2.1 r.2.2.2.2 b.1 b.2.1 b.2.2.1 b.2.2.2.1 b.2.2.2.2.1 b.2.2.2.2.2 (qS c) (qW c) (qKe c) (qIk c) (qUn c) (qUm c) (qRb c) (qRi c) (qRm c))) rfl 14 (by decide) hf95 (fun _ h => h) rfl dX8_council_110 ?_
              refine lv_if_ne (tgt := 120) hx hb dX8_council_113 (by decide) (fun c113 => ?_) (fun c113 => ?_)
              · have c113 := b2i_t c113
                refine lv_iconst (v := 0) hx hb dX8_council_120 (by decide) ?_
                exact k121 0 (by simp [b2i, jU, c67, c76, c92, c113])
              · have c113 := b2i_f c113
                refine lv_iconst (v := 1) hx hb dX8_council_116 (by decide) ?_
                refine lv_goto (tgt := 121) hx hb dX8_council_117 (by decide) ?_
                exact k121 1 (by simp [b2i, jU, c67, c76, c92, c113])
            · refine lv_aload_n hx hb dX8_council_95 rfl (lv_at hl 1 rfl) ?_
              refine va_get (D := G.1) (v := .ref (a 1)) hx hb hts hin8 hown hK hP 0 (WM_0 G a (mkJ (qTr c) (qTx c) (qTy c) r.1 r.2.1 r.2.2.1 r.2.2.2.1 r.2.2.2.2 b.1 b.2.1 b.2.2.1 b.2.2.2.1 b.2.2.2.2.1 b.2.2.2.2.2 (qS c) (qW c) (qKe c) (qIk c) (qUn c) (qUm c) (qRb c) (qRi c) (qRm c))) rfl 9 (by decide) hf13 (fun _ h => h) rfl dX8_council_96 ?_
              refine lv_iconst (v := 3) hx hb dX8_council_99 (by decide) ?_
              refine wk_iald (i := 3) hx hb hK hP 1 1 (WM_1 G a (mkJ (qTr c) (qTx c) (qTy c) r.1 r.2.1 r.2.2.1 r.2.2.2.1 r.2.2.2.2 b.1 b.2.1 b.2.2.1 b.2.2.2.1 b.2.2.2.2.1 b.2.2.2.2.2 (qS c) (qW c) (qKe c) (qIk c) (qUn c) (qUm c) (qRb c) (qRi c) (qRm c))) rfl (by omega) (Nat.le_of_ble_eq_true rfl) dX8_council_100 ?_
              refine lv_bipush (v := 7) hx hb dX8_council_101 (by decide) ?_
              refine wk_ge (x := (b.1 3)) (y := 7) (tgt := 120) hx hb (by omega) (by omega) dX8_council_103 (by decide) (fun c103 => ?_) (fun c103 => ?_)
              · refine lv_iconst (v := 0) hx hb dX8_council_120 (by decide) ?_
                exact k121 0 (by simp [b2i, jU, c67, c76, c92, c103])
              · refine lv_goto (tgt := 116) hx hb dX8_council_106 (by decide) ?_
                refine lv_iconst (v := 1) hx hb dX8_council_116 (by decide) ?_
                refine lv_goto (tgt := 121) hx hb dX8_council_117 (by decide) ?_
                exact k121 1 (by simp [b2i, jU, c67, c76, c92, c103])
          · refine lv_iload_n hx hb dX8_council_79 rfl (lv_at hl 0 rfl) ?_
            refine lv_if_ne (tgt := 120) hx hb dX8_council_80 (by decide) (fun c80 => ?_) (fun c80 => ?_)
            · have c80 := nI_nz c80
              refine lv_iconst (v := 0) hx hb dX8_council_120 (by decide) ?_
              exact k121 0 (by simp [b2i, jU, c67, c76, Nat.ne_of_gt c80])
            · have c80 := nI_z (by omega) c80
              refine lv_goto (tgt := 116) hx hb dX8_council_83 (by decide) ?_
              refine lv_iconst (v := 1) hx hb dX8_council_116 (by decide) ?_
              refine lv_goto (tgt := 121) hx hb dX8_council_117 (by decide) ?_
              exact k121 1 (by simp [b2i, jU, c67, c76, c80])

theorem hdV_X8_puts : yX8_puts.cls = RX8 ∧ yX8_puts.cls ≠ "java/lang/invoke/MethodHandle" ∧ yX8_puts.cls ≠ "java/lang/invoke/VarHandle" ∧ (parseMethodDescriptor yX8_puts.desc).map (fun d => d.parameters.length) = some 1 := by decide +kernel
set_option maxHeartbeats 600000 in
set_option maxRecDepth 100000 in
theorem c_X8_puts (l : Launch) (G : GG) (a : Nat → Nat) (c : JX) (hc : OkJ c) (b : Int32) (sz : Nat) : Met l yX8_puts wsX8_puts ({ frames := 3, cells := 0, slots := 0, locals := 68 }) (va_Pc [.ref (a 0), .int b] (fun U => PreM G (WM G a c) sz U U.heap)) (Qm G.1 vwCl (some (.int (yPuts c b).1)) (WM G a ((yPuts c b).2)) (va_A (WM G a c) sz)) 0 0 (va_A (WM G a c) sz) := by
  refine Met.ofW (cc := cX8_puts) (maxL := 4) (ret := (some .int)) (by decide) rfl ?_
  intro p e s m args below meth cd s₁ BB hml hv
  obtain ⟨rfl, ⟨hP, hK, hN⟩, hD0, hsz⟩ := hv
  have hx := BB.exec
  have hb := BB.bytes
  have hr := BB.returns
  have hts := atoms_spec (ws := wsX8_puts) BB.pre
  have hown : s.vm.findClass RX8 = some m.cls := findClass_of_methodNamed BB.named
  have hlocks := BB.notSynchronized
  have hrc : 0 + 0 ≤ (headSpec wsX8_puts ({ frames := 3, cells := 0, slots := 0, locals := 68 })).room.cells := Nat.le_refl _
  have hrs : 0 + 0 ≤ (headSpec wsX8_puts ({ frames := 3, cells := 0, slots := 0, locals := 68 })).room.slots := Nat.le_refl _
  subst hsz
  have hD := hD0.self (sz := s.heap.size)
  generalize hAe : va_A (WM G a c) s.heap.size = A at hD ⊢
  have hA : ∀ q : Nat, s.heap.size ≤ q → A q := fun q h => by rw [← hAe]; exact Or.inr h
  have hS : va_S A s.heap s.heap [] := va_S.rf
  obtain ⟨hk7, ho1, ho5, hl200, hr6, hu10⟩ := id hc
  have hin8 : ∀ w ∈ u_ws RX8 TX8 24, w ∈ wsX8_puts := by decide +kernel
  have hf13 := hts (.fieldLink RX8 13 "RegaliaVotesModel" "many" "[I") (by decide +kernel)
  have hf28 := hts (.fieldLink RX8 28 "RegaliaVotesModel" "s" "[I") (by decide +kernel)
  have hf50 := hts (.fieldLink RX8 50 "RegaliaVotesModel" "thrown" "I") (by decide +kernel)
  have hk7n : qN (yNote c) 0 ≤ 7 := (okJ_note hc).1
  refine wk_enter (n := 4) (Nat.le_of_ble_eq_true rfl) (fun ls hl => ?_)
  have hl : lv_has ls 4 [(0, .ref (a 0)), (1, .int b)] := hl
  refine lv_aload_n hx hb dX8_puts_0 rfl (lv_at hl 0 rfl) ?_
  refine lv_iconst (v := 0) hx hb dX8_puts_1 (by decide) ?_
  refine va_put (D := G.1) (v := .int 0) (ty := .int) hx hb hts hin8 tyX8 tyX8_ok nmX8 hown hK hP hD hS 0 (WM_0 G a c) rfl 0 (by decide) hf50 (fun _ h => h) rfl (by decide +kernel) rfl rfl (Nat.le_of_ble_eq_true rfl) dX8_puts_2 (fun H locs hP hD hS => ?_)
  rw [WM_p0_0] at hP hD
  refine lv_iload_n hx hb dX8_puts_5 rfl (lv_at hl 1 rfl) ?_
  refine wk_read (va_runS (As := [.int b]) (rest := []) ⟨hx, hb, hml, hown, hts⟩ (c_X8_isBill l b) (va_cwS 1 hts gX8_puts_X8_isBill rfl rfl rfl hdS_X8_isBill ⟨Nat.le_of_ble_eq_true rfl, Nat.le_of_ble_eq_true rfl⟩) preEq rfl rfl hl.1 rfl (lv_room (Nat.le_of_ble_eq_true rfl)) dX8_puts_6 ⟨hrc, hrs⟩) ?_
  refine lv_if_ne (tgt := 14) hx hb dX8_puts_9 (by decide) (fun c9 => ?_) (fun c9 => ?_)
  · have c9 := b2i_t c9
    refine lv_aload_n hx hb dX8_puts_14 rfl (lv_at hl 0 rfl) ?_
    refine va_get (D := G.1) (v := .ref (a 5)) hx hb hts hin8 hown hK hP 0 (WM_0 G a c) rfl 15 (by decide) hf28 (fun _ h => h) rfl dX8_puts_15 ?_
    refine lv_bipush (v := 17) hx hb dX8_puts_18 (by decide) ?_
    refine wk_iald (i := 17) hx hb hK hP 5 1 (WM_5 G a c) rfl (by omega) (Nat.le_of_ble_eq_true rfl) dX8_puts_20 ?_
    refine lv_sipush (v := 999) hx hb dX8_puts_21 (by decide) ?_
    refine lv_icmp_ne (tgt := 30) hx hb dX8_puts_24 (by decide) (fun c24 => ?_) (fun c24 => ?_)
    · refine lv_aload_n hx hb dX8_puts_30 rfl (lv_at hl 0 rfl) ?_
      refine wk_callA (va_runV (As := []) (rest := []) ⟨hx, hb, hml, hown, hts⟩ (c_X8_notes l G a c hc H.size) (cwV 0 hts gX8_puts_X8_notes rfl rfl rfl hdV_X8_notes ⟨Nat.le_of_ble_eq_true rfl, Nat.le_of_ble_eq_true rfl⟩) ((PreM.mk hP hK hN hD).pre (ci := 8) (q0 := 0) rfl (WM_0 G a c)) rfl rfl hl.1 rfl (lv_room (Nat.le_of_ble_eq_true rfl)) dX8_puts_31 ⟨hrc, hrs⟩) hD hS hA WM_fst (fun H locs hP hD hS => ?_)
      refine W.eq (g2 := F0 m 34 ls []) rfl ?_
      refine wk_cut 51 [] (fun z => z = b2i (jPas (qN (yNote c) 0) (qSo (yNote c)) (qVo (yNote c)) (qBi (yNote c)) (qS (yNote c)) b)) (fun x51 hx51 => ?_) (fun k51 => ?_)
      · subst hx51
        refine lv_istore_n (lv' := [(2, .int (b2i (jPas (qN (yNote c) 0) (qSo (yNote c)) (qVo (yNote c)) (qBi (yNote c)) (qS (yNote c)) b))), (0, .ref (a 0)), (1, .int b)]) hx hb dX8_puts_51 rfl hl (by decide) rfl (fun ls hl => ?_)
        refine lv_aload_n hx hb dX8_puts_52 rfl (lv_at hl 1 rfl) ?_
        refine va_get (D := G.1) (v := .ref (a 5)) hx hb hts hin8 hown hK hP 0 (WM_0 G a (yNote c)) rfl 15 (by decide) hf28 (fun _ h => h) rfl dX8_puts_53 ?_
        refine lv_bipush (v := 17) hx hb dX8_puts_56 (by decide) ?_
        refine lv_dup2_11 hx hb dX8_puts_58 rfl rfl ?_
        refine wk_iald (i := 17) hx hb hK hP 5 1 (WM_5 G a (yNote c)) rfl (by omega) (Nat.le_of_ble_eq_true rfl) dX8_puts_59 ?_
        refine lv_iconst (v := 1) hx hb dX8_puts_60 (by decide) ?_
        refine lv_iadd hx hb dX8_puts_61 ?_
        refine wk_iast (i := 17) hx hb hK hP hD hS 5 1 (WM_5 G a (yNote c)) rfl (by omega) (Nat.le_of_ble_eq_true rfl) dX8_puts_62 (fun H locs hP hD hS => ?_)
        rw [WMc_p5] at hP hD
        replace hP : va_P G.1 vwCl (WM G a (mkJ (qTr (yNote c)) (qTx (yNote c)) (qTy (yNote c)) (qNe (yNote c)) (qTo (yNote c)) (qPl (yNote c)) (qVa (yNote c)) (qFa (yNote c)) (qN (yNote c)) (qSo (yNote c)) (qVo (yNote c)) (qBi (yNote c)) (qHo (yNote c)) (qTd (yNote c)) (upd (qS (yNote c)) 17 ((qS (yNote c) 17) + 1)) (qW (yNote c)) (qKe (yNote c)) (qIk (yNote c)) (qUn (yNote c)) (qUm (yNote c)) (qRb (yNote c)) (qRi (yNote c)) (qRm (yNote c)))) H := hP
        replace hD : va_D A (WM G a (mkJ (qTr (yNote c)) (qTx (yNote c)) (qTy (yNote c)) (qNe (yNote c)) (qTo (yNote c)) (qPl (yNote c)) (qVa (yNote c)) (qFa (yNote c)) (qN (yNote c)) (qSo (yNote c)) (qVo (yNote c)) (qBi (yNote c)) (qHo (yNote c)) (qTd (yNote c)) (upd (qS (yNote c)) 17 ((qS (yNote c) 17) + 1)) (qW (yNote c)) (qKe (yNote c)) (qIk (yNote c)) (qUn (yNote c)) (qUm (yNote c)) (qRb (yNote c)) (qRi (yNote c)) (qRm (yNote c)))) := hD
        refine lv_aload_n hx hb dX8_puts_63 rfl (lv_at hl 1 rfl) ?_
        refine va_get (D := G.1) (v := .ref (a 5)) hx hb hts hin8 hown hK hP 0 (WM_0 G a (mkJ (qTr (yNote c)) (qTx (yNote c)) (qTy (yNote c)) (qNe (yNote c)) (qTo (yNote c)) (qPl (yNote c)) (qVa (yNote c)) (qFa (yNote c)) (qN (yNote c)) (qSo (yNote c)) (qVo (yNote c)) (qBi (yNote c)) (qHo (yNote c)) (qTd (yNote c)) (upd (qS (yNote c)) 17 ((qS (yNote c) 17) + 1)) (qW (yNote c)) (qKe (yNote c)) (qIk (yNote c)) (qUn (yNote c)) (qUm (yNote c)) (qRb (yNote c)) (qRi (yNote c)) (qRm (yNote c)))) rfl 15 (by decide) hf28 (fun _ h => h) rfl dX8_puts_64 ?_
        refine lv_bipush (v := 18) hx hb dX8_puts_67 (by decide) ?_
        refine lv_dup2_11 hx hb dX8_puts_69 rfl rfl ?_
        refine wk_iald (i := 18) hx hb hK hP 5 1 (WM_5 G a (mkJ (qTr (yNote c)) (qTx (yNote c)) (qTy (yNote c)) (qNe (yNote c)) (qTo (yNote c)) (qPl (yNote c)) (qVa (yNote c)) (qFa (yNote c)) (qN (yNote c)) (qSo (yNote c)) (qVo (yNote c)) (qBi (yNote c)) (qHo (yNote c)) (qTd (yNote c)) (upd (qS (yNote c)) 17 ((qS (yNote c) 17) + 1)) (qW (yNote c)) (qKe (yNote c)) (qIk (yNote c)) (qUn (yNote c)) (qUm (yNote c)) (qRb (yNote c)) (qRi (yNote c)) (qRm (yNote c)))) rfl (by omega) (Nat.le_of_ble_eq_true rfl) dX8_puts_70 ?_
        refine lv_iload_n hx hb dX8_puts_71 rfl (lv_at hl 0 rfl) ?_
        refine lv_iadd hx hb dX8_puts_72 ?_
        refine wk_iast (i := 18) hx hb hK hP hD hS 5 1 (WM_5 G a (mkJ (qTr (yNote c)) (qTx (yNote c)) (qTy (yNote c)) (qNe (yNote c)) (qTo (yNote c)) (qPl (yNote c)) (qVa (yNote c)) (qFa (yNote c)) (qN (yNote c)) (qSo (yNote c)) (qVo (yNote c)) (qBi (yNote c)) (qHo (yNote c)) (qTd (yNote c)) (upd (qS (yNote c)) 17 ((qS (yNote c) 17) + 1)) (qW (yNote c)) (qKe (yNote c)) (qIk (yNote c)) (qUn (yNote c)) (qUm (yNote c)) (qRb (yNote c)) (qRi (yNote c)) (qRm (yNote c)))) rfl (by omega) (Nat.le_of_ble_eq_true rfl) dX8_puts_73 (fun H locs hP hD hS => ?_)
        rw [WMk_p5] at hP hD
        replace hP : va_P G.1 vwCl (WM G a (mkJ (qTr (yNote c)) (qTx (yNote c)) (qTy (yNote c)) (qNe (yNote c)) (qTo (yNote c)) (qPl (yNote c)) (qVa (yNote c)) (qFa (yNote c)) (qN (yNote c)) (qSo (yNote c)) (qVo (yNote c)) (qBi (yNote c)) (qHo (yNote c)) (qTd (yNote c)) (upd (upd (qS (yNote c)) 17 ((qS (yNote c) 17) + 1)) 18 ((upd (qS (yNote c)) 17 ((qS (yNote c) 17) + 1) 18) + (b2i (jPas (qN (yNote c) 0) (qSo (yNote c)) (qVo (yNote c)) (qBi (yNote c)) (qS (yNote c)) b)))) (qW (yNote c)) (qKe (yNote c)) (qIk (yNote c)) (qUn (yNote c)) (qUm (yNote c)) (qRb (yNote c)) (qRi (yNote c)) (qRm (yNote c)))) H := hP
        replace hD : va_D A (WM G a (mkJ (qTr (yNote c)) (qTx (yNote c)) (qTy (yNote c)) (qNe (yNote c)) (qTo (yNote c)) (qPl (yNote c)) (qVa (yNote c)) (qFa (yNote c)) (qN (yNote c)) (qSo (yNote c)) (qVo (yNote c)) (qBi (yNote c)) (qHo (yNote c)) (qTd (yNote c)) (upd (upd (qS (yNote c)) 17 ((qS (yNote c) 17) + 1)) 18 ((upd (qS (yNote c)) 17 ((qS (yNote c) 17) + 1) 18) + (b2i (jPas (qN (yNote c) 0) (qSo (yNote c)) (qVo (yNote c)) (qBi (yNote c)) (qS (yNote c)) b)))) (qW (yNote c)) (qKe (yNote c)) (qIk (yNote c)) (qUn (yNote c)) (qUm (yNote c)) (qRb (yNote c)) (qRi (yNote c)) (qRm (yNote c)))) := hD
        refine lv_iconst (v := 0) hx hb dX8_puts_74 (by decide) ?_
        refine lv_istore_n (lv' := [(3, .int 0), (2, .int (b2i (jPas (qN (yNote c) 0) (qSo (yNote c)) (qVo (yNote c)) (qBi (yNote c)) (qS (yNote c)) b))), (0, .ref (a 0)), (1, .int b)]) hx hb dX8_puts_75 rfl hl (by decide) rfl (fun ls hl => ?_)
        have hP : va_P G.1 vwCl (WM G a (mkJ (qTr (yNote c)) (qTx (yNote c)) (qTy (yNote c)) (qNe (yNote c)) (qTo (yNote c)) (qPl (yNote c)) (qVa (yNote c)) (qFa (yNote c)) (qN (yNote c)) (qSo (yNote c)) (qVo (yNote c)) (qBi (yNote c)) (qHo (yNote c)) (qTd (yNote c)) (jCool (yPutS (qS (yNote c)) (b2i (jPas (qN (yNote c) 0) (qSo (yNote c)) (qVo (yNote c)) (qBi (yNote c)) (qS (yNote c)) b))) 0) (qW (yNote c)) (qKe (yNote c)) (qIk (yNote c)) (qUn (yNote c)) (qUm (yNote c)) (qRb (yNote c)) (qRi (yNote c)) (qRm (yNote c)))) H := by rw [jCool_0]; exact hP
        have hD : va_D A (WM G a (mkJ (qTr (yNote c)) (qTx (yNote c)) (qTy (yNote c)) (qNe (yNote c)) (qTo (yNote c)) (qPl (yNote c)) (qVa (yNote c)) (qFa (yNote c)) (qN (yNote c)) (qSo (yNote c)) (qVo (yNote c)) (qBi (yNote c)) (qHo (yNote c)) (qTd (yNote c)) (jCool (yPutS (qS (yNote c)) (b2i (jPas (qN (yNote c) 0) (qSo (yNote c)) (qVo (yNote c)) (qBi (yNote c)) (qS (yNote c)) b))) 0) (qW (yNote c)) (qKe (yNote c)) (qIk (yNote c)) (qUn (yNote c)) (qUm (yNote c)) (qRb (yNote c)) (qRi (yNote c)) (qRm (yNote c)))) := by rw [jCool_0]; exact hD
        refine wk_loopM (σ := Nat) (nL := 4) (fun xσ n => match xσ with | i => i + n = qN (yNote c) 0) (fun xσ => match xσ with | i => [(3, .int (nI i)), (2, .int (b2i (jPas (qN (yNote c) 0) (qSo (yNote c)) (qVo (yNote c)) (qBi (yNote c)) (qS (yNote c)) b))), (0, .ref (a 0)), (1, .int b)]) (fun xσ => match xσ with | i => WM G a (mkJ (qTr (yNote c)) (qTx (yNote c)) (qTy (yNote c)) (qNe (yNote c)) (qTo (yNote c)) (qPl (yNote c)) (qVa (yNote c)) (qFa (yNote c)) (qN (yNote c)) (qSo (yNote c)) (qVo (yNote c)) (qBi (yNote c)) (qHo (yNote c)) (qTd (yNote c)) (jCool (yPutS (qS (yNote c)) (b2i (jPas (qN (yNote c) 0) (qSo (yNote c)) (qVo (yNote c)) (qBi (yNote c)) (qS (yNote c)) b))) i) (qW (yNote c)) (qKe (yNote c)) (qIk (yNote c)) (qUn (yNote c)) (qUm (yNote c)) (qRb (yNote c)) (qRi (yNote c)) (qRm (yNote c)))) 0 (qN (yNote c) 0) (by omega) hl hP hD hS ?_
        rintro n76 i ls H locs hI76 hl hP hD hS ih76
        have hl : lv_has ls 4 [(3, .int (nI i)), (2, .int (b2i (jPas (qN (yNote c) 0) (qSo (yNote c)) (qVo (yNote c)) (qBi (yNote c)) (qS (yNote c)) b))), (0, .ref (a 0)), (1, .int b)] := hl
        have hP : va_P G.1 vwCl (WM G a (mkJ (qTr (yNote c)) (qTx (yNote c)) (qTy (yNote c)) (qNe (yNote c)) (qTo (yNote c)) (qPl (yNote c)) (qVa (yNote c)) (qFa (yNote c)) (qN (yNote c)) (qSo (yNote c)) (qVo (yNote c)) (qBi (yNote c)) (qHo (yNote c)) (qTd (yNote c)) (jCool (yPutS (qS (yNote c)) (b2i (jPas (qN (yNote c) 0) (qSo (yNote c)) (qVo (yNote c)) (qBi (yNote c)) (qS (yNote c)) b))) i) (qW (yNote c)) (qKe (yNote c)) (qIk (yNote c)) (qUn (yNote c)) (qUm (yNote c)) (qRb (yNote c)) (qRi (yNote c)) (qRm (yNote c)))) H := hP
        have hD : va_D A (WM G a (mkJ (qTr (yNote c)) (qTx (yNote c)) (qTy (yNote c)) (qNe (yNote c)) (qTo (yNote c)) (qPl (yNote c)) (qVa (yNote c)) (qFa (yNote c)) (qN (yNote c)) (qSo (yNote c)) (qVo (yNote c)) (qBi (yNote c)) (qHo (yNote c)) (qTd (yNote c)) (jCool (yPutS (qS (yNote c)) (b2i (jPas (qN (yNote c) 0) (qSo (yNote c)) (qVo (yNote c)) (qBi (yNote c)) (qS (yNote c)) b))) i) (qW (yNote c)) (qKe (yNote c)) (qIk (yNote c)) (qUn (yNote c)) (qUm (yNote c)) (qRb (yNote c)) (qRi (yNote c)) (qRm (yNote c)))) := hD
        refine lv_iload_n hx hb dX8_puts_76 rfl (lv_at hl 0 rfl) ?_
        refine lv_aload_n hx hb dX8_puts_77 rfl (lv_at hl 2 rfl) ?_
        refine va_get (D := G.1) (v := .ref (a 1)) hx hb hts hin8 hown hK hP 0 (WM_0 G a (mkJ (qTr (yNote c)) (qTx (yNote c)) (qTy (yNote c)) (qNe (yNote c)) (qTo (yNote c)) (qPl (yNote c)) (qVa (yNote c)) (qFa (yNote c)) (qN (yNote c)) (qSo (yNote c)) (qVo (yNote c)) (qBi (yNote c)) (qHo (yNote c)) (qTd (yNote c)) (jCool (yPutS (qS (yNote c)) (b2i (jPas (qN (yNote c) 0) (qSo (yNote c)) (qVo (yNote c)) (qBi (yNote c)) (qS (yNote c)) b))) i) (qW (yNote c)) (qKe (yNote c)) (qIk (yNote c)) (qUn (yNote c)) (qUm (yNote c)) (qRb (yNote c)) (qRi (yNote c)) (qRm (yNote c)))) rfl 9 (by decide) hf13 (fun _ h => h) rfl dX8_puts_78 ?_
        refine lv_iconst (v := 0) hx hb dX8_puts_81 (by decide) ?_
        refine wk_iald (i := 0) hx hb hK hP 1 1 (WM_1 G a (mkJ (qTr (yNote c)) (qTx (yNote c)) (qTy (yNote c)) (qNe (yNote c)) (qTo (yNote c)) (qPl (yNote c)) (qVa (yNote c)) (qFa (yNote c)) (qN (yNote c)) (qSo (yNote c)) (qVo (yNote c)) (qBi (yNote c)) (qHo (yNote c)) (qTd (yNote c)) (jCool (yPutS (qS (yNote c)) (b2i (jPas (qN (yNote c) 0) (qSo (yNote c)) (qVo (yNote c)) (qBi (yNote c)) (qS (yNote c)) b))) i) (qW (yNote c)) (qKe (yNote c)) (qIk (yNote c)) (qUn (yNote c)) (qUm (yNote c)) (qRb (yNote c)) (qRi (yNote c)) (qRm (yNote c)))) rfl (by omega) (Nat.le_of_ble_eq_true rfl) dX8_puts_82 ?_
        refine wk_ge (x := i) (y := (qN (yNote c) 0)) (tgt := 121) hx hb (by omega) (by omega) dX8_puts_83 (by decide) (fun c83 => ?_) (fun c83 => ?_)
        · obtain rfl : i = qN (yNote c) 0 := by omega
          refine lv_iload_n hx hb dX8_puts_121 rfl (lv_at hl 1 rfl) ?_
          have hq : yPuts c b = ((b2i (jPas (qN (yNote c) 0) (qSo (yNote c)) (qVo (yNote c)) (qBi (yNote c)) (qS (yNote c)) b)), mkJ (qTr (yNote c)) (qTx (yNote c)) (qTy (yNote c)) (qNe (yNote c)) (qTo (yNote c)) (qPl (yNote c)) (qVa (yNote c)) (qFa (yNote c)) (qN (yNote c)) (qSo (yNote c)) (qVo (yNote c)) (qBi (yNote c)) (qHo (yNote c)) (qTd (yNote c)) (jCool (yPutS (qS (yNote c)) (b2i (jPas (qN (yNote c) 0) (qSo (yNote c)) (qVo (yNote c)) (qBi (yNote c)) (qS (yNote c)) b))) (qN (yNote c) 0)) (qW (yNote c)) (qKe (yNote c)) (qIk (yNote c)) (qUn (yNote c)) (qUm (yNote c)) (qRb (yNote c)) (qRi (yNote c)) (qRm (yNote c))) := by (simp only [yPuts, wS_mk, note_S, note_N, note_So, note_Vo, note_Bi, c9, c24, c83, if_true, if_false, reduceIte, not_true_eq_false, not_false_eq_true, Bool.and_true, Bool.true_and, Bool.and_self, Bool.and_false, Bool.false_and, Bool.false_eq_true]) <;> rfl
          exact wk_mret' hx hb hr hlocks dX8_puts_122 hP hS (congrArg (fun z => some (Value.int z.1)) hq) (congrArg (fun z => WM G a z.2) hq)
        · refine lv_aload_n hx hb dX8_puts_86 rfl (lv_at hl 2 rfl) ?_
          refine va_get (D := G.1) (v := .ref (a 5)) hx hb hts hin8 hown hK hP 0 (WM_0 G a (mkJ (qTr (yNote c)) (qTx (yNote c)) (qTy (yNote c)) (qNe (yNote c)) (qTo (yNote c)) (qPl (yNote c)) (qVa (yNote c)) (qFa (yNote c)) (qN (yNote c)) (qSo (yNote c)) (qVo (yNote c)) (qBi (yNote c)) (qHo (yNote c)) (qTd (yNote c)) (jCool (yPutS (qS (yNote c)) (b2i (jPas (qN (yNote c) 0) (qSo (yNote c)) (qVo (yNote c)) (qBi (yNote c)) (qS (yNote c)) b))) i) (qW (yNote c)) (qKe (yNote c)) (qIk (yNote c)) (qUn (yNote c)) (qUm (yNote c)) (qRb (yNote c)) (qRi (yNote c)) (qRm (yNote c)))) rfl 15 (by decide) hf28 (fun _ h => h) rfl dX8_puts_87 ?_
          refine lv_bipush (v := 7) hx hb dX8_puts_90 (by decide) ?_
          refine lv_iload_n hx hb dX8_puts_92 rfl (lv_at hl 0 rfl) ?_
          refine wk_iadd (x := 7) (y := i) hx hb dX8_puts_93 ?_
          refine lv_dup2_11 hx hb dX8_puts_94 rfl rfl ?_
          refine wk_iald (i := (7 + i)) hx hb hK hP 5 1 (WM_5 G a (mkJ (qTr (yNote c)) (qTx (yNote c)) (qTy (yNote c)) (qNe (yNote c)) (qTo (yNote c)) (qPl (yNote c)) (qVa (yNote c)) (qFa (yNote c)) (qN (yNote c)) (qSo (yNote c)) (qVo (yNote c)) (qBi (yNote c)) (qHo (yNote c)) (qTd (yNote c)) (jCool (yPutS (qS (yNote c)) (b2i (jPas (qN (yNote c) 0) (qSo (yNote c)) (qVo (yNote c)) (qBi (yNote c)) (qS (yNote c)) b))) i) (qW (yNote c)) (qKe (yNote c)) (qIk (yNote c)) (qUn (yNote c)) (qUm (yNote c)) (qRb (yNote c)) (qRi (yNote c)) (qRm (yNote c)))) rfl (by omega) (Nat.le_of_ble_eq_true rfl) dX8_puts_95 ?_
          refine lv_aload_n hx hb dX8_puts_96 rfl (lv_at hl 2 rfl) ?_
          refine va_get (D := G.1) (v := .ref (a 5)) hx hb hts hin8 hown hK hP 0 (WM_0 G a (mkJ (qTr (yNote c)) (qTx (yNote c)) (qTy (yNote c)) (qNe (yNote c)) (qTo (yNote c)) (qPl (yNote c)) (qVa (yNote c)) (qFa (yNote c)) (qN (yNote c)) (qSo (yNote c)) (qVo (yNote c)) (qBi (yNote c)) (qHo (yNote c)) (qTd (yNote c)) (jCool (yPutS (qS (yNote c)) (b2i (jPas (qN (yNote c) 0) (qSo (yNote c)) (qVo (yNote c)) (qBi (yNote c)) (qS (yNote c)) b))) i) (qW (yNote c)) (qKe (yNote c)) (qIk (yNote c)) (qUn (yNote c)) (qUm (yNote c)) (qRb (yNote c)) (qRi (yNote c)) (qRm (yNote c)))) rfl 15 (by decide) hf28 (fun _ h => h) rfl dX8_puts_97 ?_
          refine lv_bipush (v := 7) hx hb dX8_puts_100 (by decide) ?_
          refine lv_iload_n hx hb dX8_puts_102 rfl (lv_at hl 0 rfl) ?_
          refine wk_iadd (x := 7) (y := i) hx hb dX8_puts_103 ?_
          refine wk_iald (i := (7 + i)) hx hb hK hP 5 1 (WM_5 G a (mkJ (qTr (yNote c)) (qTx (yNote c)) (qTy (yNote c)) (qNe (yNote c)) (qTo (yNote c)) (qPl (yNote c)) (qVa (yNote c)) (qFa (yNote c)) (qN (yNote c)) (qSo (yNote c)) (qVo (yNote c)) (qBi (yNote c)) (qHo (yNote c)) (qTd (yNote c)) (jCool (yPutS (qS (yNote c)) (b2i (jPas (qN (yNote c) 0) (qSo (yNote c)) (qVo (yNote c)) (qBi (yNote c)) (qS (yNote c)) b))) i) (qW (yNote c)) (qKe (yNote c)) (qIk (yNote c)) (qUn (yNote c)) (qUm (yNote c)) (qRb (yNote c)) (qRi (yNote c)) (qRm (yNote c)))) rfl (by omega) (Nat.le_of_ble_eq_true rfl) dX8_puts_104 ?_
          refine lv_if_le (tgt := 112) hx hb dX8_puts_105 (by decide) (fun c105 => ?_) (fun c105 => ?_)
          · replace c105 : jCool (yPutS (qS (yNote c)) (b2i (jPas (qN (yNote c) 0) (qSo (yNote c)) (qVo (yNote c)) (qBi (yNote c)) (qS (yNote c)) b))) i (7 + i) ≤ 0 := c105
            refine lv_iconst (v := 0) hx hb dX8_puts_112 (by decide) ?_
            refine lv_isub hx hb dX8_puts_113 ?_
            refine wk_iast (i := (7 + i)) hx hb hK hP hD hS 5 1 (WM_5 G a (mkJ (qTr (yNote c)) (qTx (yNote c)) (qTy (yNote c)) (qNe (yNote c)) (qTo (yNote c)) (qPl (yNote c)) (qVa (yNote c)) (qFa (yNote c)) (qN (yNote c)) (qSo (yNote c)) (qVo (yNote c)) (qBi (yNote c)) (qHo (yNote c)) (qTd (yNote c)) (jCool (yPutS (qS (yNote c)) (b2i (jPas (qN (yNote c) 0) (qSo (yNote c)) (qVo (yNote c)) (qBi (yNote c)) (qS (yNote c)) b))) i) (qW (yNote c)) (qKe (yNote c)) (qIk (yNote c)) (qUn (yNote c)) (qUm (yNote c)) (qRb (yNote c)) (qRi (yNote c)) (qRm (yNote c)))) rfl (by omega) (Nat.le_of_ble_eq_true rfl) dX8_puts_114 (fun H locs hP hD hS => ?_)
            rw [WMk_p5] at hP hD
            replace hP : va_P G.1 vwCl (WM G a (mkJ (qTr (yNote c)) (qTx (yNote c)) (qTy (yNote c)) (qNe (yNote c)) (qTo (yNote c)) (qPl (yNote c)) (qVa (yNote c)) (qFa (yNote c)) (qN (yNote c)) (qSo (yNote c)) (qVo (yNote c)) (qBi (yNote c)) (qHo (yNote c)) (qTd (yNote c)) (upd (jCool (yPutS (qS (yNote c)) (b2i (jPas (qN (yNote c) 0) (qSo (yNote c)) (qVo (yNote c)) (qBi (yNote c)) (qS (yNote c)) b))) i) (7 + i) ((jCool (yPutS (qS (yNote c)) (b2i (jPas (qN (yNote c) 0) (qSo (yNote c)) (qVo (yNote c)) (qBi (yNote c)) (qS (yNote c)) b))) i (7 + i)) - 0)) (qW (yNote c)) (qKe (yNote c)) (qIk (yNote c)) (qUn (yNote c)) (qUm (yNote c)) (qRb (yNote c)) (qRi (yNote c)) (qRm (yNote c)))) H := hP
            replace hD : va_D A (WM G a (mkJ (qTr (yNote c)) (qTx (yNote c)) (qTy (yNote c)) (qNe (yNote c)) (qTo (yNote c)) (qPl (yNote c)) (qVa (yNote c)) (qFa (yNote c)) (qN (yNote c)) (qSo (yNote c)) (qVo (yNote c)) (qBi (yNote c)) (qHo (yNote c)) (qTd (yNote c)) (upd (jCool (yPutS (qS (yNote c)) (b2i (jPas (qN (yNote c) 0) (qSo (yNote c)) (qVo (yNote c)) (qBi (yNote c)) (qS (yNote c)) b))) i) (7 + i) ((jCool (yPutS (qS (yNote c)) (b2i (jPas (qN (yNote c) 0) (qSo (yNote c)) (qVo (yNote c)) (qBi (yNote c)) (qS (yNote c)) b))) i (7 + i)) - 0)) (qW (yNote c)) (qKe (yNote c)) (qIk (yNote c)) (qUn (yNote c)) (qUm (yNote c)) (qRb (yNote c)) (qRi (yNote c)) (qRm (yNote c)))) := hD
            refine lv_iinc (v := (nI (i + 1))) (lv' := [(3, .int (nI (i + 1))), (2, .int (b2i (jPas (qN (yNote c) 0) (qSo (yNote c)) (qVo (yNote c)) (qBi (yNote c)) (qS (yNote c)) b))), (0, .ref (a 0)), (1, .int b)]) hx hb dX8_puts_115 hl (k := 0) rfl (wk_i1 i) (by decide) rfl (fun ls hl => ?_)
            refine lv_goto (tgt := 76) hx hb dX8_puts_118 (by decide) ?_
            rw [jCool_s 0 (if_pos c105).symm] at hP hD
            exact ih76 (i + 1) (n76 - 1) ls H _ (by omega) (by omega) (lv_sub hl [0, 1, 2, 3] rfl) hP hD hS
          · replace c105 : ¬ jCool (yPutS (qS (yNote c)) (b2i (jPas (qN (yNote c) 0) (qSo (yNote c)) (qVo (yNote c)) (qBi (yNote c)) (qS (yNote c)) b))) i (7 + i) ≤ 0 := c105
            refine lv_iconst (v := 1) hx hb dX8_puts_108 (by decide) ?_
            refine lv_goto (tgt := 113) hx hb dX8_puts_109 (by decide) ?_
            refine lv_isub hx hb dX8_puts_113 ?_
            refine wk_iast (i := (7 + i)) hx hb hK hP hD hS 5 1 (WM_5 G a (mkJ (qTr (yNote c)) (qTx (yNote c)) (qTy (yNote c)) (qNe (yNote c)) (qTo (yNote c)) (qPl (yNote c)) (qVa (yNote c)) (qFa (yNote c)) (qN (yNote c)) (qSo (yNote c)) (qVo (yNote c)) (qBi (yNote c)) (qHo (yNote c)) (qTd (yNote c)) (jCool (yPutS (qS (yNote c)) (b2i (jPas (qN (yNote c) 0) (qSo (yNote c)) (qVo (yNote c)) (qBi (yNote c)) (qS (yNote c)) b))) i) (qW (yNote c)) (qKe (yNote c)) (qIk (yNote c)) (qUn (yNote c)) (qUm (yNote c)) (qRb (yNote c)) (qRi (yNote c)) (qRm (yNote c)))) rfl (by omega) (Nat.le_of_ble_eq_true rfl) dX8_puts_114 (fun H locs hP hD hS => ?_)
            rw [WMk_p5] at hP hD
            replace hP : va_P G.1 vwCl (WM G a (mkJ (qTr (yNote c)) (qTx (yNote c)) (qTy (yNote c)) (qNe (yNote c)) (qTo (yNote c)) (qPl (yNote c)) (qVa (yNote c)) (qFa (yNote c)) (qN (yNote c)) (qSo (yNote c)) (qVo (yNote c)) (qBi (yNote c)) (qHo (yNote c)) (qTd (yNote c)) (upd (jCool (yPutS (qS (yNote c)) (b2i (jPas (qN (yNote c) 0) (qSo (yNote c)) (qVo (yNote c)) (qBi (yNote c)) (qS (yNote c)) b))) i) (7 + i) ((jCool (yPutS (qS (yNote c)) (b2i (jPas (qN (yNote c) 0) (qSo (yNote c)) (qVo (yNote c)) (qBi (yNote c)) (qS (yNote c)) b))) i (7 + i)) - 1)) (qW (yNote c)) (qKe (yNote c)) (qIk (yNote c)) (qUn (yNote c)) (qUm (yNote c)) (qRb (yNote c)) (qRi (yNote c)) (qRm (yNote c)))) H := hP
            replace hD : va_D A (WM G a (mkJ (qTr (yNote c)) (qTx (yNote c)) (qTy (yNote c)) (qNe (yNote c)) (qTo (yNote c)) (qPl (yNote c)) (qVa (yNote c)) (qFa (yNote c)) (qN (yNote c)) (qSo (yNote c)) (qVo (yNote c)) (qBi (yNote c)) (qHo (yNote c)) (qTd (yNote c)) (upd (jCool (yPutS (qS (yNote c)) (b2i (jPas (qN (yNote c) 0) (qSo (yNote c)) (qVo (yNote c)) (qBi (yNote c)) (qS (yNote c)) b))) i) (7 + i) ((jCool (yPutS (qS (yNote c)) (b2i (jPas (qN (yNote c) 0) (qSo (yNote c)) (qVo (yNote c)) (qBi (yNote c)) (qS (yNote c)) b))) i (7 + i)) - 1)) (qW (yNote c)) (qKe (yNote c)) (qIk (yNote c)) (qUn (yNote c)) (qUm (yNote c)) (qRb (yNote c)) (qRi (yNote c)) (qRm (yNote c)))) := hD
            refine lv_iinc (v := (nI (i + 1))) (lv' := [(3, .int (nI (i + 1))), (2, .int (b2i (jPas (qN (yNote c) 0) (qSo (yNote c)) (qVo (yNote c)) (qBi (yNote c)) (qS (yNote c)) b))), (0, .ref (a 0)), (1, .int b)]) hx hb dX8_puts_115 hl (k := 0) rfl (wk_i1 i) (by decide) rfl (fun ls hl => ?_)
            refine lv_goto (tgt := 76) hx hb dX8_puts_118 (by decide) ?_
            rw [jCool_s 1 (if_neg c105).symm] at hP hD
            exact ih76 (i + 1) (n76 - 1) ls H _ (by omega) (by omega) (lv_sub hl [0, 1, 2, 3] rfl) hP hD hS
      · refine lv_aload_n hx hb dX8_puts_34 rfl (lv_at hl 0 rfl) ?_
        refine lv_aload_n hx hb dX8_puts_35 rfl (lv_at hl 0 rfl) ?_
        refine va_get (D := G.1) (v := .ref (a 5)) hx hb hts hin8 hown hK hP 0 (WM_0 G a (yNote c)) rfl 15 (by decide) hf28 (fun _ h => h) rfl dX8_puts_36 ?_
        refine lv_iload_n hx hb dX8_puts_39 rfl (lv_at hl 1 rfl) ?_
        refine wk_read (va_runV (As := [.ref (a 5), .int b]) (rest := []) ⟨hx, hb, hml, hown, hts⟩ (c_X8_passes l G a (yNote c) (okJ_note hc) b false) (cwV 2 hts gX8_puts_X8_passes rfl rfl rfl hdV_X8_passes ⟨Nat.le_of_ble_eq_true rfl, Nat.le_of_ble_eq_true rfl⟩) (PreW.pre (G := G) (W0 := WM G a (yNote c)) ⟨hP, hK, hN⟩ (ci := 8) (q0 := 0) rfl rfl) rfl rfl hl.1 rfl (lv_room (Nat.le_of_ble_eq_true rfl)) dX8_puts_40 ⟨hrc, hrs⟩) ?_
        refine W.eq (g2 := F0 m 43 ls [.int (b2i (jPas (qN (yNote c) 0) (qSo (yNote c)) (qVo (yNote c)) (qBi (yNote c)) (qS (yNote c)) b))]) rfl ?_
        refine lv_if_eq (tgt := 50) hx hb dX8_puts_43 (by decide) (fun c43 => ?_) (fun c43 => ?_)
        · have c43 := b2i_f c43
          refine lv_iconst (v := 0) hx hb dX8_puts_50 (by decide) ?_
          exact k51 0 (by simp [b2i, c43])
        · have c43 := b2i_t c43
          refine lv_iconst (v := 1) hx hb dX8_puts_46 (by decide) ?_
          refine lv_goto (tgt := 51) hx hb dX8_puts_47 (by decide) ?_
          exact k51 1 (by simp [b2i, c43])
    · refine lv_bipush (v := -2) hx hb dX8_puts_27 (by decide) ?_
      have hq : yPuts c b = ((-2), c) := by (simp only [yPuts, wS_mk, note_S, note_N, note_So, note_Vo, note_Bi, c9, c24, if_true, if_false, reduceIte, not_true_eq_false, not_false_eq_true, Bool.and_true, Bool.true_and, Bool.and_self, Bool.and_false, Bool.false_and, Bool.false_eq_true]) <;> rfl
      exact wk_mret' hx hb hr hlocks dX8_puts_29 hP hS (congrArg (fun z => some (Value.int z.1)) hq) (congrArg (fun z => WM G a z.2) hq)
  · have c9 := b2i_f c9
    refine lv_iconst (v := -1) hx hb dX8_puts_12 (by decide) ?_
    have hq : yPuts c b = ((-1), c) := by (simp only [yPuts, wS_mk, note_S, note_N, note_So, note_Vo, note_Bi, c9, if_true, if_false, reduceIte, not_true_eq_false, not_false_eq_true, Bool.and_true, Bool.true_and, Bool.and_self, Bool.and_false, Bool.false_and, Bool.false_eq_true]) <;> rfl
    exact wk_mret' hx hb hr hlocks dX8_puts_13 hP hS (congrArg (fun z => some (Value.int z.1)) hq) (congrArg (fun z => WM G a z.2) hq)
theorem hdV_X8_rate : yX8_rate.cls = RX8 ∧ yX8_rate.cls ≠ "java/lang/invoke/MethodHandle" ∧ yX8_rate.cls ≠ "java/lang/invoke/VarHandle" ∧ (parseMethodDescriptor yX8_rate.desc).map (fun d => d.parameters.length) = some 2 := by decide +kernel
set_option maxHeartbeats 600000 in
set_option maxRecDepth 100000 in
theorem c_X8_rate (l : Launch) (G : GG) (a : Nat → Nat) (c : JX) (hc : OkJ c) (k : Int32) (t : Int32) (sz : Nat) : Met l yX8_rate wsX8_rate ({ frames := 2, cells := 0, slots := 0, locals := 43 }) (va_Pc [.ref (a 0), .int k, .int t] (fun U => PreM G (WM G a c) sz U U.heap)) (Qm G.1 vwCl (some (.int (yRate c k t).1)) (WM G a ((yRate c k t).2)) (va_A (WM G a c) sz)) 0 0 (va_A (WM G a c) sz) := by
  refine Met.ofW (cc := cX8_rate) (maxL := 5) (ret := (some .int)) (by decide) rfl ?_
  intro p e s m args below meth cd s₁ BB hml hv
  obtain ⟨rfl, ⟨hP, hK, hN⟩, hD0, hsz⟩ := hv
  have hx := BB.exec
  have hb := BB.bytes
  have hr := BB.returns
  have hts := atoms_spec (ws := wsX8_rate) BB.pre
  have hown : s.vm.findClass RX8 = some m.cls := findClass_of_methodNamed BB.named
  have hlocks := BB.notSynchronized
  have hrc : 0 + 0 ≤ (headSpec wsX8_rate ({ frames := 2, cells := 0, slots := 0, locals := 43 })).room.cells := Nat.le_refl _
  have hrs : 0 + 0 ≤ (headSpec wsX8_rate ({ frames := 2, cells := 0, slots := 0, locals := 43 })).room.slots := Nat.le_refl _
  subst hsz
  have hD := hD0.self (sz := s.heap.size)
  generalize hAe : va_A (WM G a c) s.heap.size = A at hD ⊢
  have hA : ∀ q : Nat, s.heap.size ≤ q → A q := fun q h => by rw [← hAe]; exact Or.inr h
  have hS : va_S A s.heap s.heap [] := va_S.rf
  obtain ⟨hk7, ho1, ho5, hl200, hr6, hu10⟩ := id hc
  have hin8 : ∀ w ∈ u_ws RX8 TX8 24, w ∈ wsX8_rate := by decide +kernel
  have hf19 := hts (.fieldLink RX8 19 "RegaliaVotesModel" "votes" "[I") (by decide +kernel)
  have hf22 := hts (.fieldLink RX8 22 "RegaliaVotesModel" "bills" "[I") (by decide +kernel)
  have hf28 := hts (.fieldLink RX8 28 "RegaliaVotesModel" "s" "[I") (by decide +kernel)
  have hf50 := hts (.fieldLink RX8 50 "RegaliaVotesModel" "thrown" "I") (by decide +kernel)
  have hf183 := hts (.fieldLink RX8 183 "RegaliaVotesModel" "trace" "J") (by decide +kernel)
  refine wk_enter (n := 5) (Nat.le_of_ble_eq_true rfl) (fun ls hl => ?_)
  have hl : lv_has ls 5 [(0, .ref (a 0)), (1, .int k), (2, .int t)] := hl
  refine lv_aload_n hx hb dX8_rate_0 rfl (lv_at hl 0 rfl) ?_
  refine lv_iconst (v := 0) hx hb dX8_rate_1 (by decide) ?_
  refine va_put (D := G.1) (v := .int 0) (ty := .int) hx hb hts hin8 tyX8 tyX8_ok nmX8 hown hK hP hD hS 0 (WM_0 G a c) rfl 0 (by decide) hf50 (fun _ h => h) rfl (by decide +kernel) rfl rfl (Nat.le_of_ble_eq_true rfl) dX8_rate_2 (fun H locs hP hD hS => ?_)
  rw [WM_p0_0] at hP hD
  refine lv_iload_n hx hb dX8_rate_5 rfl (lv_at hl 1 rfl) ?_
  refine lv_iconst (v := 0) hx hb dX8_rate_6 (by decide) ?_
  refine lv_iconst (v := 5) hx hb dX8_rate_7 (by decide) ?_
  refine wk_read (va_runS (As := [.int k, .int 0, .int 5]) (rest := []) ⟨hx, hb, hml, hown, hts⟩ (c_X8_in l k 0 5) (va_cwS 3 hts gX8_rate_X8_in rfl rfl rfl hdS_X8_in ⟨Nat.le_of_ble_eq_true rfl, Nat.le_of_ble_eq_true rfl⟩) preEq rfl rfl hl.1 rfl (lv_room (Nat.le_of_ble_eq_true rfl)) dX8_rate_8 ⟨hrc, hrs⟩) ?_
  refine lv_if_eq (tgt := 22) hx hb dX8_rate_11 (by decide) (fun c11 => ?_) (fun c11 => ?_)
  · have c11 := b2i_f c11
    refine lv_ldc (v := -1000000) hx hb hown (hts (.constant RX8 182 (-1000000)) (by decide +kernel)) dX8_rate_22 ?_
    have hq : yRate c k t = ((-1000000), c) := by (simp only [yRate, c11, if_true, if_false, reduceIte, not_true_eq_false, not_false_eq_true, Bool.and_true, Bool.true_and, Bool.and_self, Bool.and_false, Bool.false_and, Bool.false_eq_true]) <;> rfl
    exact wk_mret' hx hb hr hlocks dX8_rate_24 hP hS (congrArg (fun z => some (Value.int z.1)) hq) (congrArg (fun z => WM G a z.2) hq)
  · have c11 := b2i_t c11
    refine lv_aload_n hx hb dX8_rate_14 rfl (lv_at hl 0 rfl) ?_
    refine lv_iload_n hx hb dX8_rate_15 rfl (lv_at hl 2 rfl) ?_
    refine wk_read (va_runV (As := [.int t]) (rest := []) ⟨hx, hb, hml, hown, hts⟩ (c_X8_isThing l G a c hc t) (cwV 1 hts gX8_rate_X8_isThing rfl rfl rfl hdV_X8_isThing ⟨Nat.le_of_ble_eq_true rfl, Nat.le_of_ble_eq_true rfl⟩) (PreW.pre (G := G) (W0 := WM G a c) ⟨hP, hK, hN⟩ (ci := 8) (q0 := 0) rfl rfl) rfl rfl hl.1 rfl (lv_room (Nat.le_of_ble_eq_true rfl)) dX8_rate_16 ⟨hrc, hrs⟩) ?_
    refine lv_if_ne (tgt := 25) hx hb dX8_rate_19 (by decide) (fun c19 => ?_) (fun c19 => ?_)
    · have c19 := b2i_t c19
      obtain ⟨j, hj, rfl⟩ := jIsT_n c19 hk7
      have hcl := nI_clamp (show j < 2 ^ 31 by omega)
      refine lv_aload_n hx hb dX8_rate_25 rfl (lv_at hl 0 rfl) ?_
      refine va_get (D := G.1) (v := .ref (a 3)) hx hb hts hin8 hown hK hP 0 (WM_0 G a c) rfl 11 (by decide) hf19 (fun _ h => h) rfl dX8_rate_26 ?_
      refine lv_iload_n hx hb dX8_rate_29 rfl (lv_at hl 2 rfl) ?_
      refine wk_iald (i := j) hx hb hK hP 3 1 (WM_3 G a c) rfl (by omega) (Nat.le_of_ble_eq_true rfl) dX8_rate_30 ?_
      refine lv_aload_n hx hb dX8_rate_31 rfl (lv_at hl 0 rfl) ?_
      refine va_get (D := G.1) (v := .ref (a 4)) hx hb hts hin8 hown hK hP 0 (WM_0 G a c) rfl 12 (by decide) hf22 (fun _ h => h) rfl dX8_rate_32 ?_
      refine lv_iload_n hx hb dX8_rate_35 rfl (lv_at hl 2 rfl) ?_
      refine wk_iald (i := j) hx hb hK hP 4 1 (WM_4 G a c) rfl (by omega) (Nat.le_of_ble_eq_true rfl) dX8_rate_36 ?_
      refine wk_read (va_runS (As := [.int (qBi c j)]) (rest := [.int (qVo c j)]) ⟨hx, hb, hml, hown, hts⟩ (c_X8_ones l (qBi c j)) (va_cwS 1 hts gX8_rate_X8_ones rfl rfl rfl hdS_X8_ones ⟨Nat.le_of_ble_eq_true rfl, Nat.le_of_ble_eq_true rfl⟩) preEq rfl rfl hl.1 rfl (lv_room (Nat.le_of_ble_eq_true rfl)) dX8_rate_37 ⟨hrc, hrs⟩) ?_
      refine lv_iadd hx hb dX8_rate_40 ?_
      refine lv_istore_n (lv' := [(3, .int ((qVo c j) + (jOnes (qBi c j)))), (0, .ref (a 0)), (1, .int k), (2, .int (nI j))]) hx hb dX8_rate_41 rfl hl (by decide) rfl (fun ls hl => ?_)
      refine lv_aload_n hx hb dX8_rate_42 rfl (lv_at hl 1 rfl) ?_
      refine va_get (D := G.1) (v := .ref (a 3)) hx hb hts hin8 hown hK hP 0 (WM_0 G a c) rfl 11 (by decide) hf19 (fun _ h => h) rfl dX8_rate_43 ?_
      refine lv_iload_n hx hb dX8_rate_46 rfl (lv_at hl 3 rfl) ?_
      refine wk_iald (i := j) hx hb hK hP 3 1 (WM_3 G a c) rfl (by omega) (Nat.le_of_ble_eq_true rfl) dX8_rate_47 ?_
      refine lv_aload_n hx hb dX8_rate_48 rfl (lv_at hl 1 rfl) ?_
      refine va_get (D := G.1) (v := .ref (a 5)) hx hb hts hin8 hown hK hP 0 (WM_0 G a c) rfl 15 (by decide) hf28 (fun _ h => h) rfl dX8_rate_49 ?_
      refine lv_bipush (v := 7) hx hb dX8_rate_52 (by decide) ?_
      refine lv_iload_n hx hb dX8_rate_54 rfl (lv_at hl 3 rfl) ?_
      refine wk_iadd (x := 7) (y := j) hx hb dX8_rate_55 ?_
      refine wk_iald (i := (7 + j)) hx hb hK hP 5 1 (WM_5 G a c) rfl (by omega) (Nat.le_of_ble_eq_true rfl) dX8_rate_56 ?_
      refine lv_isub hx hb dX8_rate_57 ?_
      refine lv_istore (lv' := [(4, .int ((qVo c j) - (qS c (7 + j)))), (3, .int ((qVo c j) + (jOnes (qBi c j)))), (0, .ref (a 0)), (1, .int k), (2, .int (nI j))]) hx hb dX8_rate_58 hl (by decide) rfl (fun ls hl => ?_)
      refine lv_aload_n hx hb dX8_rate_60 rfl (lv_at hl 2 rfl) ?_
      refine lv_dup hx hb dX8_rate_61 rfl ?_
      refine va_get (D := G.1) (v := .long (qTr c)) hx hb hts hin8 hown hK hP 0 (WM_0 G a c) rfl 1 (by decide) hf183 (fun _ h => h) rfl dX8_rate_62 ?_
      refine lv_iload_n hx hb dX8_rate_65 rfl (lv_at hl 3 rfl) ?_
      refine lv_if_ne (tgt := 73) hx hb dX8_rate_66 (by decide) (fun c66 => ?_) (fun c66 => ?_)
      · refine lv_iload_n hx hb dX8_rate_73 rfl (lv_at hl 3 rfl) ?_
        refine lv_iconst (v := 1) hx hb dX8_rate_74 (by decide) ?_
        refine lv_icmp_ne (tgt := 84) hx hb dX8_rate_75 (by decide) (fun c75 => ?_) (fun c75 => ?_)
        · refine lv_iload_n hx hb dX8_rate_84 rfl (lv_at hl 3 rfl) ?_
          refine lv_iconst (v := 2) hx hb dX8_rate_85 (by decide) ?_
          refine lv_icmp_ne (tgt := 95) hx hb dX8_rate_86 (by decide) (fun c86 => ?_) (fun c86 => ?_)
          · refine lv_iload_n hx hb dX8_rate_95 rfl (lv_at hl 3 rfl) ?_
            refine lv_iconst (v := 3) hx hb dX8_rate_96 (by decide) ?_
            refine lv_icmp_ne (tgt := 106) hx hb dX8_rate_97 (by decide) (fun c97 => ?_) (fun c97 => ?_)
            · refine lv_iload_n hx hb dX8_rate_106 rfl (lv_at hl 3 rfl) ?_
              refine lv_iconst (v := 4) hx hb dX8_rate_107 (by decide) ?_
              refine lv_icmp_ne (tgt := 117) hx hb dX8_rate_108 (by decide) (fun c108 => ?_) (fun c108 => ?_)
              · refine lv_ldc2 (v := 100001) hx hb hown (hts (.constantLong RX8 195 (100001)) (by decide +kernel)) dX8_rate_117 ?_
                refine lv_ladd hx hb dX8_rate_120 ?_
                refine va_put (D := G.1) (v := .long ((qTr c) + 100001)) (ty := .long) hx hb hts hin8 tyX8 tyX8_ok nmX8 hown hK hP hD hS 0 (WM_0 G a c) rfl 1 (by decide) hf183 (fun _ h => h) rfl (by decide +kernel) rfl rfl (Nat.le_of_ble_eq_true rfl) dX8_rate_121 (fun H locs hP hD hS => ?_)
                rw [WMc_p0_1] at hP hD
                replace hP : va_P G.1 vwCl (WM G a (mkJ ((qTr c) + 100001) (qTx c) (qTy c) (qNe c) (qTo c) (qPl c) (qVa c) (qFa c) (qN c) (qSo c) (qVo c) (qBi c) (qHo c) (qTd c) (qS c) (qW c) (qKe c) (qIk c) (qUn c) (qUm c) (qRb c) (qRi c) (qRm c))) H := hP
                replace hD : va_D A (WM G a (mkJ ((qTr c) + 100001) (qTx c) (qTy c) (qNe c) (qTo c) (qPl c) (qVa c) (qFa c) (qN c) (qSo c) (qVo c) (qBi c) (qHo c) (qTd c) (qS c) (qW c) (qKe c) (qIk c) (qUn c) (qUm c) (qRb c) (qRi c) (qRm c))) := hD
                refine lv_iload_n hx hb dX8_rate_124 rfl (lv_at hl 3 rfl) ?_
                refine lv_if_ne (tgt := 137) hx hb dX8_rate_125 (by decide) (fun c125 => ?_) (fun c125 => ?_)
                · refine lv_iload_n hx hb dX8_rate_137 rfl (lv_at hl 3 rfl) ?_
                  refine lv_iconst (v := 1) hx hb dX8_rate_138 (by decide) ?_
                  refine lv_icmp_ne (tgt := 146) hx hb dX8_rate_139 (by decide) (fun c139 => ?_) (fun c139 => ?_)
                  · refine lv_iload_n hx hb dX8_rate_146 rfl (lv_at hl 3 rfl) ?_
                    refine lv_iconst (v := 2) hx hb dX8_rate_147 (by decide) ?_
                    refine lv_icmp_ne (tgt := 156) hx hb dX8_rate_148 (by decide) (fun c148 => ?_) (fun c148 => ?_)
                    · refine lv_iload_n hx hb dX8_rate_156 rfl (lv_at hl 3 rfl) ?_
                      refine lv_iconst (v := 3) hx hb dX8_rate_157 (by decide) ?_
                      refine lv_icmp_ne (tgt := 167) hx hb dX8_rate_158 (by decide) (fun c158 => ?_) (fun c158 => ?_)
                      · refine lv_iload_n hx hb dX8_rate_167 rfl (lv_at hl 3 rfl) ?_
                        refine lv_iconst (v := 4) hx hb dX8_rate_168 (by decide) ?_
                        refine lv_icmp_ne (tgt := 179) hx hb dX8_rate_169 (by decide) (fun c169 => ?_) (fun c169 => ?_)
                        · refine lv_aload_n hx hb dX8_rate_179 rfl (lv_at hl 2 rfl) ?_
                          refine va_get (D := G.1) (v := .ref (a 3)) hx hb hts hin8 hown hK hP 0 (WM_0 G a (mkJ ((qTr c) + 100001) (qTx c) (qTy c) (qNe c) (qTo c) (qPl c) (qVa c) (qFa c) (qN c) (qSo c) (qVo c) (qBi c) (qHo c) (qTd c) (qS c) (qW c) (qKe c) (qIk c) (qUn c) (qUm c) (qRb c) (qRi c) (qRm c))) rfl 11 (by decide) hf19 (fun _ h => h) rfl dX8_rate_180 ?_
                          refine lv_iload_n hx hb dX8_rate_183 rfl (lv_at hl 4 rfl) ?_
                          refine wk_iald (i := j) hx hb hK hP 3 1 (WM_3 G a (mkJ ((qTr c) + 100001) (qTx c) (qTy c) (qNe c) (qTo c) (qPl c) (qVa c) (qFa c) (qN c) (qSo c) (qVo c) (qBi c) (qHo c) (qTd c) (qS c) (qW c) (qKe c) (qIk c) (qUn c) (qUm c) (qRb c) (qRi c) (qRm c))) rfl (by omega) (Nat.le_of_ble_eq_true rfl) dX8_rate_184 ?_
                          refine lv_aload_n hx hb dX8_rate_185 rfl (lv_at hl 2 rfl) ?_
                          refine va_get (D := G.1) (v := .ref (a 5)) hx hb hts hin8 hown hK hP 0 (WM_0 G a (mkJ ((qTr c) + 100001) (qTx c) (qTy c) (qNe c) (qTo c) (qPl c) (qVa c) (qFa c) (qN c) (qSo c) (qVo c) (qBi c) (qHo c) (qTd c) (qS c) (qW c) (qKe c) (qIk c) (qUn c) (qUm c) (qRb c) (qRi c) (qRm c))) rfl 15 (by decide) hf28 (fun _ h => h) rfl dX8_rate_186 ?_
                          refine lv_bipush (v := 17) hx hb dX8_rate_189 (by decide) ?_
                          refine wk_iald (i := 17) hx hb hK hP 5 1 (WM_5 G a (mkJ ((qTr c) + 100001) (qTx c) (qTy c) (qNe c) (qTo c) (qPl c) (qVa c) (qFa c) (qN c) (qSo c) (qVo c) (qBi c) (qHo c) (qTd c) (qS c) (qW c) (qKe c) (qIk c) (qUn c) (qUm c) (qRb c) (qRi c) (qRm c))) rfl (by omega) (Nat.le_of_ble_eq_true rfl) dX8_rate_191 ?_
                          refine lv_iadd hx hb dX8_rate_192 ?_
                          have hq : yRate c k (nI j) = (((qVo c j) + (qS c 17)), mkJ ((qTr c) + 100001) (qTx c) (qTy c) (qNe c) (qTo c) (qPl c) (qVa c) (qFa c) (qN c) (qSo c) (qVo c) (qBi c) (qHo c) (qTd c) (qS c) (qW c) (qKe c) (qIk c) (qUn c) (qUm c) (qRb c) (qRi c) (qRm c)) := by first | exact absurd c66 c125 | exact absurd c125 c66 | exact absurd c75 c139 | exact absurd c139 c75 | exact absurd c86 c148 | exact absurd c148 c86 | exact absurd c97 c158 | exact absurd c158 c97 | exact absurd c108 c169 | exact absurd c169 c108 | ((simp only [yRate, yRaV, yRaT, hcl, c11, c19, c66, c75, c86, c97, c108, if_true, if_false, reduceIte, not_true_eq_false, not_false_eq_true, Bool.and_true, Bool.true_and, Bool.and_self, Bool.and_false, Bool.false_and, Bool.false_eq_true]) <;> rfl)
                          exact wk_mret' hx hb hr hlocks dX8_rate_193 hP hS (congrArg (fun z => some (Value.int z.1)) hq) (congrArg (fun z => WM G a z.2) hq)
                        · refine lv_iload hx hb dX8_rate_172 (lv_at hl 0 rfl) ?_
                          refine lv_iload_n hx hb dX8_rate_174 rfl (lv_at hl 4 rfl) ?_
                          refine lv_iadd hx hb dX8_rate_175 ?_
                          refine lv_goto (tgt := 193) hx hb dX8_rate_176 (by decide) ?_
                          have hq : yRate c k (nI j) = ((((qVo c j) - (qS c (7 + j))) + (nI j)), mkJ ((qTr c) + 100001) (qTx c) (qTy c) (qNe c) (qTo c) (qPl c) (qVa c) (qFa c) (qN c) (qSo c) (qVo c) (qBi c) (qHo c) (qTd c) (qS c) (qW c) (qKe c) (qIk c) (qUn c) (qUm c) (qRb c) (qRi c) (qRm c)) := by first | exact absurd c66 c125 | exact absurd c125 c66 | exact absurd c75 c139 | exact absurd c139 c75 | exact absurd c86 c148 | exact absurd c148 c86 | exact absurd c97 c158 | exact absurd c158 c97 | exact absurd c108 c169 | exact absurd c169 c108 | ((simp only [yRate, yRaV, yRaT, hcl, c11, c19, c66, c75, c86, c97, c108, if_true, if_false, reduceIte, not_true_eq_false, not_false_eq_true, Bool.and_true, Bool.true_and, Bool.and_self, Bool.and_false, Bool.false_and, Bool.false_eq_true]) <;> rfl)
                          exact wk_mret' hx hb hr hlocks dX8_rate_193 hP hS (congrArg (fun z => some (Value.int z.1)) hq) (congrArg (fun z => WM G a z.2) hq)
                      · refine lv_iconst (v := 2) hx hb dX8_rate_161 (by decide) ?_
                        refine lv_iload_n hx hb dX8_rate_162 rfl (lv_at hl 1 rfl) ?_
                        refine lv_imul hx hb dX8_rate_163 ?_
                        refine lv_goto (tgt := 193) hx hb dX8_rate_164 (by decide) ?_
                        have hq : yRate c k (nI j) = ((2 * ((qVo c j) + (jOnes (qBi c j)))), mkJ ((qTr c) + 100001) (qTx c) (qTy c) (qNe c) (qTo c) (qPl c) (qVa c) (qFa c) (qN c) (qSo c) (qVo c) (qBi c) (qHo c) (qTd c) (qS c) (qW c) (qKe c) (qIk c) (qUn c) (qUm c) (qRb c) (qRi c) (qRm c)) := by first | exact absurd c66 c125 | exact absurd c125 c66 | exact absurd c75 c139 | exact absurd c139 c75 | exact absurd c86 c148 | exact absurd c148 c86 | exact absurd c97 c158 | exact absurd c158 c97 | ((simp only [yRate, yRaV, yRaT, hcl, c11, c19, c66, c75, c86, c97, c108, if_true, if_false, reduceIte, not_true_eq_false, not_false_eq_true, Bool.and_true, Bool.true_and, Bool.and_self, Bool.and_false, Bool.false_and, Bool.false_eq_true]) <;> rfl)
                        exact wk_mret' hx hb hr hlocks dX8_rate_193 hP hS (congrArg (fun z => some (Value.int z.1)) hq) (congrArg (fun z => WM G a z.2) hq)
                    · refine lv_iload hx hb dX8_rate_151 (lv_at hl 0 rfl) ?_
                      refine lv_goto (tgt := 193) hx hb dX8_rate_153 (by decide) ?_
                      have hq : yRate c k (nI j) = (((qVo c j) - (qS c (7 + j))), mkJ ((qTr c) + 100001) (qTx c) (qTy c) (qNe c) (qTo c) (qPl c) (qVa c) (qFa c) (qN c) (qSo c) (qVo c) (qBi c) (qHo c) (qTd c) (qS c) (qW c) (qKe c) (qIk c) (qUn c) (qUm c) (qRb c) (qRi c) (qRm c)) := by first | exact absurd c66 c125 | exact absurd c125 c66 | exact absurd c75 c139 | exact absurd c139 c75 | exact absurd c86 c148 | exact absurd c148 c86 | ((simp only [yRate, yRaV, yRaT, hcl, c11, c19, c66, c75, c86, c97, c108, if_true, if_false, reduceIte, not_true_eq_false, not_false_eq_true, Bool.and_true, Bool.true_and, Bool.and_self, Bool.and_false, Bool.false_and, Bool.false_eq_true]) <;> rfl)
                      exact wk_mret' hx hb hr hlocks dX8_rate_193 hP hS (congrArg (fun z => some (Value.int z.1)) hq) (congrArg (fun z => WM G a z.2) hq)
                  · refine lv_iload_n hx hb dX8_rate_142 rfl (lv_at hl 1 rfl) ?_
                    refine lv_goto (tgt := 193) hx hb dX8_rate_143 (by decide) ?_
                    have hq : yRate c k (nI j) = (((qVo c j) + (jOnes (qBi c j))), mkJ ((qTr c) + 100001) (qTx c) (qTy c) (qNe c) (qTo c) (qPl c) (qVa c) (qFa c) (qN c) (qSo c) (qVo c) (qBi c) (qHo c) (qTd c) (qS c) (qW c) (qKe c) (qIk c) (qUn c) (qUm c) (qRb c) (qRi c) (qRm c)) := by first | exact absurd c66 c125 | exact absurd c125 c66 | exact absurd c75 c139 | exact absurd c139 c75 | ((simp only [yRate, yRaV, yRaT, hcl, c11, c19, c66, c75, c86, c97, c108, if_true, if_false, reduceIte, not_true_eq_false, not_false_eq_true, Bool.and_true, Bool.true_and, Bool.and_self, Bool.and_false, Bool.false_and, Bool.false_eq_true]) <;> rfl)
                    exact wk_mret' hx hb hr hlocks dX8_rate_193 hP hS (congrArg (fun z => some (Value.int z.1)) hq) (congrArg (fun z => WM G a z.2) hq)
                · refine lv_aload_n hx hb dX8_rate_128 rfl (lv_at hl 2 rfl) ?_
                  refine va_get (D := G.1) (v := .ref (a 3)) hx hb hts hin8 hown hK hP 0 (WM_0 G a (mkJ ((qTr c) + 100001) (qTx c) (qTy c) (qNe c) (qTo c) (qPl c) (qVa c) (qFa c) (qN c) (qSo c) (qVo c) (qBi c) (qHo c) (qTd c) (qS c) (qW c) (qKe c) (qIk c) (qUn c) (qUm c) (qRb c) (qRi c) (qRm c))) rfl 11 (by decide) hf19 (fun _ h => h) rfl dX8_rate_129 ?_
                  refine lv_iload_n hx hb dX8_rate_132 rfl (lv_at hl 4 rfl) ?_
                  refine wk_iald (i := j) hx hb hK hP 3 1 (WM_3 G a (mkJ ((qTr c) + 100001) (qTx c) (qTy c) (qNe c) (qTo c) (qPl c) (qVa c) (qFa c) (qN c) (qSo c) (qVo c) (qBi c) (qHo c) (qTd c) (qS c) (qW c) (qKe c) (qIk c) (qUn c) (qUm c) (qRb c) (qRi c) (qRm c))) rfl (by omega) (Nat.le_of_ble_eq_true rfl) dX8_rate_133 ?_
                  refine lv_goto (tgt := 193) hx hb dX8_rate_134 (by decide) ?_
                  have hq : yRate c k (nI j) = ((qVo c j), mkJ ((qTr c) + 100001) (qTx c) (qTy c) (qNe c) (qTo c) (qPl c) (qVa c) (qFa c) (qN c) (qSo c) (qVo c) (qBi c) (qHo c) (qTd c) (qS c) (qW c) (qKe c) (qIk c) (qUn c) (qUm c) (qRb c) (qRi c) (qRm c)) := by first | exact absurd c66 c125 | exact absurd c125 c66 | ((simp only [yRate, yRaV, yRaT, hcl, c11, c19, c66, c75, c86, c97, c108, if_true, if_false, reduceIte, not_true_eq_false, not_false_eq_true, Bool.and_true, Bool.true_and, Bool.and_self, Bool.and_false, Bool.false_and, Bool.false_eq_true]) <;> rfl)
                  exact wk_mret' hx hb hr hlocks dX8_rate_193 hP hS (congrArg (fun z => some (Value.int z.1)) hq) (congrArg (fun z => WM G a z.2) hq)
              · refine lv_ldc2 (v := 10101) hx hb hown (hts (.constantLong RX8 193 (10101)) (by decide +kernel)) dX8_rate_111 ?_
                refine lv_goto (tgt := 120) hx hb dX8_rate_114 (by decide) ?_
                refine lv_ladd hx hb dX8_rate_120 ?_
                refine va_put (D := G.1) (v := .long ((qTr c) + 10101)) (ty := .long) hx hb hts hin8 tyX8 tyX8_ok nmX8 hown hK hP hD hS 0 (WM_0 G a c) rfl 1 (by decide) hf183 (fun _ h => h) rfl (by decide +kernel) rfl rfl (Nat.le_of_ble_eq_true rfl) dX8_rate_121 (fun H locs hP hD hS => ?_)
                rw [WMc_p0_1] at hP hD
                replace hP : va_P G.1 vwCl (WM G a (mkJ ((qTr c) + 10101) (qTx c) (qTy c) (qNe c) (qTo c) (qPl c) (qVa c) (qFa c) (qN c) (qSo c) (qVo c) (qBi c) (qHo c) (qTd c) (qS c) (qW c) (qKe c) (qIk c) (qUn c) (qUm c) (qRb c) (qRi c) (qRm c))) H := hP
                replace hD : va_D A (WM G a (mkJ ((qTr c) + 10101) (qTx c) (qTy c) (qNe c) (qTo c) (qPl c) (qVa c) (qFa c) (qN c) (qSo c) (qVo c) (qBi c) (qHo c) (qTd c) (qS c) (qW c) (qKe c) (qIk c) (qUn c) (qUm c) (qRb c) (qRi c) (qRm c))) := hD
                refine lv_iload_n hx hb dX8_rate_124 rfl (lv_at hl 3 rfl) ?_
                refine lv_if_ne (tgt := 137) hx hb dX8_rate_125 (by decide) (fun c125 => ?_) (fun c125 => ?_)
                · refine lv_iload_n hx hb dX8_rate_137 rfl (lv_at hl 3 rfl) ?_
                  refine lv_iconst (v := 1) hx hb dX8_rate_138 (by decide) ?_
                  refine lv_icmp_ne (tgt := 146) hx hb dX8_rate_139 (by decide) (fun c139 => ?_) (fun c139 => ?_)
                  · refine lv_iload_n hx hb dX8_rate_146 rfl (lv_at hl 3 rfl) ?_
                    refine lv_iconst (v := 2) hx hb dX8_rate_147 (by decide) ?_
                    refine lv_icmp_ne (tgt := 156) hx hb dX8_rate_148 (by decide) (fun c148 => ?_) (fun c148 => ?_)
                    · refine lv_iload_n hx hb dX8_rate_156 rfl (lv_at hl 3 rfl) ?_
                      refine lv_iconst (v := 3) hx hb dX8_rate_157 (by decide) ?_
                      refine lv_icmp_ne (tgt := 167) hx hb dX8_rate_158 (by decide) (fun c158 => ?_) (fun c158 => ?_)
                      · refine lv_iload_n hx hb dX8_rate_167 rfl (lv_at hl 3 rfl) ?_
                        refine lv_iconst (v := 4) hx hb dX8_rate_168 (by decide) ?_
                        refine lv_icmp_ne (tgt := 179) hx hb dX8_rate_169 (by decide) (fun c169 => ?_) (fun c169 => ?_)
                        · refine lv_aload_n hx hb dX8_rate_179 rfl (lv_at hl 2 rfl) ?_
                          refine va_get (D := G.1) (v := .ref (a 3)) hx hb hts hin8 hown hK hP 0 (WM_0 G a (mkJ ((qTr c) + 10101) (qTx c) (qTy c) (qNe c) (qTo c) (qPl c) (qVa c) (qFa c) (qN c) (qSo c) (qVo c) (qBi c) (qHo c) (qTd c) (qS c) (qW c) (qKe c) (qIk c) (qUn c) (qUm c) (qRb c) (qRi c) (qRm c))) rfl 11 (by decide) hf19 (fun _ h => h) rfl dX8_rate_180 ?_
                          refine lv_iload_n hx hb dX8_rate_183 rfl (lv_at hl 4 rfl) ?_
                          refine wk_iald (i := j) hx hb hK hP 3 1 (WM_3 G a (mkJ ((qTr c) + 10101) (qTx c) (qTy c) (qNe c) (qTo c) (qPl c) (qVa c) (qFa c) (qN c) (qSo c) (qVo c) (qBi c) (qHo c) (qTd c) (qS c) (qW c) (qKe c) (qIk c) (qUn c) (qUm c) (qRb c) (qRi c) (qRm c))) rfl (by omega) (Nat.le_of_ble_eq_true rfl) dX8_rate_184 ?_
                          refine lv_aload_n hx hb dX8_rate_185 rfl (lv_at hl 2 rfl) ?_
                          refine va_get (D := G.1) (v := .ref (a 5)) hx hb hts hin8 hown hK hP 0 (WM_0 G a (mkJ ((qTr c) + 10101) (qTx c) (qTy c) (qNe c) (qTo c) (qPl c) (qVa c) (qFa c) (qN c) (qSo c) (qVo c) (qBi c) (qHo c) (qTd c) (qS c) (qW c) (qKe c) (qIk c) (qUn c) (qUm c) (qRb c) (qRi c) (qRm c))) rfl 15 (by decide) hf28 (fun _ h => h) rfl dX8_rate_186 ?_
                          refine lv_bipush (v := 17) hx hb dX8_rate_189 (by decide) ?_
                          refine wk_iald (i := 17) hx hb hK hP 5 1 (WM_5 G a (mkJ ((qTr c) + 10101) (qTx c) (qTy c) (qNe c) (qTo c) (qPl c) (qVa c) (qFa c) (qN c) (qSo c) (qVo c) (qBi c) (qHo c) (qTd c) (qS c) (qW c) (qKe c) (qIk c) (qUn c) (qUm c) (qRb c) (qRi c) (qRm c))) rfl (by omega) (Nat.le_of_ble_eq_true rfl) dX8_rate_191 ?_
                          refine lv_iadd hx hb dX8_rate_192 ?_
                          have hq : yRate c k (nI j) = (((qVo c j) + (qS c 17)), mkJ ((qTr c) + 10101) (qTx c) (qTy c) (qNe c) (qTo c) (qPl c) (qVa c) (qFa c) (qN c) (qSo c) (qVo c) (qBi c) (qHo c) (qTd c) (qS c) (qW c) (qKe c) (qIk c) (qUn c) (qUm c) (qRb c) (qRi c) (qRm c)) := by first | exact absurd c66 c125 | exact absurd c125 c66 | exact absurd c75 c139 | exact absurd c139 c75 | exact absurd c86 c148 | exact absurd c148 c86 | exact absurd c97 c158 | exact absurd c158 c97 | exact absurd c108 c169 | exact absurd c169 c108 | ((simp only [yRate, yRaV, yRaT, hcl, c11, c19, c66, c75, c86, c97, c108, if_true, if_false, reduceIte, not_true_eq_false, not_false_eq_true, Bool.and_true, Bool.true_and, Bool.and_self, Bool.and_false, Bool.false_and, Bool.false_eq_true]) <;> rfl)
                          exact wk_mret' hx hb hr hlocks dX8_rate_193 hP hS (congrArg (fun z => some (Value.int z.1)) hq) (congrArg (fun z => WM G a z.2) hq)
                        · refine lv_iload hx hb dX8_rate_172 (lv_at hl 0 rfl) ?_
                          refine lv_iload_n hx hb dX8_rate_174 rfl (lv_at hl 4 rfl) ?_
                          refine lv_iadd hx hb dX8_rate_175 ?_
                          refine lv_goto (tgt := 193) hx hb dX8_rate_176 (by decide) ?_
                          have hq : yRate c k (nI j) = ((((qVo c j) - (qS c (7 + j))) + (nI j)), mkJ ((qTr c) + 10101) (qTx c) (qTy c) (qNe c) (qTo c) (qPl c) (qVa c) (qFa c) (qN c) (qSo c) (qVo c) (qBi c) (qHo c) (qTd c) (qS c) (qW c) (qKe c) (qIk c) (qUn c) (qUm c) (qRb c) (qRi c) (qRm c)) := by first | exact absurd c66 c125 | exact absurd c125 c66 | exact absurd c75 c139 | exact absurd c139 c75 | exact absurd c86 c148 | exact absurd c148 c86 | exact absurd c97 c158 | exact absurd c158 c97 | exact absurd c108 c169 | exact absurd c169 c108 | ((simp only [yRate, yRaV, yRaT, hcl, c11, c19, c66, c75, c86, c97, c108, if_true, if_false, reduceIte, not_true_eq_false, not_false_eq_true, Bool.and_true, Bool.true_and, Bool.and_self, Bool.and_false, Bool.false_and, Bool.false_eq_true]) <;> rfl)
                          exact wk_mret' hx hb hr hlocks dX8_rate_193 hP hS (congrArg (fun z => some (Value.int z.1)) hq) (congrArg (fun z => WM G a z.2) hq)
                      · refine lv_iconst (v := 2) hx hb dX8_rate_161 (by decide) ?_
                        refine lv_iload_n hx hb dX8_rate_162 rfl (lv_at hl 1 rfl) ?_
                        refine lv_imul hx hb dX8_rate_163 ?_
                        refine lv_goto (tgt := 193) hx hb dX8_rate_164 (by decide) ?_
                        have hq : yRate c k (nI j) = ((2 * ((qVo c j) + (jOnes (qBi c j)))), mkJ ((qTr c) + 10101) (qTx c) (qTy c) (qNe c) (qTo c) (qPl c) (qVa c) (qFa c) (qN c) (qSo c) (qVo c) (qBi c) (qHo c) (qTd c) (qS c) (qW c) (qKe c) (qIk c) (qUn c) (qUm c) (qRb c) (qRi c) (qRm c)) := by first | exact absurd c66 c125 | exact absurd c125 c66 | exact absurd c75 c139 | exact absurd c139 c75 | exact absurd c86 c148 | exact absurd c148 c86 | exact absurd c97 c158 | exact absurd c158 c97 | ((simp only [yRate, yRaV, yRaT, hcl, c11, c19, c66, c75, c86, c97, c108, if_true, if_false, reduceIte, not_true_eq_false, not_false_eq_true, Bool.and_true, Bool.true_and, Bool.and_self, Bool.and_false, Bool.false_and, Bool.false_eq_true]) <;> rfl)
                        exact wk_mret' hx hb hr hlocks dX8_rate_193 hP hS (congrArg (fun z => some (Value.int z.1)) hq) (congrArg (fun z => WM G a z.2) hq)
                    · refine lv_iload hx hb dX8_rate_151 (lv_at hl 0 rfl) ?_
                      refine lv_goto (tgt := 193) hx hb dX8_rate_153 (by decide) ?_
                      have hq : yRate c k (nI j) = (((qVo c j) - (qS c (7 + j))), mkJ ((qTr c) + 10101) (qTx c) (qTy c) (qNe c) (qTo c) (qPl c) (qVa c) (qFa c) (qN c) (qSo c) (qVo c) (qBi c) (qHo c) (qTd c) (qS c) (qW c) (qKe c) (qIk c) (qUn c) (qUm c) (qRb c) (qRi c) (qRm c)) := by first | exact absurd c66 c125 | exact absurd c125 c66 | exact absurd c75 c139 | exact absurd c139 c75 | exact absurd c86 c148 | exact absurd c148 c86 | ((simp only [yRate, yRaV, yRaT, hcl, c11, c19, c66, c75, c86, c97, c108, if_true, if_false, reduceIte, not_true_eq_false, not_false_eq_true, Bool.and_true, Bool.true_and, Bool.and_self, Bool.and_false, Bool.false_and, Bool.false_eq_true]) <;> rfl)
                      exact wk_mret' hx hb hr hlocks dX8_rate_193 hP hS (congrArg (fun z => some (Value.int z.1)) hq) (congrArg (fun z => WM G a z.2) hq)
                  · refine lv_iload_n hx hb dX8_rate_142 rfl (lv_at hl 1 rfl) ?_
                    refine lv_goto (tgt := 193) hx hb dX8_rate_143 (by decide) ?_
                    have hq : yRate c k (nI j) = (((qVo c j) + (jOnes (qBi c j))), mkJ ((qTr c) + 10101) (qTx c) (qTy c) (qNe c) (qTo c) (qPl c) (qVa c) (qFa c) (qN c) (qSo c) (qVo c) (qBi c) (qHo c) (qTd c) (qS c) (qW c) (qKe c) (qIk c) (qUn c) (qUm c) (qRb c) (qRi c) (qRm c)) := by first | exact absurd c66 c125 | exact absurd c125 c66 | exact absurd c75 c139 | exact absurd c139 c75 | ((simp only [yRate, yRaV, yRaT, hcl, c11, c19, c66, c75, c86, c97, c108, if_true, if_false, reduceIte, not_true_eq_false, not_false_eq_true, Bool.and_true, Bool.true_and, Bool.and_self, Bool.and_false, Bool.false_and, Bool.false_eq_true]) <;> rfl)
                    exact wk_mret' hx hb hr hlocks dX8_rate_193 hP hS (congrArg (fun z => some (Value.int z.1)) hq) (congrArg (fun z => WM G a z.2) hq)
                · refine lv_aload_n hx hb dX8_rate_128 rfl (lv_at hl 2 rfl) ?_
                  refine va_get (D := G.1) (v := .ref (a 3)) hx hb hts hin8 hown hK hP 0 (WM_0 G a (mkJ ((qTr c) + 10101) (qTx c) (qTy c) (qNe c) (qTo c) (qPl c) (qVa c) (qFa c) (qN c) (qSo c) (qVo c) (qBi c) (qHo c) (qTd c) (qS c) (qW c) (qKe c) (qIk c) (qUn c) (qUm c) (qRb c) (qRi c) (qRm c))) rfl 11 (by decide) hf19 (fun _ h => h) rfl dX8_rate_129 ?_
                  refine lv_iload_n hx hb dX8_rate_132 rfl (lv_at hl 4 rfl) ?_
                  refine wk_iald (i := j) hx hb hK hP 3 1 (WM_3 G a (mkJ ((qTr c) + 10101) (qTx c) (qTy c) (qNe c) (qTo c) (qPl c) (qVa c) (qFa c) (qN c) (qSo c) (qVo c) (qBi c) (qHo c) (qTd c) (qS c) (qW c) (qKe c) (qIk c) (qUn c) (qUm c) (qRb c) (qRi c) (qRm c))) rfl (by omega) (Nat.le_of_ble_eq_true rfl) dX8_rate_133 ?_
                  refine lv_goto (tgt := 193) hx hb dX8_rate_134 (by decide) ?_
                  have hq : yRate c k (nI j) = ((qVo c j), mkJ ((qTr c) + 10101) (qTx c) (qTy c) (qNe c) (qTo c) (qPl c) (qVa c) (qFa c) (qN c) (qSo c) (qVo c) (qBi c) (qHo c) (qTd c) (qS c) (qW c) (qKe c) (qIk c) (qUn c) (qUm c) (qRb c) (qRi c) (qRm c)) := by first | exact absurd c66 c125 | exact absurd c125 c66 | ((simp only [yRate, yRaV, yRaT, hcl, c11, c19, c66, c75, c86, c97, c108, if_true, if_false, reduceIte, not_true_eq_false, not_false_eq_true, Bool.and_true, Bool.true_and, Bool.and_self, Bool.and_false, Bool.false_and, Bool.false_eq_true]) <;> rfl)
                  exact wk_mret' hx hb hr hlocks dX8_rate_193 hP hS (congrArg (fun z => some (Value.int z.1)) hq) (congrArg (fun z => WM G a z.2) hq)
            · refine lv_ldc2 (v := 1011) hx hb hown (hts (.constantLong RX8 191 (1011)) (by decide +kernel)) dX8_rate_100 ?_
              refine lv_goto (tgt := 120) hx hb dX8_rate_103 (by decide) ?_
              refine lv_ladd hx hb dX8_rate_120 ?_
              refine va_put (D := G.1) (v := .long ((qTr c) + 1011)) (ty := .long) hx hb hts hin8 tyX8 tyX8_ok nmX8 hown hK hP hD hS 0 (WM_0 G a c) rfl 1 (by decide) hf183 (fun _ h => h) rfl (by decide +kernel) rfl rfl (Nat.le_of_ble_eq_true rfl) dX8_rate_121 (fun H locs hP hD hS => ?_)
              rw [WMc_p0_1] at hP hD
              replace hP : va_P G.1 vwCl (WM G a (mkJ ((qTr c) + 1011) (qTx c) (qTy c) (qNe c) (qTo c) (qPl c) (qVa c) (qFa c) (qN c) (qSo c) (qVo c) (qBi c) (qHo c) (qTd c) (qS c) (qW c) (qKe c) (qIk c) (qUn c) (qUm c) (qRb c) (qRi c) (qRm c))) H := hP
              replace hD : va_D A (WM G a (mkJ ((qTr c) + 1011) (qTx c) (qTy c) (qNe c) (qTo c) (qPl c) (qVa c) (qFa c) (qN c) (qSo c) (qVo c) (qBi c) (qHo c) (qTd c) (qS c) (qW c) (qKe c) (qIk c) (qUn c) (qUm c) (qRb c) (qRi c) (qRm c))) := hD
              refine lv_iload_n hx hb dX8_rate_124 rfl (lv_at hl 3 rfl) ?_
              refine lv_if_ne (tgt := 137) hx hb dX8_rate_125 (by decide) (fun c125 => ?_) (fun c125 => ?_)
              · refine lv_iload_n hx hb dX8_rate_137 rfl (lv_at hl 3 rfl) ?_
                refine lv_iconst (v := 1) hx hb dX8_rate_138 (by decide) ?_
                refine lv_icmp_ne (tgt := 146) hx hb dX8_rate_139 (by decide) (fun c139 => ?_) (fun c139 => ?_)
                · refine lv_iload_n hx hb dX8_rate_146 rfl (lv_at hl 3 rfl) ?_
                  refine lv_iconst (v := 2) hx hb dX8_rate_147 (by decide) ?_
                  refine lv_icmp_ne (tgt := 156) hx hb dX8_rate_148 (by decide) (fun c148 => ?_) (fun c148 => ?_)
                  · refine lv_iload_n hx hb dX8_rate_156 rfl (lv_at hl 3 rfl) ?_
                    refine lv_iconst (v := 3) hx hb dX8_rate_157 (by decide) ?_
                    refine lv_icmp_ne (tgt := 167) hx hb dX8_rate_158 (by decide) (fun c158 => ?_) (fun c158 => ?_)
                    · refine lv_iload_n hx hb dX8_rate_167 rfl (lv_at hl 3 rfl) ?_
                      refine lv_iconst (v := 4) hx hb dX8_rate_168 (by decide) ?_
                      refine lv_icmp_ne (tgt := 179) hx hb dX8_rate_169 (by decide) (fun c169 => ?_) (fun c169 => ?_)
                      · refine lv_aload_n hx hb dX8_rate_179 rfl (lv_at hl 2 rfl) ?_
                        refine va_get (D := G.1) (v := .ref (a 3)) hx hb hts hin8 hown hK hP 0 (WM_0 G a (mkJ ((qTr c) + 1011) (qTx c) (qTy c) (qNe c) (qTo c) (qPl c) (qVa c) (qFa c) (qN c) (qSo c) (qVo c) (qBi c) (qHo c) (qTd c) (qS c) (qW c) (qKe c) (qIk c) (qUn c) (qUm c) (qRb c) (qRi c) (qRm c))) rfl 11 (by decide) hf19 (fun _ h => h) rfl dX8_rate_180 ?_
                        refine lv_iload_n hx hb dX8_rate_183 rfl (lv_at hl 4 rfl) ?_
                        refine wk_iald (i := j) hx hb hK hP 3 1 (WM_3 G a (mkJ ((qTr c) + 1011) (qTx c) (qTy c) (qNe c) (qTo c) (qPl c) (qVa c) (qFa c) (qN c) (qSo c) (qVo c) (qBi c) (qHo c) (qTd c) (qS c) (qW c) (qKe c) (qIk c) (qUn c) (qUm c) (qRb c) (qRi c) (qRm c))) rfl (by omega) (Nat.le_of_ble_eq_true rfl) dX8_rate_184 ?_
                        refine lv_aload_n hx hb dX8_rate_185 rfl (lv_at hl 2 rfl) ?_
                        refine va_get (D := G.1) (v := .ref (a 5)) hx hb hts hin8 hown hK hP 0 (WM_0 G a (mkJ ((qTr c) + 1011) (qTx c) (qTy c) (qNe c) (qTo c) (qPl c) (qVa c) (qFa c) (qN c) (qSo c) (qVo c) (qBi c) (qHo c) (qTd c) (qS c) (qW c) (qKe c) (qIk c) (qUn c) (qUm c) (qRb c) (qRi c) (qRm c))) rfl 15 (by decide) hf28 (fun _ h => h) rfl dX8_rate_186 ?_
                        refine lv_bipush (v := 17) hx hb dX8_rate_189 (by decide) ?_
                        refine wk_iald (i := 17) hx hb hK hP 5 1 (WM_5 G a (mkJ ((qTr c) + 1011) (qTx c) (qTy c) (qNe c) (qTo c) (qPl c) (qVa c) (qFa c) (qN c) (qSo c) (qVo c) (qBi c) (qHo c) (qTd c) (qS c) (qW c) (qKe c) (qIk c) (qUn c) (qUm c) (qRb c) (qRi c) (qRm c))) rfl (by omega) (Nat.le_of_ble_eq_true rfl) dX8_rate_191 ?_
                        refine lv_iadd hx hb dX8_rate_192 ?_
                        have hq : yRate c k (nI j) = (((qVo c j) + (qS c 17)), mkJ ((qTr c) + 1011) (qTx c) (qTy c) (qNe c) (qTo c) (qPl c) (qVa c) (qFa c) (qN c) (qSo c) (qVo c) (qBi c) (qHo c) (qTd c) (qS c) (qW c) (qKe c) (qIk c) (qUn c) (qUm c) (qRb c) (qRi c) (qRm c)) := by first | exact absurd c66 c125 | exact absurd c125 c66 | exact absurd c75 c139 | exact absurd c139 c75 | exact absurd c86 c148 | exact absurd c148 c86 | exact absurd c97 c158 | exact absurd c158 c97 | ((simp only [yRate, yRaV, yRaT, hcl, c11, c19, c66, c75, c86, c97, if_true, if_false, reduceIte, not_true_eq_false, not_false_eq_true, Bool.and_true, Bool.true_and, Bool.and_self, Bool.and_false, Bool.false_and, Bool.false_eq_true]) <;> rfl)
                        exact wk_mret' hx hb hr hlocks dX8_rate_193 hP hS (congrArg (fun z => some (Value.int z.1)) hq) (congrArg (fun z => WM G a z.2) hq)
                      · refine lv_iload hx hb dX8_rate_172 (lv_at hl 0 rfl) ?_
                        refine lv_iload_n hx hb dX8_rate_174 rfl (lv_at hl 4 rfl) ?_
                        refine lv_iadd hx hb dX8_rate_175 ?_
                        refine lv_goto (tgt := 193) hx hb dX8_rate_176 (by decide) ?_
                        have hq : yRate c k (nI j) = ((((qVo c j) - (qS c (7 + j))) + (nI j)), mkJ ((qTr c) + 1011) (qTx c) (qTy c) (qNe c) (qTo c) (qPl c) (qVa c) (qFa c) (qN c) (qSo c) (qVo c) (qBi c) (qHo c) (qTd c) (qS c) (qW c) (qKe c) (qIk c) (qUn c) (qUm c) (qRb c) (qRi c) (qRm c)) := by first | exact absurd c66 c125 | exact absurd c125 c66 | exact absurd c75 c139 | exact absurd c139 c75 | exact absurd c86 c148 | exact absurd c148 c86 | exact absurd c97 c158 | exact absurd c158 c97 | ((simp only [yRate, yRaV, yRaT, hcl, c11, c19, c66, c75, c86, c97, if_true, if_false, reduceIte, not_true_eq_false, not_false_eq_true, Bool.and_true, Bool.true_and, Bool.and_self, Bool.and_false, Bool.false_and, Bool.false_eq_true]) <;> rfl)
                        exact wk_mret' hx hb hr hlocks dX8_rate_193 hP hS (congrArg (fun z => some (Value.int z.1)) hq) (congrArg (fun z => WM G a z.2) hq)
                    · refine lv_iconst (v := 2) hx hb dX8_rate_161 (by decide) ?_
                      refine lv_iload_n hx hb dX8_rate_162 rfl (lv_at hl 1 rfl) ?_
                      refine lv_imul hx hb dX8_rate_163 ?_
                      refine lv_goto (tgt := 193) hx hb dX8_rate_164 (by decide) ?_
                      have hq : yRate c k (nI j) = ((2 * ((qVo c j) + (jOnes (qBi c j)))), mkJ ((qTr c) + 1011) (qTx c) (qTy c) (qNe c) (qTo c) (qPl c) (qVa c) (qFa c) (qN c) (qSo c) (qVo c) (qBi c) (qHo c) (qTd c) (qS c) (qW c) (qKe c) (qIk c) (qUn c) (qUm c) (qRb c) (qRi c) (qRm c)) := by first | exact absurd c66 c125 | exact absurd c125 c66 | exact absurd c75 c139 | exact absurd c139 c75 | exact absurd c86 c148 | exact absurd c148 c86 | exact absurd c97 c158 | exact absurd c158 c97 | ((simp only [yRate, yRaV, yRaT, hcl, c11, c19, c66, c75, c86, c97, if_true, if_false, reduceIte, not_true_eq_false, not_false_eq_true, Bool.and_true, Bool.true_and, Bool.and_self, Bool.and_false, Bool.false_and, Bool.false_eq_true]) <;> rfl)
                      exact wk_mret' hx hb hr hlocks dX8_rate_193 hP hS (congrArg (fun z => some (Value.int z.1)) hq) (congrArg (fun z => WM G a z.2) hq)
                  · refine lv_iload hx hb dX8_rate_151 (lv_at hl 0 rfl) ?_
                    refine lv_goto (tgt := 193) hx hb dX8_rate_153 (by decide) ?_
                    have hq : yRate c k (nI j) = (((qVo c j) - (qS c (7 + j))), mkJ ((qTr c) + 1011) (qTx c) (qTy c) (qNe c) (qTo c) (qPl c) (qVa c) (qFa c) (qN c) (qSo c) (qVo c) (qBi c) (qHo c) (qTd c) (qS c) (qW c) (qKe c) (qIk c) (qUn c) (qUm c) (qRb c) (qRi c) (qRm c)) := by first | exact absurd c66 c125 | exact absurd c125 c66 | exact absurd c75 c139 | exact absurd c139 c75 | exact absurd c86 c148 | exact absurd c148 c86 | ((simp only [yRate, yRaV, yRaT, hcl, c11, c19, c66, c75, c86, c97, if_true, if_false, reduceIte, not_true_eq_false, not_false_eq_true, Bool.and_true, Bool.true_and, Bool.and_self, Bool.and_false, Bool.false_and, Bool.false_eq_true]) <;> rfl)
                    exact wk_mret' hx hb hr hlocks dX8_rate_193 hP hS (congrArg (fun z => some (Value.int z.1)) hq) (congrArg (fun z => WM G a z.2) hq)
                · refine lv_iload_n hx hb dX8_rate_142 rfl (lv_at hl 1 rfl) ?_
                  refine lv_goto (tgt := 193) hx hb dX8_rate_143 (by decide) ?_
                  have hq : yRate c k (nI j) = (((qVo c j) + (jOnes (qBi c j))), mkJ ((qTr c) + 1011) (qTx c) (qTy c) (qNe c) (qTo c) (qPl c) (qVa c) (qFa c) (qN c) (qSo c) (qVo c) (qBi c) (qHo c) (qTd c) (qS c) (qW c) (qKe c) (qIk c) (qUn c) (qUm c) (qRb c) (qRi c) (qRm c)) := by first | exact absurd c66 c125 | exact absurd c125 c66 | exact absurd c75 c139 | exact absurd c139 c75 | ((simp only [yRate, yRaV, yRaT, hcl, c11, c19, c66, c75, c86, c97, if_true, if_false, reduceIte, not_true_eq_false, not_false_eq_true, Bool.and_true, Bool.true_and, Bool.and_self, Bool.and_false, Bool.false_and, Bool.false_eq_true]) <;> rfl)
                  exact wk_mret' hx hb hr hlocks dX8_rate_193 hP hS (congrArg (fun z => some (Value.int z.1)) hq) (congrArg (fun z => WM G a z.2) hq)
              · refine lv_aload_n hx hb dX8_rate_128 rfl (lv_at hl 2 rfl) ?_
                refine va_get (D := G.1) (v := .ref (a 3)) hx hb hts hin8 hown hK hP 0 (WM_0 G a (mkJ ((qTr c) + 1011) (qTx c) (qTy c) (qNe c) (qTo c) (qPl c) (qVa c) (qFa c) (qN c) (qSo c) (qVo c) (qBi c) (qHo c) (qTd c) (qS c) (qW c) (qKe c) (qIk c) (qUn c) (qUm c) (qRb c) (qRi c) (qRm c))) rfl 11 (by decide) hf19 (fun _ h => h) rfl dX8_rate_129 ?_
                refine lv_iload_n hx hb dX8_rate_132 rfl (lv_at hl 4 rfl) ?_
                refine wk_iald (i := j) hx hb hK hP 3 1 (WM_3 G a (mkJ ((qTr c) + 1011) (qTx c) (qTy c) (qNe c) (qTo c) (qPl c) (qVa c) (qFa c) (qN c) (qSo c) (qVo c) (qBi c) (qHo c) (qTd c) (qS c) (qW c) (qKe c) (qIk c) (qUn c) (qUm c) (qRb c) (qRi c) (qRm c))) rfl (by omega) (Nat.le_of_ble_eq_true rfl) dX8_rate_133 ?_
                refine lv_goto (tgt := 193) hx hb dX8_rate_134 (by decide) ?_
                have hq : yRate c k (nI j) = ((qVo c j), mkJ ((qTr c) + 1011) (qTx c) (qTy c) (qNe c) (qTo c) (qPl c) (qVa c) (qFa c) (qN c) (qSo c) (qVo c) (qBi c) (qHo c) (qTd c) (qS c) (qW c) (qKe c) (qIk c) (qUn c) (qUm c) (qRb c) (qRi c) (qRm c)) := by first | exact absurd c66 c125 | exact absurd c125 c66 | ((simp only [yRate, yRaV, yRaT, hcl, c11, c19, c66, c75, c86, c97, if_true, if_false, reduceIte, not_true_eq_false, not_false_eq_true, Bool.and_true, Bool.true_and, Bool.and_self, Bool.and_false, Bool.false_and, Bool.false_eq_true]) <;> rfl)
                exact wk_mret' hx hb hr hlocks dX8_rate_193 hP hS (congrArg (fun z => some (Value.int z.1)) hq) (congrArg (fun z => WM G a z.2) hq)
          · refine lv_ldc2 (v := 101) hx hb hown (hts (.constantLong RX8 189 (101)) (by decide +kernel)) dX8_rate_89 ?_
            refine lv_goto (tgt := 120) hx hb dX8_rate_92 (by decide) ?_
            refine lv_ladd hx hb dX8_rate_120 ?_
            refine va_put (D := G.1) (v := .long ((qTr c) + 101)) (ty := .long) hx hb hts hin8 tyX8 tyX8_ok nmX8 hown hK hP hD hS 0 (WM_0 G a c) rfl 1 (by decide) hf183 (fun _ h => h) rfl (by decide +kernel) rfl rfl (Nat.le_of_ble_eq_true rfl) dX8_rate_121 (fun H locs hP hD hS => ?_)
            rw [WMc_p0_1] at hP hD
            replace hP : va_P G.1 vwCl (WM G a (mkJ ((qTr c) + 101) (qTx c) (qTy c) (qNe c) (qTo c) (qPl c) (qVa c) (qFa c) (qN c) (qSo c) (qVo c) (qBi c) (qHo c) (qTd c) (qS c) (qW c) (qKe c) (qIk c) (qUn c) (qUm c) (qRb c) (qRi c) (qRm c))) H := hP
            replace hD : va_D A (WM G a (mkJ ((qTr c) + 101) (qTx c) (qTy c) (qNe c) (qTo c) (qPl c) (qVa c) (qFa c) (qN c) (qSo c) (qVo c) (qBi c) (qHo c) (qTd c) (qS c) (qW c) (qKe c) (qIk c) (qUn c) (qUm c) (qRb c) (qRi c) (qRm c))) := hD
            refine lv_iload_n hx hb dX8_rate_124 rfl (lv_at hl 3 rfl) ?_
            refine lv_if_ne (tgt := 137) hx hb dX8_rate_125 (by decide) (fun c125 => ?_) (fun c125 => ?_)
            · refine lv_iload_n hx hb dX8_rate_137 rfl (lv_at hl 3 rfl) ?_
              refine lv_iconst (v := 1) hx hb dX8_rate_138 (by decide) ?_
              refine lv_icmp_ne (tgt := 146) hx hb dX8_rate_139 (by decide) (fun c139 => ?_) (fun c139 => ?_)
              · refine lv_iload_n hx hb dX8_rate_146 rfl (lv_at hl 3 rfl) ?_
                refine lv_iconst (v := 2) hx hb dX8_rate_147 (by decide) ?_
                refine lv_icmp_ne (tgt := 156) hx hb dX8_rate_148 (by decide) (fun c148 => ?_) (fun c148 => ?_)
                · refine lv_iload_n hx hb dX8_rate_156 rfl (lv_at hl 3 rfl) ?_
                  refine lv_iconst (v := 3) hx hb dX8_rate_157 (by decide) ?_
                  refine lv_icmp_ne (tgt := 167) hx hb dX8_rate_158 (by decide) (fun c158 => ?_) (fun c158 => ?_)
                  · refine lv_iload_n hx hb dX8_rate_167 rfl (lv_at hl 3 rfl) ?_
                    refine lv_iconst (v := 4) hx hb dX8_rate_168 (by decide) ?_
                    refine lv_icmp_ne (tgt := 179) hx hb dX8_rate_169 (by decide) (fun c169 => ?_) (fun c169 => ?_)
                    · refine lv_aload_n hx hb dX8_rate_179 rfl (lv_at hl 2 rfl) ?_
                      refine va_get (D := G.1) (v := .ref (a 3)) hx hb hts hin8 hown hK hP 0 (WM_0 G a (mkJ ((qTr c) + 101) (qTx c) (qTy c) (qNe c) (qTo c) (qPl c) (qVa c) (qFa c) (qN c) (qSo c) (qVo c) (qBi c) (qHo c) (qTd c) (qS c) (qW c) (qKe c) (qIk c) (qUn c) (qUm c) (qRb c) (qRi c) (qRm c))) rfl 11 (by decide) hf19 (fun _ h => h) rfl dX8_rate_180 ?_
                      refine lv_iload_n hx hb dX8_rate_183 rfl (lv_at hl 4 rfl) ?_
                      refine wk_iald (i := j) hx hb hK hP 3 1 (WM_3 G a (mkJ ((qTr c) + 101) (qTx c) (qTy c) (qNe c) (qTo c) (qPl c) (qVa c) (qFa c) (qN c) (qSo c) (qVo c) (qBi c) (qHo c) (qTd c) (qS c) (qW c) (qKe c) (qIk c) (qUn c) (qUm c) (qRb c) (qRi c) (qRm c))) rfl (by omega) (Nat.le_of_ble_eq_true rfl) dX8_rate_184 ?_
                      refine lv_aload_n hx hb dX8_rate_185 rfl (lv_at hl 2 rfl) ?_
                      refine va_get (D := G.1) (v := .ref (a 5)) hx hb hts hin8 hown hK hP 0 (WM_0 G a (mkJ ((qTr c) + 101) (qTx c) (qTy c) (qNe c) (qTo c) (qPl c) (qVa c) (qFa c) (qN c) (qSo c) (qVo c) (qBi c) (qHo c) (qTd c) (qS c) (qW c) (qKe c) (qIk c) (qUn c) (qUm c) (qRb c) (qRi c) (qRm c))) rfl 15 (by decide) hf28 (fun _ h => h) rfl dX8_rate_186 ?_
                      refine lv_bipush (v := 17) hx hb dX8_rate_189 (by decide) ?_
                      refine wk_iald (i := 17) hx hb hK hP 5 1 (WM_5 G a (mkJ ((qTr c) + 101) (qTx c) (qTy c) (qNe c) (qTo c) (qPl c) (qVa c) (qFa c) (qN c) (qSo c) (qVo c) (qBi c) (qHo c) (qTd c) (qS c) (qW c) (qKe c) (qIk c) (qUn c) (qUm c) (qRb c) (qRi c) (qRm c))) rfl (by omega) (Nat.le_of_ble_eq_true rfl) dX8_rate_191 ?_
                      refine lv_iadd hx hb dX8_rate_192 ?_
                      have hq : yRate c k (nI j) = (((qVo c j) + (qS c 17)), mkJ ((qTr c) + 101) (qTx c) (qTy c) (qNe c) (qTo c) (qPl c) (qVa c) (qFa c) (qN c) (qSo c) (qVo c) (qBi c) (qHo c) (qTd c) (qS c) (qW c) (qKe c) (qIk c) (qUn c) (qUm c) (qRb c) (qRi c) (qRm c)) := by first | exact absurd c66 c125 | exact absurd c125 c66 | exact absurd c75 c139 | exact absurd c139 c75 | exact absurd c86 c148 | exact absurd c148 c86 | ((simp only [yRate, yRaV, yRaT, hcl, c11, c19, c66, c75, c86, if_true, if_false, reduceIte, not_true_eq_false, not_false_eq_true, Bool.and_true, Bool.true_and, Bool.and_self, Bool.and_false, Bool.false_and, Bool.false_eq_true]) <;> rfl)
                      exact wk_mret' hx hb hr hlocks dX8_rate_193 hP hS (congrArg (fun z => some (Value.int z.1)) hq) (congrArg (fun z => WM G a z.2) hq)
                    · refine lv_iload hx hb dX8_rate_172 (lv_at hl 0 rfl) ?_
                      refine lv_iload_n hx hb dX8_rate_174 rfl (lv_at hl 4 rfl) ?_
                      refine lv_iadd hx hb dX8_rate_175 ?_
                      refine lv_goto (tgt := 193) hx hb dX8_rate_176 (by decide) ?_
                      have hq : yRate c k (nI j) = ((((qVo c j) - (qS c (7 + j))) + (nI j)), mkJ ((qTr c) + 101) (qTx c) (qTy c) (qNe c) (qTo c) (qPl c) (qVa c) (qFa c) (qN c) (qSo c) (qVo c) (qBi c) (qHo c) (qTd c) (qS c) (qW c) (qKe c) (qIk c) (qUn c) (qUm c) (qRb c) (qRi c) (qRm c)) := by first | exact absurd c66 c125 | exact absurd c125 c66 | exact absurd c75 c139 | exact absurd c139 c75 | exact absurd c86 c148 | exact absurd c148 c86 | ((simp only [yRate, yRaV, yRaT, hcl, c11, c19, c66, c75, c86, if_true, if_false, reduceIte, not_true_eq_false, not_false_eq_true, Bool.and_true, Bool.true_and, Bool.and_self, Bool.and_false, Bool.false_and, Bool.false_eq_true]) <;> rfl)
                      exact wk_mret' hx hb hr hlocks dX8_rate_193 hP hS (congrArg (fun z => some (Value.int z.1)) hq) (congrArg (fun z => WM G a z.2) hq)
                  · refine lv_iconst (v := 2) hx hb dX8_rate_161 (by decide) ?_
                    refine lv_iload_n hx hb dX8_rate_162 rfl (lv_at hl 1 rfl) ?_
                    refine lv_imul hx hb dX8_rate_163 ?_
                    refine lv_goto (tgt := 193) hx hb dX8_rate_164 (by decide) ?_
                    have hq : yRate c k (nI j) = ((2 * ((qVo c j) + (jOnes (qBi c j)))), mkJ ((qTr c) + 101) (qTx c) (qTy c) (qNe c) (qTo c) (qPl c) (qVa c) (qFa c) (qN c) (qSo c) (qVo c) (qBi c) (qHo c) (qTd c) (qS c) (qW c) (qKe c) (qIk c) (qUn c) (qUm c) (qRb c) (qRi c) (qRm c)) := by first | exact absurd c66 c125 | exact absurd c125 c66 | exact absurd c75 c139 | exact absurd c139 c75 | exact absurd c86 c148 | exact absurd c148 c86 | ((simp only [yRate, yRaV, yRaT, hcl, c11, c19, c66, c75, c86, if_true, if_false, reduceIte, not_true_eq_false, not_false_eq_true, Bool.and_true, Bool.true_and, Bool.and_self, Bool.and_false, Bool.false_and, Bool.false_eq_true]) <;> rfl)
                    exact wk_mret' hx hb hr hlocks dX8_rate_193 hP hS (congrArg (fun z => some (Value.int z.1)) hq) (congrArg (fun z => WM G a z.2) hq)
                · refine lv_iload hx hb dX8_rate_151 (lv_at hl 0 rfl) ?_
                  refine lv_goto (tgt := 193) hx hb dX8_rate_153 (by decide) ?_
                  have hq : yRate c k (nI j) = (((qVo c j) - (qS c (7 + j))), mkJ ((qTr c) + 101) (qTx c) (qTy c) (qNe c) (qTo c) (qPl c) (qVa c) (qFa c) (qN c) (qSo c) (qVo c) (qBi c) (qHo c) (qTd c) (qS c) (qW c) (qKe c) (qIk c) (qUn c) (qUm c) (qRb c) (qRi c) (qRm c)) := by first | exact absurd c66 c125 | exact absurd c125 c66 | exact absurd c75 c139 | exact absurd c139 c75 | exact absurd c86 c148 | exact absurd c148 c86 | ((simp only [yRate, yRaV, yRaT, hcl, c11, c19, c66, c75, c86, if_true, if_false, reduceIte, not_true_eq_false, not_false_eq_true, Bool.and_true, Bool.true_and, Bool.and_self, Bool.and_false, Bool.false_and, Bool.false_eq_true]) <;> rfl)
                  exact wk_mret' hx hb hr hlocks dX8_rate_193 hP hS (congrArg (fun z => some (Value.int z.1)) hq) (congrArg (fun z => WM G a z.2) hq)
              · refine lv_iload_n hx hb dX8_rate_142 rfl (lv_at hl 1 rfl) ?_
                refine lv_goto (tgt := 193) hx hb dX8_rate_143 (by decide) ?_
                have hq : yRate c k (nI j) = (((qVo c j) + (jOnes (qBi c j))), mkJ ((qTr c) + 101) (qTx c) (qTy c) (qNe c) (qTo c) (qPl c) (qVa c) (qFa c) (qN c) (qSo c) (qVo c) (qBi c) (qHo c) (qTd c) (qS c) (qW c) (qKe c) (qIk c) (qUn c) (qUm c) (qRb c) (qRi c) (qRm c)) := by first | exact absurd c66 c125 | exact absurd c125 c66 | exact absurd c75 c139 | exact absurd c139 c75 | ((simp only [yRate, yRaV, yRaT, hcl, c11, c19, c66, c75, c86, if_true, if_false, reduceIte, not_true_eq_false, not_false_eq_true, Bool.and_true, Bool.true_and, Bool.and_self, Bool.and_false, Bool.false_and, Bool.false_eq_true]) <;> rfl)
                exact wk_mret' hx hb hr hlocks dX8_rate_193 hP hS (congrArg (fun z => some (Value.int z.1)) hq) (congrArg (fun z => WM G a z.2) hq)
            · refine lv_aload_n hx hb dX8_rate_128 rfl (lv_at hl 2 rfl) ?_
              refine va_get (D := G.1) (v := .ref (a 3)) hx hb hts hin8 hown hK hP 0 (WM_0 G a (mkJ ((qTr c) + 101) (qTx c) (qTy c) (qNe c) (qTo c) (qPl c) (qVa c) (qFa c) (qN c) (qSo c) (qVo c) (qBi c) (qHo c) (qTd c) (qS c) (qW c) (qKe c) (qIk c) (qUn c) (qUm c) (qRb c) (qRi c) (qRm c))) rfl 11 (by decide) hf19 (fun _ h => h) rfl dX8_rate_129 ?_
              refine lv_iload_n hx hb dX8_rate_132 rfl (lv_at hl 4 rfl) ?_
              refine wk_iald (i := j) hx hb hK hP 3 1 (WM_3 G a (mkJ ((qTr c) + 101) (qTx c) (qTy c) (qNe c) (qTo c) (qPl c) (qVa c) (qFa c) (qN c) (qSo c) (qVo c) (qBi c) (qHo c) (qTd c) (qS c) (qW c) (qKe c) (qIk c) (qUn c) (qUm c) (qRb c) (qRi c) (qRm c))) rfl (by omega) (Nat.le_of_ble_eq_true rfl) dX8_rate_133 ?_
              refine lv_goto (tgt := 193) hx hb dX8_rate_134 (by decide) ?_
              have hq : yRate c k (nI j) = ((qVo c j), mkJ ((qTr c) + 101) (qTx c) (qTy c) (qNe c) (qTo c) (qPl c) (qVa c) (qFa c) (qN c) (qSo c) (qVo c) (qBi c) (qHo c) (qTd c) (qS c) (qW c) (qKe c) (qIk c) (qUn c) (qUm c) (qRb c) (qRi c) (qRm c)) := by first | exact absurd c66 c125 | exact absurd c125 c66 | ((simp only [yRate, yRaV, yRaT, hcl, c11, c19, c66, c75, c86, if_true, if_false, reduceIte, not_true_eq_false, not_false_eq_true, Bool.and_true, Bool.true_and, Bool.and_self, Bool.and_false, Bool.false_and, Bool.false_eq_true]) <;> rfl)
              exact wk_mret' hx hb hr hlocks dX8_rate_193 hP hS (congrArg (fun z => some (Value.int z.1)) hq) (congrArg (fun z => WM G a z.2) hq)
        · refine lv_ldc2 (v := 11) hx hb hown (hts (.constantLong RX8 187 (11)) (by decide +kernel)) dX8_rate_78 ?_
          refine lv_goto (tgt := 120) hx hb dX8_rate_81 (by decide) ?_
          refine lv_ladd hx hb dX8_rate_120 ?_
          refine va_put (D := G.1) (v := .long ((qTr c) + 11)) (ty := .long) hx hb hts hin8 tyX8 tyX8_ok nmX8 hown hK hP hD hS 0 (WM_0 G a c) rfl 1 (by decide) hf183 (fun _ h => h) rfl (by decide +kernel) rfl rfl (Nat.le_of_ble_eq_true rfl) dX8_rate_121 (fun H locs hP hD hS => ?_)
          rw [WMc_p0_1] at hP hD
          replace hP : va_P G.1 vwCl (WM G a (mkJ ((qTr c) + 11) (qTx c) (qTy c) (qNe c) (qTo c) (qPl c) (qVa c) (qFa c) (qN c) (qSo c) (qVo c) (qBi c) (qHo c) (qTd c) (qS c) (qW c) (qKe c) (qIk c) (qUn c) (qUm c) (qRb c) (qRi c) (qRm c))) H := hP
          replace hD : va_D A (WM G a (mkJ ((qTr c) + 11) (qTx c) (qTy c) (qNe c) (qTo c) (qPl c) (qVa c) (qFa c) (qN c) (qSo c) (qVo c) (qBi c) (qHo c) (qTd c) (qS c) (qW c) (qKe c) (qIk c) (qUn c) (qUm c) (qRb c) (qRi c) (qRm c))) := hD
          refine lv_iload_n hx hb dX8_rate_124 rfl (lv_at hl 3 rfl) ?_
          refine lv_if_ne (tgt := 137) hx hb dX8_rate_125 (by decide) (fun c125 => ?_) (fun c125 => ?_)
          · refine lv_iload_n hx hb dX8_rate_137 rfl (lv_at hl 3 rfl) ?_
            refine lv_iconst (v := 1) hx hb dX8_rate_138 (by decide) ?_
            refine lv_icmp_ne (tgt := 146) hx hb dX8_rate_139 (by decide) (fun c139 => ?_) (fun c139 => ?_)
            · refine lv_iload_n hx hb dX8_rate_146 rfl (lv_at hl 3 rfl) ?_
              refine lv_iconst (v := 2) hx hb dX8_rate_147 (by decide) ?_
              refine lv_icmp_ne (tgt := 156) hx hb dX8_rate_148 (by decide) (fun c148 => ?_) (fun c148 => ?_)
              · refine lv_iload_n hx hb dX8_rate_156 rfl (lv_at hl 3 rfl) ?_
                refine lv_iconst (v := 3) hx hb dX8_rate_157 (by decide) ?_
                refine lv_icmp_ne (tgt := 167) hx hb dX8_rate_158 (by decide) (fun c158 => ?_) (fun c158 => ?_)
                · refine lv_iload_n hx hb dX8_rate_167 rfl (lv_at hl 3 rfl) ?_
                  refine lv_iconst (v := 4) hx hb dX8_rate_168 (by decide) ?_
                  refine lv_icmp_ne (tgt := 179) hx hb dX8_rate_169 (by decide) (fun c169 => ?_) (fun c169 => ?_)
                  · refine lv_aload_n hx hb dX8_rate_179 rfl (lv_at hl 2 rfl) ?_
                    refine va_get (D := G.1) (v := .ref (a 3)) hx hb hts hin8 hown hK hP 0 (WM_0 G a (mkJ ((qTr c) + 11) (qTx c) (qTy c) (qNe c) (qTo c) (qPl c) (qVa c) (qFa c) (qN c) (qSo c) (qVo c) (qBi c) (qHo c) (qTd c) (qS c) (qW c) (qKe c) (qIk c) (qUn c) (qUm c) (qRb c) (qRi c) (qRm c))) rfl 11 (by decide) hf19 (fun _ h => h) rfl dX8_rate_180 ?_
                    refine lv_iload_n hx hb dX8_rate_183 rfl (lv_at hl 4 rfl) ?_
                    refine wk_iald (i := j) hx hb hK hP 3 1 (WM_3 G a (mkJ ((qTr c) + 11) (qTx c) (qTy c) (qNe c) (qTo c) (qPl c) (qVa c) (qFa c) (qN c) (qSo c) (qVo c) (qBi c) (qHo c) (qTd c) (qS c) (qW c) (qKe c) (qIk c) (qUn c) (qUm c) (qRb c) (qRi c) (qRm c))) rfl (by omega) (Nat.le_of_ble_eq_true rfl) dX8_rate_184 ?_
                    refine lv_aload_n hx hb dX8_rate_185 rfl (lv_at hl 2 rfl) ?_
                    refine va_get (D := G.1) (v := .ref (a 5)) hx hb hts hin8 hown hK hP 0 (WM_0 G a (mkJ ((qTr c) + 11) (qTx c) (qTy c) (qNe c) (qTo c) (qPl c) (qVa c) (qFa c) (qN c) (qSo c) (qVo c) (qBi c) (qHo c) (qTd c) (qS c) (qW c) (qKe c) (qIk c) (qUn c) (qUm c) (qRb c) (qRi c) (qRm c))) rfl 15 (by decide) hf28 (fun _ h => h) rfl dX8_rate_186 ?_
                    refine lv_bipush (v := 17) hx hb dX8_rate_189 (by decide) ?_
                    refine wk_iald (i := 17) hx hb hK hP 5 1 (WM_5 G a (mkJ ((qTr c) + 11) (qTx c) (qTy c) (qNe c) (qTo c) (qPl c) (qVa c) (qFa c) (qN c) (qSo c) (qVo c) (qBi c) (qHo c) (qTd c) (qS c) (qW c) (qKe c) (qIk c) (qUn c) (qUm c) (qRb c) (qRi c) (qRm c))) rfl (by omega) (Nat.le_of_ble_eq_true rfl) dX8_rate_191 ?_
                    refine lv_iadd hx hb dX8_rate_192 ?_
                    have hq : yRate c k (nI j) = (((qVo c j) + (qS c 17)), mkJ ((qTr c) + 11) (qTx c) (qTy c) (qNe c) (qTo c) (qPl c) (qVa c) (qFa c) (qN c) (qSo c) (qVo c) (qBi c) (qHo c) (qTd c) (qS c) (qW c) (qKe c) (qIk c) (qUn c) (qUm c) (qRb c) (qRi c) (qRm c)) := by first | exact absurd c66 c125 | exact absurd c125 c66 | exact absurd c75 c139 | exact absurd c139 c75 | ((simp only [yRate, yRaV, yRaT, hcl, c11, c19, c66, c75, if_true, if_false, reduceIte, not_true_eq_false, not_false_eq_true, Bool.and_true, Bool.true_and, Bool.and_self, Bool.and_false, Bool.false_and, Bool.false_eq_true]) <;> rfl)
                    exact wk_mret' hx hb hr hlocks dX8_rate_193 hP hS (congrArg (fun z => some (Value.int z.1)) hq) (congrArg (fun z => WM G a z.2) hq)
                  · refine lv_iload hx hb dX8_rate_172 (lv_at hl 0 rfl) ?_
                    refine lv_iload_n hx hb dX8_rate_174 rfl (lv_at hl 4 rfl) ?_
                    refine lv_iadd hx hb dX8_rate_175 ?_
                    refine lv_goto (tgt := 193) hx hb dX8_rate_176 (by decide) ?_
                    have hq : yRate c k (nI j) = ((((qVo c j) - (qS c (7 + j))) + (nI j)), mkJ ((qTr c) + 11) (qTx c) (qTy c) (qNe c) (qTo c) (qPl c) (qVa c) (qFa c) (qN c) (qSo c) (qVo c) (qBi c) (qHo c) (qTd c) (qS c) (qW c) (qKe c) (qIk c) (qUn c) (qUm c) (qRb c) (qRi c) (qRm c)) := by first | exact absurd c66 c125 | exact absurd c125 c66 | exact absurd c75 c139 | exact absurd c139 c75 | ((simp only [yRate, yRaV, yRaT, hcl, c11, c19, c66, c75, if_true, if_false, reduceIte, not_true_eq_false, not_false_eq_true, Bool.and_true, Bool.true_and, Bool.and_self, Bool.and_false, Bool.false_and, Bool.false_eq_true]) <;> rfl)
                    exact wk_mret' hx hb hr hlocks dX8_rate_193 hP hS (congrArg (fun z => some (Value.int z.1)) hq) (congrArg (fun z => WM G a z.2) hq)
                · refine lv_iconst (v := 2) hx hb dX8_rate_161 (by decide) ?_
                  refine lv_iload_n hx hb dX8_rate_162 rfl (lv_at hl 1 rfl) ?_
                  refine lv_imul hx hb dX8_rate_163 ?_
                  refine lv_goto (tgt := 193) hx hb dX8_rate_164 (by decide) ?_
                  have hq : yRate c k (nI j) = ((2 * ((qVo c j) + (jOnes (qBi c j)))), mkJ ((qTr c) + 11) (qTx c) (qTy c) (qNe c) (qTo c) (qPl c) (qVa c) (qFa c) (qN c) (qSo c) (qVo c) (qBi c) (qHo c) (qTd c) (qS c) (qW c) (qKe c) (qIk c) (qUn c) (qUm c) (qRb c) (qRi c) (qRm c)) := by first | exact absurd c66 c125 | exact absurd c125 c66 | exact absurd c75 c139 | exact absurd c139 c75 | ((simp only [yRate, yRaV, yRaT, hcl, c11, c19, c66, c75, if_true, if_false, reduceIte, not_true_eq_false, not_false_eq_true, Bool.and_true, Bool.true_and, Bool.and_self, Bool.and_false, Bool.false_and, Bool.false_eq_true]) <;> rfl)
                  exact wk_mret' hx hb hr hlocks dX8_rate_193 hP hS (congrArg (fun z => some (Value.int z.1)) hq) (congrArg (fun z => WM G a z.2) hq)
              · refine lv_iload hx hb dX8_rate_151 (lv_at hl 0 rfl) ?_
                refine lv_goto (tgt := 193) hx hb dX8_rate_153 (by decide) ?_
                have hq : yRate c k (nI j) = (((qVo c j) - (qS c (7 + j))), mkJ ((qTr c) + 11) (qTx c) (qTy c) (qNe c) (qTo c) (qPl c) (qVa c) (qFa c) (qN c) (qSo c) (qVo c) (qBi c) (qHo c) (qTd c) (qS c) (qW c) (qKe c) (qIk c) (qUn c) (qUm c) (qRb c) (qRi c) (qRm c)) := by first | exact absurd c66 c125 | exact absurd c125 c66 | exact absurd c75 c139 | exact absurd c139 c75 | ((simp only [yRate, yRaV, yRaT, hcl, c11, c19, c66, c75, if_true, if_false, reduceIte, not_true_eq_false, not_false_eq_true, Bool.and_true, Bool.true_and, Bool.and_self, Bool.and_false, Bool.false_and, Bool.false_eq_true]) <;> rfl)
                exact wk_mret' hx hb hr hlocks dX8_rate_193 hP hS (congrArg (fun z => some (Value.int z.1)) hq) (congrArg (fun z => WM G a z.2) hq)
            · refine lv_iload_n hx hb dX8_rate_142 rfl (lv_at hl 1 rfl) ?_
              refine lv_goto (tgt := 193) hx hb dX8_rate_143 (by decide) ?_
              have hq : yRate c k (nI j) = (((qVo c j) + (jOnes (qBi c j))), mkJ ((qTr c) + 11) (qTx c) (qTy c) (qNe c) (qTo c) (qPl c) (qVa c) (qFa c) (qN c) (qSo c) (qVo c) (qBi c) (qHo c) (qTd c) (qS c) (qW c) (qKe c) (qIk c) (qUn c) (qUm c) (qRb c) (qRi c) (qRm c)) := by first | exact absurd c66 c125 | exact absurd c125 c66 | exact absurd c75 c139 | exact absurd c139 c75 | ((simp only [yRate, yRaV, yRaT, hcl, c11, c19, c66, c75, if_true, if_false, reduceIte, not_true_eq_false, not_false_eq_true, Bool.and_true, Bool.true_and, Bool.and_self, Bool.and_false, Bool.false_and, Bool.false_eq_true]) <;> rfl)
              exact wk_mret' hx hb hr hlocks dX8_rate_193 hP hS (congrArg (fun z => some (Value.int z.1)) hq) (congrArg (fun z => WM G a z.2) hq)
          · refine lv_aload_n hx hb dX8_rate_128 rfl (lv_at hl 2 rfl) ?_
            refine va_get (D := G.1) (v := .ref (a 3)) hx hb hts hin8 hown hK hP 0 (WM_0 G a (mkJ ((qTr c) + 11) (qTx c) (qTy c) (qNe c) (qTo c) (qPl c) (qVa c) (qFa c) (qN c) (qSo c) (qVo c) (qBi c) (qHo c) (qTd c) (qS c) (qW c) (qKe c) (qIk c) (qUn c) (qUm c) (qRb c) (qRi c) (qRm c))) rfl 11 (by decide) hf19 (fun _ h => h) rfl dX8_rate_129 ?_
            refine lv_iload_n hx hb dX8_rate_132 rfl (lv_at hl 4 rfl) ?_
            refine wk_iald (i := j) hx hb hK hP 3 1 (WM_3 G a (mkJ ((qTr c) + 11) (qTx c) (qTy c) (qNe c) (qTo c) (qPl c) (qVa c) (qFa c) (qN c) (qSo c) (qVo c) (qBi c) (qHo c) (qTd c) (qS c) (qW c) (qKe c) (qIk c) (qUn c) (qUm c) (qRb c) (qRi c) (qRm c))) rfl (by omega) (Nat.le_of_ble_eq_true rfl) dX8_rate_133 ?_
            refine lv_goto (tgt := 193) hx hb dX8_rate_134 (by decide) ?_
            have hq : yRate c k (nI j) = ((qVo c j), mkJ ((qTr c) + 11) (qTx c) (qTy c) (qNe c) (qTo c) (qPl c) (qVa c) (qFa c) (qN c) (qSo c) (qVo c) (qBi c) (qHo c) (qTd c) (qS c) (qW c) (qKe c) (qIk c) (qUn c) (qUm c) (qRb c) (qRi c) (qRm c)) := by first | exact absurd c66 c125 | exact absurd c125 c66 | ((simp only [yRate, yRaV, yRaT, hcl, c11, c19, c66, c75, if_true, if_false, reduceIte, not_true_eq_false, not_false_eq_true, Bool.and_true, Bool.true_and, Bool.and_self, Bool.and_false, Bool.false_and, Bool.false_eq_true]) <;> rfl)
            exact wk_mret' hx hb hr hlocks dX8_rate_193 hP hS (congrArg (fun z => some (Value.int z.1)) hq) (congrArg (fun z => WM G a z.2) hq)
      · refine lv_lconst (v := 1) hx hb dX8_rate_69 (by decide) ?_
        refine lv_goto (tgt := 120) hx hb dX8_rate_70 (by decide) ?_
        refine lv_ladd hx hb dX8_rate_120 ?_
        refine va_put (D := G.1) (v := .long ((qTr c) + 1)) (ty := .long) hx hb hts hin8 tyX8 tyX8_ok nmX8 hown hK hP hD hS 0 (WM_0 G a c) rfl 1 (by decide) hf183 (fun _ h => h) rfl (by decide +kernel) rfl rfl (Nat.le_of_ble_eq_true rfl) dX8_rate_121 (fun H locs hP hD hS => ?_)
        rw [WMc_p0_1] at hP hD
        replace hP : va_P G.1 vwCl (WM G a (mkJ ((qTr c) + 1) (qTx c) (qTy c) (qNe c) (qTo c) (qPl c) (qVa c) (qFa c) (qN c) (qSo c) (qVo c) (qBi c) (qHo c) (qTd c) (qS c) (qW c) (qKe c) (qIk c) (qUn c) (qUm c) (qRb c) (qRi c) (qRm c))) H := hP
        replace hD : va_D A (WM G a (mkJ ((qTr c) + 1) (qTx c) (qTy c) (qNe c) (qTo c) (qPl c) (qVa c) (qFa c) (qN c) (qSo c) (qVo c) (qBi c) (qHo c) (qTd c) (qS c) (qW c) (qKe c) (qIk c) (qUn c) (qUm c) (qRb c) (qRi c) (qRm c))) := hD
        refine lv_iload_n hx hb dX8_rate_124 rfl (lv_at hl 3 rfl) ?_
        refine lv_if_ne (tgt := 137) hx hb dX8_rate_125 (by decide) (fun c125 => ?_) (fun c125 => ?_)
        · refine lv_iload_n hx hb dX8_rate_137 rfl (lv_at hl 3 rfl) ?_
          refine lv_iconst (v := 1) hx hb dX8_rate_138 (by decide) ?_
          refine lv_icmp_ne (tgt := 146) hx hb dX8_rate_139 (by decide) (fun c139 => ?_) (fun c139 => ?_)
          · refine lv_iload_n hx hb dX8_rate_146 rfl (lv_at hl 3 rfl) ?_
            refine lv_iconst (v := 2) hx hb dX8_rate_147 (by decide) ?_
            refine lv_icmp_ne (tgt := 156) hx hb dX8_rate_148 (by decide) (fun c148 => ?_) (fun c148 => ?_)
            · refine lv_iload_n hx hb dX8_rate_156 rfl (lv_at hl 3 rfl) ?_
              refine lv_iconst (v := 3) hx hb dX8_rate_157 (by decide) ?_
              refine lv_icmp_ne (tgt := 167) hx hb dX8_rate_158 (by decide) (fun c158 => ?_) (fun c158 => ?_)
              · refine lv_iload_n hx hb dX8_rate_167 rfl (lv_at hl 3 rfl) ?_
                refine lv_iconst (v := 4) hx hb dX8_rate_168 (by decide) ?_
                refine lv_icmp_ne (tgt := 179) hx hb dX8_rate_169 (by decide) (fun c169 => ?_) (fun c169 => ?_)
                · refine lv_aload_n hx hb dX8_rate_179 rfl (lv_at hl 2 rfl) ?_
                  refine va_get (D := G.1) (v := .ref (a 3)) hx hb hts hin8 hown hK hP 0 (WM_0 G a (mkJ ((qTr c) + 1) (qTx c) (qTy c) (qNe c) (qTo c) (qPl c) (qVa c) (qFa c) (qN c) (qSo c) (qVo c) (qBi c) (qHo c) (qTd c) (qS c) (qW c) (qKe c) (qIk c) (qUn c) (qUm c) (qRb c) (qRi c) (qRm c))) rfl 11 (by decide) hf19 (fun _ h => h) rfl dX8_rate_180 ?_
                  refine lv_iload_n hx hb dX8_rate_183 rfl (lv_at hl 4 rfl) ?_
                  refine wk_iald (i := j) hx hb hK hP 3 1 (WM_3 G a (mkJ ((qTr c) + 1) (qTx c) (qTy c) (qNe c) (qTo c) (qPl c) (qVa c) (qFa c) (qN c) (qSo c) (qVo c) (qBi c) (qHo c) (qTd c) (qS c) (qW c) (qKe c) (qIk c) (qUn c) (qUm c) (qRb c) (qRi c) (qRm c))) rfl (by omega) (Nat.le_of_ble_eq_true rfl) dX8_rate_184 ?_
                  refine lv_aload_n hx hb dX8_rate_185 rfl (lv_at hl 2 rfl) ?_
                  refine va_get (D := G.1) (v := .ref (a 5)) hx hb hts hin8 hown hK hP 0 (WM_0 G a (mkJ ((qTr c) + 1) (qTx c) (qTy c) (qNe c) (qTo c) (qPl c) (qVa c) (qFa c) (qN c) (qSo c) (qVo c) (qBi c) (qHo c) (qTd c) (qS c) (qW c) (qKe c) (qIk c) (qUn c) (qUm c) (qRb c) (qRi c) (qRm c))) rfl 15 (by decide) hf28 (fun _ h => h) rfl dX8_rate_186 ?_
                  refine lv_bipush (v := 17) hx hb dX8_rate_189 (by decide) ?_
                  refine wk_iald (i := 17) hx hb hK hP 5 1 (WM_5 G a (mkJ ((qTr c) + 1) (qTx c) (qTy c) (qNe c) (qTo c) (qPl c) (qVa c) (qFa c) (qN c) (qSo c) (qVo c) (qBi c) (qHo c) (qTd c) (qS c) (qW c) (qKe c) (qIk c) (qUn c) (qUm c) (qRb c) (qRi c) (qRm c))) rfl (by omega) (Nat.le_of_ble_eq_true rfl) dX8_rate_191 ?_
                  refine lv_iadd hx hb dX8_rate_192 ?_
                  have hq : yRate c k (nI j) = (((qVo c j) + (qS c 17)), mkJ ((qTr c) + 1) (qTx c) (qTy c) (qNe c) (qTo c) (qPl c) (qVa c) (qFa c) (qN c) (qSo c) (qVo c) (qBi c) (qHo c) (qTd c) (qS c) (qW c) (qKe c) (qIk c) (qUn c) (qUm c) (qRb c) (qRi c) (qRm c)) := by first | exact absurd c66 c125 | exact absurd c125 c66 | ((simp only [yRate, yRaV, yRaT, hcl, c11, c19, c66, if_true, if_false, reduceIte, not_true_eq_false, not_false_eq_true, Bool.and_true, Bool.true_and, Bool.and_self, Bool.and_false, Bool.false_and, Bool.false_eq_true]) <;> rfl)
                  exact wk_mret' hx hb hr hlocks dX8_rate_193 hP hS (congrArg (fun z => some (Value.int z.1)) hq) (congrArg (fun z => WM G a z.2) hq)
                · refine lv_iload hx hb dX8_rate_172 (lv_at hl 0 rfl) ?_
                  refine lv_iload_n hx hb dX8_rate_174 rfl (lv_at hl 4 rfl) ?_
                  refine lv_iadd hx hb dX8_rate_175 ?_
                  refine lv_goto (tgt := 193) hx hb dX8_rate_176 (by decide) ?_
                  have hq : yRate c k (nI j) = ((((qVo c j) - (qS c (7 + j))) + (nI j)), mkJ ((qTr c) + 1) (qTx c) (qTy c) (qNe c) (qTo c) (qPl c) (qVa c) (qFa c) (qN c) (qSo c) (qVo c) (qBi c) (qHo c) (qTd c) (qS c) (qW c) (qKe c) (qIk c) (qUn c) (qUm c) (qRb c) (qRi c) (qRm c)) := by first | exact absurd c66 c125 | exact absurd c125 c66 | ((simp only [yRate, yRaV, yRaT, hcl, c11, c19, c66, if_true, if_false, reduceIte, not_true_eq_false, not_false_eq_true, Bool.and_true, Bool.true_and, Bool.and_self, Bool.and_false, Bool.false_and, Bool.false_eq_true]) <;> rfl)
                  exact wk_mret' hx hb hr hlocks dX8_rate_193 hP hS (congrArg (fun z => some (Value.int z.1)) hq) (congrArg (fun z => WM G a z.2) hq)
              · refine lv_iconst (v := 2) hx hb dX8_rate_161 (by decide) ?_
                refine lv_iload_n hx hb dX8_rate_162 rfl (lv_at hl 1 rfl) ?_
                refine lv_imul hx hb dX8_rate_163 ?_
                refine lv_goto (tgt := 193) hx hb dX8_rate_164 (by decide) ?_
                have hq : yRate c k (nI j) = ((2 * ((qVo c j) + (jOnes (qBi c j)))), mkJ ((qTr c) + 1) (qTx c) (qTy c) (qNe c) (qTo c) (qPl c) (qVa c) (qFa c) (qN c) (qSo c) (qVo c) (qBi c) (qHo c) (qTd c) (qS c) (qW c) (qKe c) (qIk c) (qUn c) (qUm c) (qRb c) (qRi c) (qRm c)) := by first | exact absurd c66 c125 | exact absurd c125 c66 | ((simp only [yRate, yRaV, yRaT, hcl, c11, c19, c66, if_true, if_false, reduceIte, not_true_eq_false, not_false_eq_true, Bool.and_true, Bool.true_and, Bool.and_self, Bool.and_false, Bool.false_and, Bool.false_eq_true]) <;> rfl)
                exact wk_mret' hx hb hr hlocks dX8_rate_193 hP hS (congrArg (fun z => some (Value.int z.1)) hq) (congrArg (fun z => WM G a z.2) hq)
            · refine lv_iload hx hb dX8_rate_151 (lv_at hl 0 rfl) ?_
              refine lv_goto (tgt := 193) hx hb dX8_rate_153 (by decide) ?_
              have hq : yRate c k (nI j) = (((qVo c j) - (qS c (7 + j))), mkJ ((qTr c) + 1) (qTx c) (qTy c) (qNe c) (qTo c) (qPl c) (qVa c) (qFa c) (qN c) (qSo c) (qVo c) (qBi c) (qHo c) (qTd c) (qS c) (qW c) (qKe c) (qIk c) (qUn c) (qUm c) (qRb c) (qRi c) (qRm c)) := by first | exact absurd c66 c125 | exact absurd c125 c66 | ((simp only [yRate, yRaV, yRaT, hcl, c11, c19, c66, if_true, if_false, reduceIte, not_true_eq_false, not_false_eq_true, Bool.and_true, Bool.true_and, Bool.and_self, Bool.and_false, Bool.false_and, Bool.false_eq_true]) <;> rfl)
              exact wk_mret' hx hb hr hlocks dX8_rate_193 hP hS (congrArg (fun z => some (Value.int z.1)) hq) (congrArg (fun z => WM G a z.2) hq)
          · refine lv_iload_n hx hb dX8_rate_142 rfl (lv_at hl 1 rfl) ?_
            refine lv_goto (tgt := 193) hx hb dX8_rate_143 (by decide) ?_
            have hq : yRate c k (nI j) = (((qVo c j) + (jOnes (qBi c j))), mkJ ((qTr c) + 1) (qTx c) (qTy c) (qNe c) (qTo c) (qPl c) (qVa c) (qFa c) (qN c) (qSo c) (qVo c) (qBi c) (qHo c) (qTd c) (qS c) (qW c) (qKe c) (qIk c) (qUn c) (qUm c) (qRb c) (qRi c) (qRm c)) := by first | exact absurd c66 c125 | exact absurd c125 c66 | ((simp only [yRate, yRaV, yRaT, hcl, c11, c19, c66, if_true, if_false, reduceIte, not_true_eq_false, not_false_eq_true, Bool.and_true, Bool.true_and, Bool.and_self, Bool.and_false, Bool.false_and, Bool.false_eq_true]) <;> rfl)
            exact wk_mret' hx hb hr hlocks dX8_rate_193 hP hS (congrArg (fun z => some (Value.int z.1)) hq) (congrArg (fun z => WM G a z.2) hq)
        · refine lv_aload_n hx hb dX8_rate_128 rfl (lv_at hl 2 rfl) ?_
          refine va_get (D := G.1) (v := .ref (a 3)) hx hb hts hin8 hown hK hP 0 (WM_0 G a (mkJ ((qTr c) + 1) (qTx c) (qTy c) (qNe c) (qTo c) (qPl c) (qVa c) (qFa c) (qN c) (qSo c) (qVo c) (qBi c) (qHo c) (qTd c) (qS c) (qW c) (qKe c) (qIk c) (qUn c) (qUm c) (qRb c) (qRi c) (qRm c))) rfl 11 (by decide) hf19 (fun _ h => h) rfl dX8_rate_129 ?_
          refine lv_iload_n hx hb dX8_rate_132 rfl (lv_at hl 4 rfl) ?_
          refine wk_iald (i := j) hx hb hK hP 3 1 (WM_3 G a (mkJ ((qTr c) + 1) (qTx c) (qTy c) (qNe c) (qTo c) (qPl c) (qVa c) (qFa c) (qN c) (qSo c) (qVo c) (qBi c) (qHo c) (qTd c) (qS c) (qW c) (qKe c) (qIk c) (qUn c) (qUm c) (qRb c) (qRi c) (qRm c))) rfl (by omega) (Nat.le_of_ble_eq_true rfl) dX8_rate_133 ?_
          refine lv_goto (tgt := 193) hx hb dX8_rate_134 (by decide) ?_
          have hq : yRate c k (nI j) = ((qVo c j), mkJ ((qTr c) + 1) (qTx c) (qTy c) (qNe c) (qTo c) (qPl c) (qVa c) (qFa c) (qN c) (qSo c) (qVo c) (qBi c) (qHo c) (qTd c) (qS c) (qW c) (qKe c) (qIk c) (qUn c) (qUm c) (qRb c) (qRi c) (qRm c)) := by first | exact absurd c66 c125 | exact absurd c125 c66 | ((simp only [yRate, yRaV, yRaT, hcl, c11, c19, c66, if_true, if_false, reduceIte, not_true_eq_false, not_false_eq_true, Bool.and_true, Bool.true_and, Bool.and_self, Bool.and_false, Bool.false_and, Bool.false_eq_true]) <;> rfl)
          exact wk_mret' hx hb hr hlocks dX8_rate_193 hP hS (congrArg (fun z => some (Value.int z.1)) hq) (congrArg (fun z => WM G a z.2) hq)
    · have c19 := b2i_f c19
      refine lv_ldc (v := -1000000) hx hb hown (hts (.constant RX8 182 (-1000000)) (by decide +kernel)) dX8_rate_22 ?_
      have hq : yRate c k t = ((-1000000), c) := by (simp only [yRate, c11, c19, if_true, if_false, reduceIte, not_true_eq_false, not_false_eq_true, Bool.and_true, Bool.true_and, Bool.and_self, Bool.and_false, Bool.false_and, Bool.false_eq_true]) <;> rfl
      exact wk_mret' hx hb hr hlocks dX8_rate_24 hP hS (congrArg (fun z => some (Value.int z.1)) hq) (congrArg (fun z => WM G a z.2) hq)

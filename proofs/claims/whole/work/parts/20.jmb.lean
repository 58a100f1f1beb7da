theorem hdV_X8_notes : yX8_notes.cls = RX8 ∧ yX8_notes.cls ≠ "java/lang/invoke/MethodHandle" ∧ yX8_notes.cls ≠ "java/lang/invoke/VarHandle" ∧ (parseMethodDescriptor yX8_notes.desc).map (fun d => d.parameters.length) = some 0 := by decide +kernel
set_option maxHeartbeats 600000 in
set_option maxRecDepth 100000 in
theorem c_X8_notes (l : Launch) (G : GG) (a : Nat → Nat) (c : JX) (hc : OkJ c) (sz : Nat) : Met l yX8_notes wsX8_notes ({ frames := 0, cells := 0, slots := 0, locals := 0 }) (va_Pc [.ref (a 0)] (fun U => PreM G (WM G a c) sz U U.heap)) (Qm G.1 vwCl (none) (WM G a (yNote c)) (va_A (WM G a c) sz)) 0 0 (va_A (WM G a c) sz) := by
  refine Met.ofW (cc := cX8_notes) (maxL := 2) (ret := none) (by decide) rfl ?_
  intro p e s m args below meth cd s₁ BB hml hv
  obtain ⟨rfl, ⟨hP, hK, hN⟩, hD0, hsz⟩ := hv
  have hx := BB.exec
  have hb := BB.bytes
  have hr := BB.returns
  have hts := atoms_spec (ws := wsX8_notes) BB.pre
  have hown : s.vm.findClass RX8 = some m.cls := findClass_of_methodNamed BB.named
  have hlocks := BB.notSynchronized
  have hrc : 0 + 0 ≤ (headSpec wsX8_notes ({ frames := 0, cells := 0, slots := 0, locals := 0 })).room.cells := Nat.le_refl _
  have hrs : 0 + 0 ≤ (headSpec wsX8_notes ({ frames := 0, cells := 0, slots := 0, locals := 0 })).room.slots := Nat.le_refl _
  subst hsz
  have hD := hD0.self (sz := s.heap.size)
  generalize hAe : va_A (WM G a c) s.heap.size = A at hD ⊢
  have hA : ∀ q : Nat, s.heap.size ≤ q → A q := fun q h => by rw [← hAe]; exact Or.inr h
  have hS : va_S A s.heap s.heap [] := va_S.rf
  obtain ⟨hk7, ho1, ho5, hl200, hr6, hu10⟩ := id hc
  have hin8 : ∀ w ∈ u_ws RX8 TX8 24, w ∈ wsX8_notes := by decide +kernel
  have hf28 := hts (.fieldLink RX8 28 "RegaliaVotesModel" "s" "[I") (by decide +kernel)
  have hf41 := hts (.fieldLink RX8 41 "RegaliaVotesModel" "undos" "[I") (by decide +kernel)
  have hf109 := hts (.fieldLink RX8 109 "RegaliaVotesModel" "undoMany" "I") (by decide +kernel)
  refine wk_enter (n := 2) (Nat.le_of_ble_eq_true rfl) (fun ls hl => ?_)
  have hl : lv_has ls 2 [(0, .ref (a 0))] := hl
  refine lv_aload_n hx hb dX8_notes_0 rfl (lv_at hl 0 rfl) ?_
  refine va_get (D := G.1) (v := .int (nI (qUm c))) hx hb hts hin8 hown hK hP 0 (WM_0 G a c) rfl 20 (by decide) hf109 (fun _ h => h) rfl dX8_notes_1 ?_
  refine lv_bipush (v := 10) hx hb dX8_notes_4 (by decide) ?_
  refine wk_ne (x := (qUm c)) (y := 10) (tgt := 45) hx hb (by omega) (by omega) dX8_notes_6 (by decide) (fun c6 => ?_) (fun c6 => ?_)
  · refine lv_iconst (v := 0) hx hb dX8_notes_45 (by decide) ?_
    refine lv_istore_n (lv' := [(1, .int 0), (0, .ref (a 0))]) hx hb dX8_notes_46 rfl hl (by decide) rfl (fun ls hl => ?_)
    have hP : va_P G.1 vwCl (WM G a (mkJ (qTr c) (qTx c) (qTy c) (qNe c) (qTo c) (qPl c) (qVa c) (qFa c) (qN c) (qSo c) (qVo c) (qBi c) (qHo c) (qTd c) (qS c) (qW c) (qKe c) (qIk c) (puU (qUn c) (qS c) (qUm c) 0) (qUm c) (qRb c) (qRi c) (qRm c))) s.heap := by rw [puU_0]; exact hP
    have hD : va_D A (WM G a (mkJ (qTr c) (qTx c) (qTy c) (qNe c) (qTo c) (qPl c) (qVa c) (qFa c) (qN c) (qSo c) (qVo c) (qBi c) (qHo c) (qTd c) (qS c) (qW c) (qKe c) (qIk c) (puU (qUn c) (qS c) (qUm c) 0) (qUm c) (qRb c) (qRi c) (qRm c))) := by rw [puU_0]; exact hD
    refine wk_loopM (σ := Nat) (nL := 2) (fun xσ n => match xσ with | i => i + n = 19) (fun xσ => match xσ with | i => [(1, .int (nI i)), (0, .ref (a 0))]) (fun xσ => match xσ with | i => WM G a (mkJ (qTr c) (qTx c) (qTy c) (qNe c) (qTo c) (qPl c) (qVa c) (qFa c) (qN c) (qSo c) (qVo c) (qBi c) (qHo c) (qTd c) (qS c) (qW c) (qKe c) (qIk c) (puU (qUn c) (qS c) (qUm c) i) (qUm c) (qRb c) (qRi c) (qRm c))) 0 19 (by omega) hl hP hD hS ?_
    rintro n47 i ls H locs hI47 hl hP hD hS ih47
    have hl : lv_has ls 2 [(1, .int (nI i)), (0, .ref (a 0))] := hl
    have hP : va_P G.1 vwCl (WM G a (mkJ (qTr c) (qTx c) (qTy c) (qNe c) (qTo c) (qPl c) (qVa c) (qFa c) (qN c) (qSo c) (qVo c) (qBi c) (qHo c) (qTd c) (qS c) (qW c) (qKe c) (qIk c) (puU (qUn c) (qS c) (qUm c) i) (qUm c) (qRb c) (qRi c) (qRm c))) H := hP
    have hD : va_D A (WM G a (mkJ (qTr c) (qTx c) (qTy c) (qNe c) (qTo c) (qPl c) (qVa c) (qFa c) (qN c) (qSo c) (qVo c) (qBi c) (qHo c) (qTd c) (qS c) (qW c) (qKe c) (qIk c) (puU (qUn c) (qS c) (qUm c) i) (qUm c) (qRb c) (qRi c) (qRm c))) := hD
    refine lv_iload_n hx hb dX8_notes_47 rfl (lv_at hl 0 rfl) ?_
    refine lv_bipush (v := 19) hx hb dX8_notes_48 (by decide) ?_
    refine wk_ge (x := i) (y := 19) (tgt := 79) hx hb (by omega) (by omega) dX8_notes_50 (by decide) (fun c50 => ?_) (fun c50 => ?_)
    · obtain rfl : i = 19 := by omega
      refine lv_aload_n hx hb dX8_notes_79 rfl (lv_at hl 1 rfl) ?_
      refine lv_dup hx hb dX8_notes_80 rfl ?_
      refine va_get (D := G.1) (v := .int (nI (qUm c))) hx hb hts hin8 hown hK hP 0 (WM_0 G a (mkJ (qTr c) (qTx c) (qTy c) (qNe c) (qTo c) (qPl c) (qVa c) (qFa c) (qN c) (qSo c) (qVo c) (qBi c) (qHo c) (qTd c) (qS c) (qW c) (qKe c) (qIk c) (puU (qUn c) (qS c) (qUm c) 19) (qUm c) (qRb c) (qRi c) (qRm c))) rfl 20 (by decide) hf109 (fun _ h => h) rfl dX8_notes_81 ?_
      refine lv_iconst (v := 1) hx hb dX8_notes_84 (by decide) ?_
      refine wk_iadd (x := (qUm c)) (y := 1) hx hb dX8_notes_85 ?_
      refine va_put (D := G.1) (v := .int (nI ((qUm c) + 1))) (ty := .int) hx hb hts hin8 tyX8 tyX8_ok nmX8 hown hK hP hD hS 0 (WM_0 G a (mkJ (qTr c) (qTx c) (qTy c) (qNe c) (qTo c) (qPl c) (qVa c) (qFa c) (qN c) (qSo c) (qVo c) (qBi c) (qHo c) (qTd c) (qS c) (qW c) (qKe c) (qIk c) (puU (qUn c) (qS c) (qUm c) 19) (qUm c) (qRb c) (qRi c) (qRm c))) rfl 20 (by decide) hf109 (fun _ h => h) rfl (by decide +kernel) rfl rfl (Nat.le_of_ble_eq_true rfl) dX8_notes_86 (fun H locs hP hD hS => ?_)
      rw [WMk_p0_20] at hP hD
      replace hP : va_P G.1 vwCl (WM G a (mkJ (qTr c) (qTx c) (qTy c) (qNe c) (qTo c) (qPl c) (qVa c) (qFa c) (qN c) (qSo c) (qVo c) (qBi c) (qHo c) (qTd c) (qS c) (qW c) (qKe c) (qIk c) (puU (qUn c) (qS c) (qUm c) 19) ((qUm c) + 1) (qRb c) (qRi c) (qRm c))) H := hP
      replace hD : va_D A (WM G a (mkJ (qTr c) (qTx c) (qTy c) (qNe c) (qTo c) (qPl c) (qVa c) (qFa c) (qN c) (qSo c) (qVo c) (qBi c) (qHo c) (qTd c) (qS c) (qW c) (qKe c) (qIk c) (puU (qUn c) (qS c) (qUm c) 19) ((qUm c) + 1) (qRb c) (qRi c) (qRm c))) := hD
      exact wk_mvret' hx hb hr hlocks dX8_notes_89 hP hS (congrArg (WM G a) (show yNote c = mkJ (qTr c) (qTx c) (qTy c) (qNe c) (qTo c) (qPl c) (qVa c) (qFa c) (qN c) (qSo c) (qVo c) (qBi c) (qHo c) (qTd c) (qS c) (qW c) (qKe c) (qIk c) (puU (qUn c) (qS c) (qUm c) 19) ((qUm c) + 1) (qRb c) (qRi c) (qRm c) from by (simp only [yNote, c6, c50, if_true, if_false, reduceIte, not_true_eq_false, not_false_eq_true, Bool.and_true, Bool.true_and, Bool.and_self, Bool.and_false, Bool.false_and, Bool.false_eq_true]) <;> rfl))
    · refine lv_aload_n hx hb dX8_notes_53 rfl (lv_at hl 1 rfl) ?_
      refine va_get (D := G.1) (v := .ref (a 13)) hx hb hts hin8 hown hK hP 0 (WM_0 G a (mkJ (qTr c) (qTx c) (qTy c) (qNe c) (qTo c) (qPl c) (qVa c) (qFa c) (qN c) (qSo c) (qVo c) (qBi c) (qHo c) (qTd c) (qS c) (qW c) (qKe c) (qIk c) (puU (qUn c) (qS c) (qUm c) i) (qUm c) (qRb c) (qRi c) (qRm c))) rfl 19 (by decide) hf41 (fun _ h => h) rfl dX8_notes_54 ?_
      refine lv_bipush (v := 19) hx hb dX8_notes_57 (by decide) ?_
      refine lv_aload_n hx hb dX8_notes_59 rfl (lv_at hl 1 rfl) ?_
      refine va_get (D := G.1) (v := .int (nI (qUm c))) hx hb hts hin8 hown hK hP 0 (WM_0 G a (mkJ (qTr c) (qTx c) (qTy c) (qNe c) (qTo c) (qPl c) (qVa c) (qFa c) (qN c) (qSo c) (qVo c) (qBi c) (qHo c) (qTd c) (qS c) (qW c) (qKe c) (qIk c) (puU (qUn c) (qS c) (qUm c) i) (qUm c) (qRb c) (qRi c) (qRm c))) rfl 20 (by decide) hf109 (fun _ h => h) rfl dX8_notes_60 ?_
      refine wk_imul (x := 19) (y := (qUm c)) hx hb dX8_notes_63 ?_
      refine lv_iload_n hx hb dX8_notes_64 rfl (lv_at hl 0 rfl) ?_
      refine wk_iadd (x := (19 * (qUm c))) (y := i) hx hb dX8_notes_65 ?_
      refine lv_aload_n hx hb dX8_notes_66 rfl (lv_at hl 1 rfl) ?_
      refine va_get (D := G.1) (v := .ref (a 5)) hx hb hts hin8 hown hK hP 0 (WM_0 G a (mkJ (qTr c) (qTx c) (qTy c) (qNe c) (qTo c) (qPl c) (qVa c) (qFa c) (qN c) (qSo c) (qVo c) (qBi c) (qHo c) (qTd c) (qS c) (qW c) (qKe c) (qIk c) (puU (qUn c) (qS c) (qUm c) i) (qUm c) (qRb c) (qRi c) (qRm c))) rfl 15 (by decide) hf28 (fun _ h => h) rfl dX8_notes_67 ?_
      refine lv_iload_n hx hb dX8_notes_70 rfl (lv_at hl 0 rfl) ?_
      refine wk_iald (i := i) hx hb hK hP 5 1 (WM_5 G a (mkJ (qTr c) (qTx c) (qTy c) (qNe c) (qTo c) (qPl c) (qVa c) (qFa c) (qN c) (qSo c) (qVo c) (qBi c) (qHo c) (qTd c) (qS c) (qW c) (qKe c) (qIk c) (puU (qUn c) (qS c) (qUm c) i) (qUm c) (qRb c) (qRi c) (qRm c))) rfl (by omega) (Nat.le_of_ble_eq_true rfl) dX8_notes_71 ?_
      refine wk_iast (i := ((19 * (qUm c)) + i)) hx hb hK hP hD hS 13 1 (WM_13 G a (mkJ (qTr c) (qTx c) (qTy c) (qNe c) (qTo c) (qPl c) (qVa c) (qFa c) (qN c) (qSo c) (qVo c) (qBi c) (qHo c) (qTd c) (qS c) (qW c) (qKe c) (qIk c) (puU (qUn c) (qS c) (qUm c) i) (qUm c) (qRb c) (qRi c) (qRm c))) rfl (by omega) (Nat.le_of_ble_eq_true rfl) dX8_notes_72 (fun H locs hP hD hS => ?_)
      rw [WMk_p13] at hP hD
      replace hP : va_P G.1 vwCl (WM G a (mkJ (qTr c) (qTx c) (qTy c) (qNe c) (qTo c) (qPl c) (qVa c) (qFa c) (qN c) (qSo c) (qVo c) (qBi c) (qHo c) (qTd c) (qS c) (qW c) (qKe c) (qIk c) (upd (puU (qUn c) (qS c) (qUm c) i) ((19 * (qUm c)) + i) (qS c i)) (qUm c) (qRb c) (qRi c) (qRm c))) H := hP
      replace hD : va_D A (WM G a (mkJ (qTr c) (qTx c) (qTy c) (qNe c) (qTo c) (qPl c) (qVa c) (qFa c) (qN c) (qSo c) (qVo c) (qBi c) (qHo c) (qTd c) (qS c) (qW c) (qKe c) (qIk c) (upd (puU (qUn c) (qS c) (qUm c) i) ((19 * (qUm c)) + i) (qS c i)) (qUm c) (qRb c) (qRi c) (qRm c))) := hD
      refine lv_iinc (v := (nI (i + 1))) (lv' := [(1, .int (nI (i + 1))), (0, .ref (a 0))]) hx hb dX8_notes_73 hl (k := 0) rfl (wk_i1 i) (by decide) rfl (fun ls hl => ?_)
      refine lv_goto (tgt := 47) hx hb dX8_notes_76 (by decide) ?_
      rw [puU_s] at hP hD
      exact ih47 (i + 1) (n47 - 1) ls H _ (by omega) (by omega) (lv_sub hl [0, 1] rfl) hP hD hS
  · refine lv_iconst (v := 0) hx hb dX8_notes_9 (by decide) ?_
    refine lv_istore_n (lv' := [(1, .int 0), (0, .ref (a 0))]) hx hb dX8_notes_10 rfl hl (by decide) rfl (fun ls hl => ?_)
    have hP : va_P G.1 vwCl (WM G a (mkJ (qTr c) (qTx c) (qTy c) (qNe c) (qTo c) (qPl c) (qVa c) (qFa c) (qN c) (qSo c) (qVo c) (qBi c) (qHo c) (qTd c) (qS c) (qW c) (qKe c) (qIk c) (shU (qUn c) 0) (qUm c) (qRb c) (qRi c) (qRm c))) s.heap := by rw [shU_0]; exact hP
    have hD : va_D A (WM G a (mkJ (qTr c) (qTx c) (qTy c) (qNe c) (qTo c) (qPl c) (qVa c) (qFa c) (qN c) (qSo c) (qVo c) (qBi c) (qHo c) (qTd c) (qS c) (qW c) (qKe c) (qIk c) (shU (qUn c) 0) (qUm c) (qRb c) (qRi c) (qRm c))) := by rw [shU_0]; exact hD
    refine wk_loopM (σ := Nat) (nL := 2) (fun xσ n => match xσ with | i => i + n = 171) (fun xσ => match xσ with | i => [(1, .int (nI i)), (0, .ref (a 0))]) (fun xσ => match xσ with | i => WM G a (mkJ (qTr c) (qTx c) (qTy c) (qNe c) (qTo c) (qPl c) (qVa c) (qFa c) (qN c) (qSo c) (qVo c) (qBi c) (qHo c) (qTd c) (qS c) (qW c) (qKe c) (qIk c) (shU (qUn c) i) (qUm c) (qRb c) (qRi c) (qRm c))) 0 171 (by omega) hl hP hD hS ?_
    rintro n11 i ls H locs hI11 hl hP hD hS ih11
    have hl : lv_has ls 2 [(1, .int (nI i)), (0, .ref (a 0))] := hl
    have hP : va_P G.1 vwCl (WM G a (mkJ (qTr c) (qTx c) (qTy c) (qNe c) (qTo c) (qPl c) (qVa c) (qFa c) (qN c) (qSo c) (qVo c) (qBi c) (qHo c) (qTd c) (qS c) (qW c) (qKe c) (qIk c) (shU (qUn c) i) (qUm c) (qRb c) (qRi c) (qRm c))) H := hP
    have hD : va_D A (WM G a (mkJ (qTr c) (qTx c) (qTy c) (qNe c) (qTo c) (qPl c) (qVa c) (qFa c) (qN c) (qSo c) (qVo c) (qBi c) (qHo c) (qTd c) (qS c) (qW c) (qKe c) (qIk c) (shU (qUn c) i) (qUm c) (qRb c) (qRi c) (qRm c))) := hD
    refine lv_iload_n hx hb dX8_notes_11 rfl (lv_at hl 0 rfl) ?_
    refine lv_sipush (v := 171) hx hb dX8_notes_12 (by decide) ?_
    refine wk_ge (x := i) (y := 171) (tgt := 39) hx hb (by omega) (by omega) dX8_notes_15 (by decide) (fun c15 => ?_) (fun c15 => ?_)
    · obtain rfl : i = 171 := by omega
      refine lv_aload_n hx hb dX8_notes_39 rfl (lv_at hl 1 rfl) ?_
      refine lv_bipush (v := 9) hx hb dX8_notes_40 (by decide) ?_
      refine va_put (D := G.1) (v := .int (nI 9)) (ty := .int) hx hb hts hin8 tyX8 tyX8_ok nmX8 hown hK hP hD hS 0 (WM_0 G a (mkJ (qTr c) (qTx c) (qTy c) (qNe c) (qTo c) (qPl c) (qVa c) (qFa c) (qN c) (qSo c) (qVo c) (qBi c) (qHo c) (qTd c) (qS c) (qW c) (qKe c) (qIk c) (shU (qUn c) 171) (qUm c) (qRb c) (qRi c) (qRm c))) rfl 20 (by decide) hf109 (fun _ h => h) rfl (by decide +kernel) rfl rfl (Nat.le_of_ble_eq_true rfl) dX8_notes_42 (fun H locs hP hD hS => ?_)
      rw [WMk_p0_20] at hP hD
      replace hP : va_P G.1 vwCl (WM G a (mkJ (qTr c) (qTx c) (qTy c) (qNe c) (qTo c) (qPl c) (qVa c) (qFa c) (qN c) (qSo c) (qVo c) (qBi c) (qHo c) (qTd c) (qS c) (qW c) (qKe c) (qIk c) (shU (qUn c) 171) 9 (qRb c) (qRi c) (qRm c))) H := hP
      replace hD : va_D A (WM G a (mkJ (qTr c) (qTx c) (qTy c) (qNe c) (qTo c) (qPl c) (qVa c) (qFa c) (qN c) (qSo c) (qVo c) (qBi c) (qHo c) (qTd c) (qS c) (qW c) (qKe c) (qIk c) (shU (qUn c) 171) 9 (qRb c) (qRi c) (qRm c))) := hD
      refine lv_iconst (v := 0) hx hb dX8_notes_45 (by decide) ?_
      refine lv_istore_n (lv' := [(1, .int 0), (0, .ref (a 0))]) hx hb dX8_notes_46 rfl hl (by decide) rfl (fun ls hl => ?_)
      have hP : va_P G.1 vwCl (WM G a (mkJ (qTr c) (qTx c) (qTy c) (qNe c) (qTo c) (qPl c) (qVa c) (qFa c) (qN c) (qSo c) (qVo c) (qBi c) (qHo c) (qTd c) (qS c) (qW c) (qKe c) (qIk c) (puU (shU (qUn c) 171) (qS c) 9 0) 9 (qRb c) (qRi c) (qRm c))) H := by rw [puU_0]; exact hP
      have hD : va_D A (WM G a (mkJ (qTr c) (qTx c) (qTy c) (qNe c) (qTo c) (qPl c) (qVa c) (qFa c) (qN c) (qSo c) (qVo c) (qBi c) (qHo c) (qTd c) (qS c) (qW c) (qKe c) (qIk c) (puU (shU (qUn c) 171) (qS c) 9 0) 9 (qRb c) (qRi c) (qRm c))) := by rw [puU_0]; exact hD
      refine wk_loopM (σ := Nat) (nL := 2) (fun xσ n => match xσ with | i => i + n = 19) (fun xσ => match xσ with | i => [(1, .int (nI i)), (0, .ref (a 0))]) (fun xσ => match xσ with | i => WM G a (mkJ (qTr c) (qTx c) (qTy c) (qNe c) (qTo c) (qPl c) (qVa c) (qFa c) (qN c) (qSo c) (qVo c) (qBi c) (qHo c) (qTd c) (qS c) (qW c) (qKe c) (qIk c) (puU (shU (qUn c) 171) (qS c) 9 i) 9 (qRb c) (qRi c) (qRm c))) 0 19 (by omega) hl hP hD hS ?_
      rintro n47 i ls H locs hI47 hl hP hD hS ih47
      have hl : lv_has ls 2 [(1, .int (nI i)), (0, .ref (a 0))] := hl
      have hP : va_P G.1 vwCl (WM G a (mkJ (qTr c) (qTx c) (qTy c) (qNe c) (qTo c) (qPl c) (qVa c) (qFa c) (qN c) (qSo c) (qVo c) (qBi c) (qHo c) (qTd c) (qS c) (qW c) (qKe c) (qIk c) (puU (shU (qUn c) 171) (qS c) 9 i) 9 (qRb c) (qRi c) (qRm c))) H := hP
      have hD : va_D A (WM G a (mkJ (qTr c) (qTx c) (qTy c) (qNe c) (qTo c) (qPl c) (qVa c) (qFa c) (qN c) (qSo c) (qVo c) (qBi c) (qHo c) (qTd c) (qS c) (qW c) (qKe c) (qIk c) (puU (shU (qUn c) 171) (qS c) 9 i) 9 (qRb c) (qRi c) (qRm c))) := hD
      refine lv_iload_n hx hb dX8_notes_47 rfl (lv_at hl 0 rfl) ?_
      refine lv_bipush (v := 19) hx hb dX8_notes_48 (by decide) ?_
      refine wk_ge (x := i) (y := 19) (tgt := 79) hx hb (by omega) (by omega) dX8_notes_50 (by decide) (fun c50 => ?_) (fun c50 => ?_)
      · obtain rfl : i = 19 := by omega
        refine lv_aload_n hx hb dX8_notes_79 rfl (lv_at hl 1 rfl) ?_
        refine lv_dup hx hb dX8_notes_80 rfl ?_
        refine va_get (D := G.1) (v := .int (nI 9)) hx hb hts hin8 hown hK hP 0 (WM_0 G a (mkJ (qTr c) (qTx c) (qTy c) (qNe c) (qTo c) (qPl c) (qVa c) (qFa c) (qN c) (qSo c) (qVo c) (qBi c) (qHo c) (qTd c) (qS c) (qW c) (qKe c) (qIk c) (puU (shU (qUn c) 171) (qS c) 9 19) 9 (qRb c) (qRi c) (qRm c))) rfl 20 (by decide) hf109 (fun _ h => h) rfl dX8_notes_81 ?_
        refine lv_iconst (v := 1) hx hb dX8_notes_84 (by decide) ?_
        refine wk_iadd (x := 9) (y := 1) hx hb dX8_notes_85 ?_
        refine va_put (D := G.1) (v := .int (nI (9 + 1))) (ty := .int) hx hb hts hin8 tyX8 tyX8_ok nmX8 hown hK hP hD hS 0 (WM_0 G a (mkJ (qTr c) (qTx c) (qTy c) (qNe c) (qTo c) (qPl c) (qVa c) (qFa c) (qN c) (qSo c) (qVo c) (qBi c) (qHo c) (qTd c) (qS c) (qW c) (qKe c) (qIk c) (puU (shU (qUn c) 171) (qS c) 9 19) 9 (qRb c) (qRi c) (qRm c))) rfl 20 (by decide) hf109 (fun _ h => h) rfl (by decide +kernel) rfl rfl (Nat.le_of_ble_eq_true rfl) dX8_notes_86 (fun H locs hP hD hS => ?_)
        rw [WMk_p0_20] at hP hD
        replace hP : va_P G.1 vwCl (WM G a (mkJ (qTr c) (qTx c) (qTy c) (qNe c) (qTo c) (qPl c) (qVa c) (qFa c) (qN c) (qSo c) (qVo c) (qBi c) (qHo c) (qTd c) (qS c) (qW c) (qKe c) (qIk c) (puU (shU (qUn c) 171) (qS c) 9 19) (9 + 1) (qRb c) (qRi c) (qRm c))) H := hP
        replace hD : va_D A (WM G a (mkJ (qTr c) (qTx c) (qTy c) (qNe c) (qTo c) (qPl c) (qVa c) (qFa c) (qN c) (qSo c) (qVo c) (qBi c) (qHo c) (qTd c) (qS c) (qW c) (qKe c) (qIk c) (puU (shU (qUn c) 171) (qS c) 9 19) (9 + 1) (qRb c) (qRi c) (qRm c))) := hD
        exact wk_mvret' hx hb hr hlocks dX8_notes_89 hP hS (congrArg (WM G a) (show yNote c = mkJ (qTr c) (qTx c) (qTy c) (qNe c) (qTo c) (qPl c) (qVa c) (qFa c) (qN c) (qSo c) (qVo c) (qBi c) (qHo c) (qTd c) (qS c) (qW c) (qKe c) (qIk c) (puU (shU (qUn c) 171) (qS c) 9 19) (9 + 1) (qRb c) (qRi c) (qRm c) from by (simp only [yNote, c6, c15, c50, if_true, if_false, reduceIte, not_true_eq_false, not_false_eq_true, Bool.and_true, Bool.true_and, Bool.and_self, Bool.and_false, Bool.false_and, Bool.false_eq_true]) <;> rfl))
      · refine lv_aload_n hx hb dX8_notes_53 rfl (lv_at hl 1 rfl) ?_
        refine va_get (D := G.1) (v := .ref (a 13)) hx hb hts hin8 hown hK hP 0 (WM_0 G a (mkJ (qTr c) (qTx c) (qTy c) (qNe c) (qTo c) (qPl c) (qVa c) (qFa c) (qN c) (qSo c) (qVo c) (qBi c) (qHo c) (qTd c) (qS c) (qW c) (qKe c) (qIk c) (puU (shU (qUn c) 171) (qS c) 9 i) 9 (qRb c) (qRi c) (qRm c))) rfl 19 (by decide) hf41 (fun _ h => h) rfl dX8_notes_54 ?_
        refine lv_bipush (v := 19) hx hb dX8_notes_57 (by decide) ?_
        refine lv_aload_n hx hb dX8_notes_59 rfl (lv_at hl 1 rfl) ?_
        refine va_get (D := G.1) (v := .int (nI 9)) hx hb hts hin8 hown hK hP 0 (WM_0 G a (mkJ (qTr c) (qTx c) (qTy c) (qNe c) (qTo c) (qPl c) (qVa c) (qFa c) (qN c) (qSo c) (qVo c) (qBi c) (qHo c) (qTd c) (qS c) (qW c) (qKe c) (qIk c) (puU (shU (qUn c) 171) (qS c) 9 i) 9 (qRb c) (qRi c) (qRm c))) rfl 20 (by decide) hf109 (fun _ h => h) rfl dX8_notes_60 ?_
        refine wk_imul (x := 19) (y := 9) hx hb dX8_notes_63 ?_
        refine lv_iload_n hx hb dX8_notes_64 rfl (lv_at hl 0 rfl) ?_
        refine wk_iadd (x := (19 * 9)) (y := i) hx hb dX8_notes_65 ?_
        refine lv_aload_n hx hb dX8_notes_66 rfl (lv_at hl 1 rfl) ?_
        refine va_get (D := G.1) (v := .ref (a 5)) hx hb hts hin8 hown hK hP 0 (WM_0 G a (mkJ (qTr c) (qTx c) (qTy c) (qNe c) (qTo c) (qPl c) (qVa c) (qFa c) (qN c) (qSo c) (qVo c) (qBi c) (qHo c) (qTd c) (qS c) (qW c) (qKe c) (qIk c) (puU (shU (qUn c) 171) (qS c) 9 i) 9 (qRb c) (qRi c) (qRm c))) rfl 15 (by decide) hf28 (fun _ h => h) rfl dX8_notes_67 ?_
        refine lv_iload_n hx hb dX8_notes_70 rfl (lv_at hl 0 rfl) ?_
        refine wk_iald (i := i) hx hb hK hP 5 1 (WM_5 G a (mkJ (qTr c) (qTx c) (qTy c) (qNe c) (qTo c) (qPl c) (qVa c) (qFa c) (qN c) (qSo c) (qVo c) (qBi c) (qHo c) (qTd c) (qS c) (qW c) (qKe c) (qIk c) (puU (shU (qUn c) 171) (qS c) 9 i) 9 (qRb c) (qRi c) (qRm c))) rfl (by omega) (Nat.le_of_ble_eq_true rfl) dX8_notes_71 ?_
        refine wk_iast (i := ((19 * 9) + i)) hx hb hK hP hD hS 13 1 (WM_13 G a (mkJ (qTr c) (qTx c) (qTy c) (qNe c) (qTo c) (qPl c) (qVa c) (qFa c) (qN c) (qSo c) (qVo c) (qBi c) (qHo c) (qTd c) (qS c) (qW c) (qKe c) (qIk c) (puU (shU (qUn c) 171) (qS c) 9 i) 9 (qRb c) (qRi c) (qRm c))) rfl (by omega) (Nat.le_of_ble_eq_true rfl) dX8_notes_72 (fun H locs hP hD hS => ?_)
        rw [WMk_p13] at hP hD
        replace hP : va_P G.1 vwCl (WM G a (mkJ (qTr c) (qTx c) (qTy c) (qNe c) (qTo c) (qPl c) (qVa c) (qFa c) (qN c) (qSo c) (qVo c) (qBi c) (qHo c) (qTd c) (qS c) (qW c) (qKe c) (qIk c) (upd (puU (shU (qUn c) 171) (qS c) 9 i) ((19 * 9) + i) (qS c i)) 9 (qRb c) (qRi c) (qRm c))) H := hP
        replace hD : va_D A (WM G a (mkJ (qTr c) (qTx c) (qTy c) (qNe c) (qTo c) (qPl c) (qVa c) (qFa c) (qN c) (qSo c) (qVo c) (qBi c) (qHo c) (qTd c) (qS c) (qW c) (qKe c) (qIk c) (upd (puU (shU (qUn c) 171) (qS c) 9 i) ((19 * 9) + i) (qS c i)) 9 (qRb c) (qRi c) (qRm c))) := hD
        refine lv_iinc (v := (nI (i + 1))) (lv' := [(1, .int (nI (i + 1))), (0, .ref (a 0))]) hx hb dX8_notes_73 hl (k := 0) rfl (wk_i1 i) (by decide) rfl (fun ls hl => ?_)
        refine lv_goto (tgt := 47) hx hb dX8_notes_76 (by decide) ?_
        rw [puU_s] at hP hD
        exact ih47 (i + 1) (n47 - 1) ls H _ (by omega) (by omega) (lv_sub hl [0, 1] rfl) hP hD hS
    · refine lv_aload_n hx hb dX8_notes_18 rfl (lv_at hl 1 rfl) ?_
      refine va_get (D := G.1) (v := .ref (a 13)) hx hb hts hin8 hown hK hP 0 (WM_0 G a (mkJ (qTr c) (qTx c) (qTy c) (qNe c) (qTo c) (qPl c) (qVa c) (qFa c) (qN c) (qSo c) (qVo c) (qBi c) (qHo c) (qTd c) (qS c) (qW c) (qKe c) (qIk c) (shU (qUn c) i) (qUm c) (qRb c) (qRi c) (qRm c))) rfl 19 (by decide) hf41 (fun _ h => h) rfl dX8_notes_19 ?_
      refine lv_iload_n hx hb dX8_notes_22 rfl (lv_at hl 0 rfl) ?_
      refine lv_aload_n hx hb dX8_notes_23 rfl (lv_at hl 1 rfl) ?_
      refine va_get (D := G.1) (v := .ref (a 13)) hx hb hts hin8 hown hK hP 0 (WM_0 G a (mkJ (qTr c) (qTx c) (qTy c) (qNe c) (qTo c) (qPl c) (qVa c) (qFa c) (qN c) (qSo c) (qVo c) (qBi c) (qHo c) (qTd c) (qS c) (qW c) (qKe c) (qIk c) (shU (qUn c) i) (qUm c) (qRb c) (qRi c) (qRm c))) rfl 19 (by decide) hf41 (fun _ h => h) rfl dX8_notes_24 ?_
      refine lv_iload_n hx hb dX8_notes_27 rfl (lv_at hl 0 rfl) ?_
      refine lv_bipush (v := 19) hx hb dX8_notes_28 (by decide) ?_
      refine wk_iadd (x := i) (y := 19) hx hb dX8_notes_30 ?_
      refine wk_iald (i := (i + 19)) hx hb hK hP 13 1 (WM_13 G a (mkJ (qTr c) (qTx c) (qTy c) (qNe c) (qTo c) (qPl c) (qVa c) (qFa c) (qN c) (qSo c) (qVo c) (qBi c) (qHo c) (qTd c) (qS c) (qW c) (qKe c) (qIk c) (shU (qUn c) i) (qUm c) (qRb c) (qRi c) (qRm c))) rfl (by omega) (Nat.le_of_ble_eq_true rfl) dX8_notes_31 ?_
      refine wk_iast (i := i) hx hb hK hP hD hS 13 1 (WM_13 G a (mkJ (qTr c) (qTx c) (qTy c) (qNe c) (qTo c) (qPl c) (qVa c) (qFa c) (qN c) (qSo c) (qVo c) (qBi c) (qHo c) (qTd c) (qS c) (qW c) (qKe c) (qIk c) (shU (qUn c) i) (qUm c) (qRb c) (qRi c) (qRm c))) rfl (by omega) (Nat.le_of_ble_eq_true rfl) dX8_notes_32 (fun H locs hP hD hS => ?_)
      rw [WMk_p13] at hP hD
      replace hP : va_P G.1 vwCl (WM G a (mkJ (qTr c) (qTx c) (qTy c) (qNe c) (qTo c) (qPl c) (qVa c) (qFa c) (qN c) (qSo c) (qVo c) (qBi c) (qHo c) (qTd c) (qS c) (qW c) (qKe c) (qIk c) (upd (shU (qUn c) i) i (shU (qUn c) i (i + 19))) (qUm c) (qRb c) (qRi c) (qRm c))) H := hP
      replace hD : va_D A (WM G a (mkJ (qTr c) (qTx c) (qTy c) (qNe c) (qTo c) (qPl c) (qVa c) (qFa c) (qN c) (qSo c) (qVo c) (qBi c) (qHo c) (qTd c) (qS c) (qW c) (qKe c) (qIk c) (upd (shU (qUn c) i) i (shU (qUn c) i (i + 19))) (qUm c) (qRb c) (qRi c) (qRm c))) := hD
      refine lv_iinc (v := (nI (i + 1))) (lv' := [(1, .int (nI (i + 1))), (0, .ref (a 0))]) hx hb dX8_notes_33 hl (k := 0) rfl (wk_i1 i) (by decide) rfl (fun ls hl => ?_)
      refine lv_goto (tgt := 11) hx hb dX8_notes_36 (by decide) ?_
      rw [shU_s] at hP hD
      exact ih11 (i + 1) (n11 - 1) ls H _ (by omega) (by omega) (lv_sub hl [0, 1] rfl) hP hD hS
theorem hdV_X8_undo : yX8_undo.cls = RX8 ∧ yX8_undo.cls ≠ "java/lang/invoke/MethodHandle" ∧ yX8_undo.cls ≠ "java/lang/invoke/VarHandle" ∧ (parseMethodDescriptor yX8_undo.desc).map (fun d => d.parameters.length) = some 0 := by decide +kernel
set_option maxHeartbeats 600000 in
set_option maxRecDepth 100000 in
theorem c_X8_undo (l : Launch) (G : GG) (a : Nat → Nat) (c : JX) (hc : OkJ c) (sz : Nat) : Met l yX8_undo wsX8_undo ({ frames := 0, cells := 0, slots := 0, locals := 0 }) (va_Pc [.ref (a 0)] (fun U => PreM G (WM G a c) sz U U.heap)) (Qm G.1 vwCl (some (.int (yUndo c).1)) (WM G a ((yUndo c).2)) (va_A (WM G a c) sz)) 0 0 (va_A (WM G a c) sz) := by
  refine Met.ofW (cc := cX8_undo) (maxL := 2) (ret := (some .int)) (by decide) rfl ?_
  intro p e s m args below meth cd s₁ BB hml hv
  obtain ⟨rfl, ⟨hP, hK, hN⟩, hD0, hsz⟩ := hv
  have hx := BB.exec
  have hb := BB.bytes
  have hr := BB.returns
  have hts := atoms_spec (ws := wsX8_undo) BB.pre
  have hown : s.vm.findClass RX8 = some m.cls := findClass_of_methodNamed BB.named
  have hlocks := BB.notSynchronized
  have hrc : 0 + 0 ≤ (headSpec wsX8_undo ({ frames := 0, cells := 0, slots := 0, locals := 0 })).room.cells := Nat.le_refl _
  have hrs : 0 + 0 ≤ (headSpec wsX8_undo ({ frames := 0, cells := 0, slots := 0, locals := 0 })).room.slots := Nat.le_refl _
  subst hsz
  have hD := hD0.self (sz := s.heap.size)
  generalize hAe : va_A (WM G a c) s.heap.size = A at hD ⊢
  have hA : ∀ q : Nat, s.heap.size ≤ q → A q := fun q h => by rw [← hAe]; exact Or.inr h
  have hS : va_S A s.heap s.heap [] := va_S.rf
  obtain ⟨hk7, ho1, ho5, hl200, hr6, hu10⟩ := id hc
  have hin8 : ∀ w ∈ u_ws RX8 TX8 24, w ∈ wsX8_undo := by decide +kernel
  have hf28 := hts (.fieldLink RX8 28 "RegaliaVotesModel" "s" "[I") (by decide +kernel)
  have hf41 := hts (.fieldLink RX8 41 "RegaliaVotesModel" "undos" "[I") (by decide +kernel)
  have hf50 := hts (.fieldLink RX8 50 "RegaliaVotesModel" "thrown" "I") (by decide +kernel)
  have hf109 := hts (.fieldLink RX8 109 "RegaliaVotesModel" "undoMany" "I") (by decide +kernel)
  refine wk_enter (n := 2) (Nat.le_of_ble_eq_true rfl) (fun ls hl => ?_)
  have hl : lv_has ls 2 [(0, .ref (a 0))] := hl
  refine lv_aload_n hx hb dX8_undo_0 rfl (lv_at hl 0 rfl) ?_
  refine lv_iconst (v := 0) hx hb dX8_undo_1 (by decide) ?_
  refine va_put (D := G.1) (v := .int 0) (ty := .int) hx hb hts hin8 tyX8 tyX8_ok nmX8 hown hK hP hD hS 0 (WM_0 G a c) rfl 0 (by decide) hf50 (fun _ h => h) rfl (by decide +kernel) rfl rfl (Nat.le_of_ble_eq_true rfl) dX8_undo_2 (fun H locs hP hD hS => ?_)
  rw [WM_p0_0] at hP hD
  refine lv_aload_n hx hb dX8_undo_5 rfl (lv_at hl 0 rfl) ?_
  refine va_get (D := G.1) (v := .int (nI (qUm c))) hx hb hts hin8 hown hK hP 0 (WM_0 G a c) rfl 20 (by decide) hf109 (fun _ h => h) rfl dX8_undo_6 ?_
  refine lv_if_ne (tgt := 15) hx hb dX8_undo_9 (by decide) (fun c9 => ?_) (fun c9 => ?_)
  · have c9 := nI_nz c9
    refine lv_aload_n hx hb dX8_undo_15 rfl (lv_at hl 0 rfl) ?_
    refine lv_dup hx hb dX8_undo_16 rfl ?_
    refine va_get (D := G.1) (v := .int (nI (qUm c))) hx hb hts hin8 hown hK hP 0 (WM_0 G a c) rfl 20 (by decide) hf109 (fun _ h => h) rfl dX8_undo_17 ?_
    refine lv_iconst (v := 1) hx hb dX8_undo_20 (by decide) ?_
    refine wk_isub (x := (qUm c)) (y := 1) hx hb (by omega) dX8_undo_21 ?_
    refine va_put (D := G.1) (v := .int (nI ((qUm c) - 1))) (ty := .int) hx hb hts hin8 tyX8 tyX8_ok nmX8 hown hK hP hD hS 0 (WM_0 G a c) rfl 20 (by decide) hf109 (fun _ h => h) rfl (by decide +kernel) rfl rfl (Nat.le_of_ble_eq_true rfl) dX8_undo_22 (fun H locs hP hD hS => ?_)
    rw [WMc_p0_20] at hP hD
    replace hP : va_P G.1 vwCl (WM G a (mkJ (qTr c) (qTx c) (qTy c) (qNe c) (qTo c) (qPl c) (qVa c) (qFa c) (qN c) (qSo c) (qVo c) (qBi c) (qHo c) (qTd c) (qS c) (qW c) (qKe c) (qIk c) (qUn c) ((qUm c) - 1) (qRb c) (qRi c) (qRm c))) H := hP
    replace hD : va_D A (WM G a (mkJ (qTr c) (qTx c) (qTy c) (qNe c) (qTo c) (qPl c) (qVa c) (qFa c) (qN c) (qSo c) (qVo c) (qBi c) (qHo c) (qTd c) (qS c) (qW c) (qKe c) (qIk c) (qUn c) ((qUm c) - 1) (qRb c) (qRi c) (qRm c))) := hD
    refine lv_iconst (v := 0) hx hb dX8_undo_25 (by decide) ?_
    refine lv_istore_n (lv' := [(1, .int 0), (0, .ref (a 0))]) hx hb dX8_undo_26 rfl hl (by decide) rfl (fun ls hl => ?_)
    have hP : va_P G.1 vwCl (WM G a (mkJ (qTr c) (qTx c) (qTy c) (qNe c) (qTo c) (qPl c) (qVa c) (qFa c) (qN c) (qSo c) (qVo c) (qBi c) (qHo c) (qTd c) (taU (qUn c) (qUm c - 1) (qS c) 0) (qW c) (qKe c) (qIk c) (qUn c) (qUm c - 1) (qRb c) (qRi c) (qRm c))) H := by rw [taU_0]; exact hP
    have hD : va_D A (WM G a (mkJ (qTr c) (qTx c) (qTy c) (qNe c) (qTo c) (qPl c) (qVa c) (qFa c) (qN c) (qSo c) (qVo c) (qBi c) (qHo c) (qTd c) (taU (qUn c) (qUm c - 1) (qS c) 0) (qW c) (qKe c) (qIk c) (qUn c) (qUm c - 1) (qRb c) (qRi c) (qRm c))) := by rw [taU_0]; exact hD
    refine wk_loopM (σ := Nat) (nL := 2) (fun xσ n => match xσ with | i => i + n = 19) (fun xσ => match xσ with | i => [(1, .int (nI i)), (0, .ref (a 0))]) (fun xσ => match xσ with | i => WM G a (mkJ (qTr c) (qTx c) (qTy c) (qNe c) (qTo c) (qPl c) (qVa c) (qFa c) (qN c) (qSo c) (qVo c) (qBi c) (qHo c) (qTd c) (taU (qUn c) (qUm c - 1) (qS c) i) (qW c) (qKe c) (qIk c) (qUn c) (qUm c - 1) (qRb c) (qRi c) (qRm c))) 0 19 (by omega) hl hP hD hS ?_
    rintro n27 i ls H locs hI27 hl hP hD hS ih27
    have hl : lv_has ls 2 [(1, .int (nI i)), (0, .ref (a 0))] := hl
    have hP : va_P G.1 vwCl (WM G a (mkJ (qTr c) (qTx c) (qTy c) (qNe c) (qTo c) (qPl c) (qVa c) (qFa c) (qN c) (qSo c) (qVo c) (qBi c) (qHo c) (qTd c) (taU (qUn c) (qUm c - 1) (qS c) i) (qW c) (qKe c) (qIk c) (qUn c) (qUm c - 1) (qRb c) (qRi c) (qRm c))) H := hP
    have hD : va_D A (WM G a (mkJ (qTr c) (qTx c) (qTy c) (qNe c) (qTo c) (qPl c) (qVa c) (qFa c) (qN c) (qSo c) (qVo c) (qBi c) (qHo c) (qTd c) (taU (qUn c) (qUm c - 1) (qS c) i) (qW c) (qKe c) (qIk c) (qUn c) (qUm c - 1) (qRb c) (qRi c) (qRm c))) := hD
    refine lv_iload_n hx hb dX8_undo_27 rfl (lv_at hl 0 rfl) ?_
    refine lv_bipush (v := 19) hx hb dX8_undo_28 (by decide) ?_
    refine wk_ge (x := i) (y := 19) (tgt := 59) hx hb (by omega) (by omega) dX8_undo_30 (by decide) (fun c30 => ?_) (fun c30 => ?_)
    · obtain rfl : i = 19 := by omega
      refine lv_aload_n hx hb dX8_undo_59 rfl (lv_at hl 1 rfl) ?_
      refine va_get (D := G.1) (v := .int (nI (qUm c - 1))) hx hb hts hin8 hown hK hP 0 (WM_0 G a (mkJ (qTr c) (qTx c) (qTy c) (qNe c) (qTo c) (qPl c) (qVa c) (qFa c) (qN c) (qSo c) (qVo c) (qBi c) (qHo c) (qTd c) (taU (qUn c) (qUm c - 1) (qS c) 19) (qW c) (qKe c) (qIk c) (qUn c) (qUm c - 1) (qRb c) (qRi c) (qRm c))) rfl 20 (by decide) hf109 (fun _ h => h) rfl dX8_undo_60 ?_
      have hq : yUndo c = ((nI (qUm c - 1)), mkJ (qTr c) (qTx c) (qTy c) (qNe c) (qTo c) (qPl c) (qVa c) (qFa c) (qN c) (qSo c) (qVo c) (qBi c) (qHo c) (qTd c) (taU (qUn c) (qUm c - 1) (qS c) 19) (qW c) (qKe c) (qIk c) (qUn c) (qUm c - 1) (qRb c) (qRi c) (qRm c)) := by (simp only [yUndo, show ¬ qUm c = 0 by omega, if_false]) <;> rfl
      exact wk_mret' hx hb hr hlocks dX8_undo_63 hP hS (congrArg (fun z => some (Value.int z.1)) hq) (congrArg (fun z => WM G a z.2) hq)
    · refine lv_aload_n hx hb dX8_undo_33 rfl (lv_at hl 1 rfl) ?_
      refine va_get (D := G.1) (v := .ref (a 5)) hx hb hts hin8 hown hK hP 0 (WM_0 G a (mkJ (qTr c) (qTx c) (qTy c) (qNe c) (qTo c) (qPl c) (qVa c) (qFa c) (qN c) (qSo c) (qVo c) (qBi c) (qHo c) (qTd c) (taU (qUn c) (qUm c - 1) (qS c) i) (qW c) (qKe c) (qIk c) (qUn c) (qUm c - 1) (qRb c) (qRi c) (qRm c))) rfl 15 (by decide) hf28 (fun _ h => h) rfl dX8_undo_34 ?_
      refine lv_iload_n hx hb dX8_undo_37 rfl (lv_at hl 0 rfl) ?_
      refine lv_aload_n hx hb dX8_undo_38 rfl (lv_at hl 1 rfl) ?_
      refine va_get (D := G.1) (v := .ref (a 13)) hx hb hts hin8 hown hK hP 0 (WM_0 G a (mkJ (qTr c) (qTx c) (qTy c) (qNe c) (qTo c) (qPl c) (qVa c) (qFa c) (qN c) (qSo c) (qVo c) (qBi c) (qHo c) (qTd c) (taU (qUn c) (qUm c - 1) (qS c) i) (qW c) (qKe c) (qIk c) (qUn c) (qUm c - 1) (qRb c) (qRi c) (qRm c))) rfl 19 (by decide) hf41 (fun _ h => h) rfl dX8_undo_39 ?_
      refine lv_bipush (v := 19) hx hb dX8_undo_42 (by decide) ?_
      refine lv_aload_n hx hb dX8_undo_44 rfl (lv_at hl 1 rfl) ?_
      refine va_get (D := G.1) (v := .int (nI (qUm c - 1))) hx hb hts hin8 hown hK hP 0 (WM_0 G a (mkJ (qTr c) (qTx c) (qTy c) (qNe c) (qTo c) (qPl c) (qVa c) (qFa c) (qN c) (qSo c) (qVo c) (qBi c) (qHo c) (qTd c) (taU (qUn c) (qUm c - 1) (qS c) i) (qW c) (qKe c) (qIk c) (qUn c) (qUm c - 1) (qRb c) (qRi c) (qRm c))) rfl 20 (by decide) hf109 (fun _ h => h) rfl dX8_undo_45 ?_
      refine wk_imul (x := 19) (y := (qUm c - 1)) hx hb dX8_undo_48 ?_
      refine lv_iload_n hx hb dX8_undo_49 rfl (lv_at hl 0 rfl) ?_
      refine wk_iadd (x := (19 * (qUm c - 1))) (y := i) hx hb dX8_undo_50 ?_
      refine wk_iald (i := ((19 * (qUm c - 1)) + i)) hx hb hK hP 13 1 (WM_13 G a (mkJ (qTr c) (qTx c) (qTy c) (qNe c) (qTo c) (qPl c) (qVa c) (qFa c) (qN c) (qSo c) (qVo c) (qBi c) (qHo c) (qTd c) (taU (qUn c) (qUm c - 1) (qS c) i) (qW c) (qKe c) (qIk c) (qUn c) (qUm c - 1) (qRb c) (qRi c) (qRm c))) rfl (by omega) (Nat.le_of_ble_eq_true rfl) dX8_undo_51 ?_
      refine wk_iast (i := i) hx hb hK hP hD hS 5 1 (WM_5 G a (mkJ (qTr c) (qTx c) (qTy c) (qNe c) (qTo c) (qPl c) (qVa c) (qFa c) (qN c) (qSo c) (qVo c) (qBi c) (qHo c) (qTd c) (taU (qUn c) (qUm c - 1) (qS c) i) (qW c) (qKe c) (qIk c) (qUn c) (qUm c - 1) (qRb c) (qRi c) (qRm c))) rfl (by omega) (Nat.le_of_ble_eq_true rfl) dX8_undo_52 (fun H locs hP hD hS => ?_)
      rw [WMk_p5] at hP hD
      replace hP : va_P G.1 vwCl (WM G a (mkJ (qTr c) (qTx c) (qTy c) (qNe c) (qTo c) (qPl c) (qVa c) (qFa c) (qN c) (qSo c) (qVo c) (qBi c) (qHo c) (qTd c) (upd (taU (qUn c) (qUm c - 1) (qS c) i) i (qUn c ((19 * (qUm c - 1)) + i))) (qW c) (qKe c) (qIk c) (qUn c) (qUm c - 1) (qRb c) (qRi c) (qRm c))) H := hP
      replace hD : va_D A (WM G a (mkJ (qTr c) (qTx c) (qTy c) (qNe c) (qTo c) (qPl c) (qVa c) (qFa c) (qN c) (qSo c) (qVo c) (qBi c) (qHo c) (qTd c) (upd (taU (qUn c) (qUm c - 1) (qS c) i) i (qUn c ((19 * (qUm c - 1)) + i))) (qW c) (qKe c) (qIk c) (qUn c) (qUm c - 1) (qRb c) (qRi c) (qRm c))) := hD
      refine lv_iinc (v := (nI (i + 1))) (lv' := [(1, .int (nI (i + 1))), (0, .ref (a 0))]) hx hb dX8_undo_53 hl (k := 0) rfl (wk_i1 i) (by decide) rfl (fun ls hl => ?_)
      refine lv_goto (tgt := 27) hx hb dX8_undo_56 (by decide) ?_
      rw [taU_s] at hP hD
      exact ih27 (i + 1) (n27 - 1) ls H _ (by omega) (by omega) (lv_sub hl [0, 1] rfl) hP hD hS
  · have c9 := nI_z (by omega) c9
    refine lv_bipush (v := -2) hx hb dX8_undo_12 (by decide) ?_
    have hq : yUndo c = ((-2), c) := by (simp only [yUndo, c9, if_true, if_false, reduceIte, not_true_eq_false, not_false_eq_true, Bool.and_true, Bool.true_and, Bool.and_self, Bool.and_false, Bool.false_and, Bool.false_eq_true]) <;> rfl
    exact wk_mret' hx hb hr hlocks dX8_undo_14 hP hS (congrArg (fun z => some (Value.int z.1)) hq) (congrArg (fun z => WM G a z.2) hq)
theorem hdV_X8_keep : yX8_keep.cls = RX8 ∧ yX8_keep.cls ≠ "java/lang/invoke/MethodHandle" ∧ yX8_keep.cls ≠ "java/lang/invoke/VarHandle" ∧ (parseMethodDescriptor yX8_keep.desc).map (fun d => d.parameters.length) = some 1 := by decide +kernel
set_option maxHeartbeats 600000 in
set_option maxRecDepth 100000 in
theorem c_X8_keep (l : Launch) (G : GG) (a : Nat → Nat) (c : JX) (hc : OkJ c) (u : Int32) (sz : Nat) : Met l yX8_keep wsX8_keep ({ frames := 1, cells := 0, slots := 0, locals := 22 }) (va_Pc [.ref (a 0), .int u] (fun U => PreM G (WM G a c) sz U U.heap)) (Qm G.1 vwCl (some (.int (yKeep c u).1)) (WM G a ((yKeep c u).2)) (va_A (WM G a c) sz)) 0 0 (va_A (WM G a c) sz) := by
  refine Met.ofW (cc := cX8_keep) (maxL := 3) (ret := (some .int)) (by decide) rfl ?_
  intro p e s m args below meth cd s₁ BB hml hv
  obtain ⟨rfl, ⟨hP, hK, hN⟩, hD0, hsz⟩ := hv
  have hx := BB.exec
  have hb := BB.bytes
  have hr := BB.returns
  have hts := atoms_spec (ws := wsX8_keep) BB.pre
  have hown : s.vm.findClass RX8 = some m.cls := findClass_of_methodNamed BB.named
  have hlocks := BB.notSynchronized
  have hrc : 0 + 0 ≤ (headSpec wsX8_keep ({ frames := 1, cells := 0, slots := 0, locals := 22 })).room.cells := Nat.le_refl _
  have hrs : 0 + 0 ≤ (headSpec wsX8_keep ({ frames := 1, cells := 0, slots := 0, locals := 22 })).room.slots := Nat.le_refl _
  subst hsz
  have hD := hD0.self (sz := s.heap.size)
  generalize hAe : va_A (WM G a c) s.heap.size = A at hD ⊢
  have hA : ∀ q : Nat, s.heap.size ≤ q → A q := fun q h => by rw [← hAe]; exact Or.inr h
  have hS : va_S A s.heap s.heap [] := va_S.rf
  obtain ⟨hk7, ho1, ho5, hl200, hr6, hu10⟩ := id hc
  have hin8 : ∀ w ∈ u_ws RX8 TX8 24, w ∈ wsX8_keep := by decide +kernel
  have hf28 := hts (.fieldLink RX8 28 "RegaliaVotesModel" "s" "[I") (by decide +kernel)
  have hf34 := hts (.fieldLink RX8 34 "RegaliaVotesModel" "kept" "[I") (by decide +kernel)
  have hf37 := hts (.fieldLink RX8 37 "RegaliaVotesModel" "isKept" "[Z") (by decide +kernel)
  have hf50 := hts (.fieldLink RX8 50 "RegaliaVotesModel" "thrown" "I") (by decide +kernel)
  refine wk_enter (n := 3) (Nat.le_of_ble_eq_true rfl) (fun ls hl => ?_)
  have hl : lv_has ls 3 [(0, .ref (a 0)), (1, .int u)] := hl
  refine lv_aload_n hx hb dX8_keep_0 rfl (lv_at hl 0 rfl) ?_
  refine lv_iconst (v := 0) hx hb dX8_keep_1 (by decide) ?_
  refine va_put (D := G.1) (v := .int 0) (ty := .int) hx hb hts hin8 tyX8 tyX8_ok nmX8 hown hK hP hD hS 0 (WM_0 G a c) rfl 0 (by decide) hf50 (fun _ h => h) rfl (by decide +kernel) rfl rfl (Nat.le_of_ble_eq_true rfl) dX8_keep_2 (fun H locs hP hD hS => ?_)
  rw [WM_p0_0] at hP hD
  refine lv_iload_n hx hb dX8_keep_5 rfl (lv_at hl 1 rfl) ?_
  refine lv_iconst (v := 0) hx hb dX8_keep_6 (by decide) ?_
  refine lv_iconst (v := 1) hx hb dX8_keep_7 (by decide) ?_
  refine wk_read (va_runS (As := [.int u, .int 0, .int 1]) (rest := []) ⟨hx, hb, hml, hown, hts⟩ (c_X8_in l u 0 1) (va_cwS 3 hts gX8_keep_X8_in rfl rfl rfl hdS_X8_in ⟨Nat.le_of_ble_eq_true rfl, Nat.le_of_ble_eq_true rfl⟩) preEq rfl rfl hl.1 rfl (lv_room (Nat.le_of_ble_eq_true rfl)) dX8_keep_8 ⟨hrc, hrs⟩) ?_
  refine lv_if_ne (tgt := 16) hx hb dX8_keep_11 (by decide) (fun c11 => ?_) (fun c11 => ?_)
  · have c11 := b2i_t c11
    obtain ⟨j, hj, rfl⟩ := pIn_n (m := 1) c11 (by decide)
    have hcl := nI_clamp (show j < 2 ^ 31 by omega)
    refine lv_iconst (v := 0) hx hb dX8_keep_16 (by decide) ?_
    refine lv_istore_n (lv' := [(2, .int 0), (0, .ref (a 0)), (1, .int (nI j))]) hx hb dX8_keep_17 rfl hl (by decide) rfl (fun ls hl => ?_)
    have hP : va_P G.1 vwCl (WM G a (mkJ (qTr c) (qTx c) (qTy c) (qNe c) (qTo c) (qPl c) (qVa c) (qFa c) (qN c) (qSo c) (qVo c) (qBi c) (qHo c) (qTd c) (qS c) (qW c) (puU (qKe c) (qS c) j 0) (qIk c) (qUn c) (qUm c) (qRb c) (qRi c) (qRm c))) H := by rw [puU_0]; exact hP
    have hD : va_D A (WM G a (mkJ (qTr c) (qTx c) (qTy c) (qNe c) (qTo c) (qPl c) (qVa c) (qFa c) (qN c) (qSo c) (qVo c) (qBi c) (qHo c) (qTd c) (qS c) (qW c) (puU (qKe c) (qS c) j 0) (qIk c) (qUn c) (qUm c) (qRb c) (qRi c) (qRm c))) := by rw [puU_0]; exact hD
    refine wk_loopM (σ := Nat) (nL := 3) (fun xσ n => match xσ with | i => i + n = 19) (fun xσ => match xσ with | i => [(2, .int (nI i)), (0, .ref (a 0)), (1, .int (nI j))]) (fun xσ => match xσ with | i => WM G a (mkJ (qTr c) (qTx c) (qTy c) (qNe c) (qTo c) (qPl c) (qVa c) (qFa c) (qN c) (qSo c) (qVo c) (qBi c) (qHo c) (qTd c) (qS c) (qW c) (puU (qKe c) (qS c) j i) (qIk c) (qUn c) (qUm c) (qRb c) (qRi c) (qRm c))) 0 19 (by omega) hl hP hD hS ?_
    rintro n18 i ls H locs hI18 hl hP hD hS ih18
    have hl : lv_has ls 3 [(2, .int (nI i)), (0, .ref (a 0)), (1, .int (nI j))] := hl
    have hP : va_P G.1 vwCl (WM G a (mkJ (qTr c) (qTx c) (qTy c) (qNe c) (qTo c) (qPl c) (qVa c) (qFa c) (qN c) (qSo c) (qVo c) (qBi c) (qHo c) (qTd c) (qS c) (qW c) (puU (qKe c) (qS c) j i) (qIk c) (qUn c) (qUm c) (qRb c) (qRi c) (qRm c))) H := hP
    have hD : va_D A (WM G a (mkJ (qTr c) (qTx c) (qTy c) (qNe c) (qTo c) (qPl c) (qVa c) (qFa c) (qN c) (qSo c) (qVo c) (qBi c) (qHo c) (qTd c) (qS c) (qW c) (puU (qKe c) (qS c) j i) (qIk c) (qUn c) (qUm c) (qRb c) (qRi c) (qRm c))) := hD
    refine lv_iload_n hx hb dX8_keep_18 rfl (lv_at hl 0 rfl) ?_
    refine lv_bipush (v := 19) hx hb dX8_keep_19 (by decide) ?_
    refine wk_ge (x := i) (y := 19) (tgt := 47) hx hb (by omega) (by omega) dX8_keep_21 (by decide) (fun c21 => ?_) (fun c21 => ?_)
    · obtain rfl : i = 19 := by omega
      refine lv_aload_n hx hb dX8_keep_47 rfl (lv_at hl 1 rfl) ?_
      refine va_get (D := G.1) (v := .ref (a 12)) hx hb hts hin8 hown hK hP 0 (WM_0 G a (mkJ (qTr c) (qTx c) (qTy c) (qNe c) (qTo c) (qPl c) (qVa c) (qFa c) (qN c) (qSo c) (qVo c) (qBi c) (qHo c) (qTd c) (qS c) (qW c) (puU (qKe c) (qS c) j 19) (qIk c) (qUn c) (qUm c) (qRb c) (qRi c) (qRm c))) rfl 18 (by decide) hf37 (fun _ h => h) rfl dX8_keep_48 ?_
      refine lv_iload_n hx hb dX8_keep_51 rfl (lv_at hl 2 rfl) ?_
      refine lv_iconst (v := 1) hx hb dX8_keep_52 (by decide) ?_
      refine wk_zast (i := j) (x := (b2i true)) hx hb hK hP hD hS 12 2 (WM_12 G a (mkJ (qTr c) (qTx c) (qTy c) (qNe c) (qTo c) (qPl c) (qVa c) (qFa c) (qN c) (qSo c) (qVo c) (qBi c) (qHo c) (qTd c) (qS c) (qW c) (puU (qKe c) (qS c) j 19) (qIk c) (qUn c) (qUm c) (qRb c) (qRi c) (qRm c))) rfl (by omega) (Nat.le_of_ble_eq_true rfl) (b2i_vnar _) dX8_keep_53 (fun H locs hP hD hS => ?_)
      rw [updB_eq] at hP hD
      rw [WMk_p12] at hP hD
      replace hP : va_P G.1 vwCl (WM G a (mkJ (qTr c) (qTx c) (qTy c) (qNe c) (qTo c) (qPl c) (qVa c) (qFa c) (qN c) (qSo c) (qVo c) (qBi c) (qHo c) (qTd c) (qS c) (qW c) (puU (qKe c) (qS c) j 19) (va_up (qIk c) j true) (qUn c) (qUm c) (qRb c) (qRi c) (qRm c))) H := hP
      replace hD : va_D A (WM G a (mkJ (qTr c) (qTx c) (qTy c) (qNe c) (qTo c) (qPl c) (qVa c) (qFa c) (qN c) (qSo c) (qVo c) (qBi c) (qHo c) (qTd c) (qS c) (qW c) (puU (qKe c) (qS c) j 19) (va_up (qIk c) j true) (qUn c) (qUm c) (qRb c) (qRi c) (qRm c))) := hD
      refine lv_aload_n hx hb dX8_keep_54 rfl (lv_at hl 1 rfl) ?_
      refine va_get (D := G.1) (v := .ref (a 5)) hx hb hts hin8 hown hK hP 0 (WM_0 G a (mkJ (qTr c) (qTx c) (qTy c) (qNe c) (qTo c) (qPl c) (qVa c) (qFa c) (qN c) (qSo c) (qVo c) (qBi c) (qHo c) (qTd c) (qS c) (qW c) (puU (qKe c) (qS c) j 19) (va_up (qIk c) j true) (qUn c) (qUm c) (qRb c) (qRi c) (qRm c))) rfl 15 (by decide) hf28 (fun _ h => h) rfl dX8_keep_55 ?_
      refine lv_bipush (v := 17) hx hb dX8_keep_58 (by decide) ?_
      refine wk_iald (i := 17) hx hb hK hP 5 1 (WM_5 G a (mkJ (qTr c) (qTx c) (qTy c) (qNe c) (qTo c) (qPl c) (qVa c) (qFa c) (qN c) (qSo c) (qVo c) (qBi c) (qHo c) (qTd c) (qS c) (qW c) (puU (qKe c) (qS c) j 19) (va_up (qIk c) j true) (qUn c) (qUm c) (qRb c) (qRi c) (qRm c))) rfl (by omega) (Nat.le_of_ble_eq_true rfl) dX8_keep_60 ?_
      have hq : yKeep c (nI j) = ((qS c 17), mkJ (qTr c) (qTx c) (qTy c) (qNe c) (qTo c) (qPl c) (qVa c) (qFa c) (qN c) (qSo c) (qVo c) (qBi c) (qHo c) (qTd c) (qS c) (qW c) (puU (qKe c) (qS c) j 19) (va_up (qIk c) j true) (qUn c) (qUm c) (qRb c) (qRi c) (qRm c)) := by (simp only [yKeep, hcl, c11, if_true, if_false, reduceIte, not_true_eq_false, not_false_eq_true, Bool.and_true, Bool.true_and, Bool.and_self, Bool.and_false, Bool.false_and, Bool.false_eq_true]) <;> rfl
      exact wk_mret' hx hb hr hlocks dX8_keep_61 hP hS (congrArg (fun z => some (Value.int z.1)) hq) (congrArg (fun z => WM G a z.2) hq)
    · refine lv_aload_n hx hb dX8_keep_24 rfl (lv_at hl 1 rfl) ?_
      refine va_get (D := G.1) (v := .ref (a 11)) hx hb hts hin8 hown hK hP 0 (WM_0 G a (mkJ (qTr c) (qTx c) (qTy c) (qNe c) (qTo c) (qPl c) (qVa c) (qFa c) (qN c) (qSo c) (qVo c) (qBi c) (qHo c) (qTd c) (qS c) (qW c) (puU (qKe c) (qS c) j i) (qIk c) (qUn c) (qUm c) (qRb c) (qRi c) (qRm c))) rfl 17 (by decide) hf34 (fun _ h => h) rfl dX8_keep_25 ?_
      refine lv_bipush (v := 19) hx hb dX8_keep_28 (by decide) ?_
      refine lv_iload_n hx hb dX8_keep_30 rfl (lv_at hl 2 rfl) ?_
      refine wk_imul (x := 19) (y := j) hx hb dX8_keep_31 ?_
      refine lv_iload_n hx hb dX8_keep_32 rfl (lv_at hl 0 rfl) ?_
      refine wk_iadd (x := (19 * j)) (y := i) hx hb dX8_keep_33 ?_
      refine lv_aload_n hx hb dX8_keep_34 rfl (lv_at hl 1 rfl) ?_
      refine va_get (D := G.1) (v := .ref (a 5)) hx hb hts hin8 hown hK hP 0 (WM_0 G a (mkJ (qTr c) (qTx c) (qTy c) (qNe c) (qTo c) (qPl c) (qVa c) (qFa c) (qN c) (qSo c) (qVo c) (qBi c) (qHo c) (qTd c) (qS c) (qW c) (puU (qKe c) (qS c) j i) (qIk c) (qUn c) (qUm c) (qRb c) (qRi c) (qRm c))) rfl 15 (by decide) hf28 (fun _ h => h) rfl dX8_keep_35 ?_
      refine lv_iload_n hx hb dX8_keep_38 rfl (lv_at hl 0 rfl) ?_
      refine wk_iald (i := i) hx hb hK hP 5 1 (WM_5 G a (mkJ (qTr c) (qTx c) (qTy c) (qNe c) (qTo c) (qPl c) (qVa c) (qFa c) (qN c) (qSo c) (qVo c) (qBi c) (qHo c) (qTd c) (qS c) (qW c) (puU (qKe c) (qS c) j i) (qIk c) (qUn c) (qUm c) (qRb c) (qRi c) (qRm c))) rfl (by omega) (Nat.le_of_ble_eq_true rfl) dX8_keep_39 ?_
      refine wk_iast (i := ((19 * j) + i)) hx hb hK hP hD hS 11 1 (WM_11 G a (mkJ (qTr c) (qTx c) (qTy c) (qNe c) (qTo c) (qPl c) (qVa c) (qFa c) (qN c) (qSo c) (qVo c) (qBi c) (qHo c) (qTd c) (qS c) (qW c) (puU (qKe c) (qS c) j i) (qIk c) (qUn c) (qUm c) (qRb c) (qRi c) (qRm c))) rfl (by omega) (Nat.le_of_ble_eq_true rfl) dX8_keep_40 (fun H locs hP hD hS => ?_)
      rw [WMk_p11] at hP hD
      replace hP : va_P G.1 vwCl (WM G a (mkJ (qTr c) (qTx c) (qTy c) (qNe c) (qTo c) (qPl c) (qVa c) (qFa c) (qN c) (qSo c) (qVo c) (qBi c) (qHo c) (qTd c) (qS c) (qW c) (upd (puU (qKe c) (qS c) j i) ((19 * j) + i) (qS c i)) (qIk c) (qUn c) (qUm c) (qRb c) (qRi c) (qRm c))) H := hP
      replace hD : va_D A (WM G a (mkJ (qTr c) (qTx c) (qTy c) (qNe c) (qTo c) (qPl c) (qVa c) (qFa c) (qN c) (qSo c) (qVo c) (qBi c) (qHo c) (qTd c) (qS c) (qW c) (upd (puU (qKe c) (qS c) j i) ((19 * j) + i) (qS c i)) (qIk c) (qUn c) (qUm c) (qRb c) (qRi c) (qRm c))) := hD
      refine lv_iinc (v := (nI (i + 1))) (lv' := [(2, .int (nI (i + 1))), (0, .ref (a 0)), (1, .int (nI j))]) hx hb dX8_keep_41 hl (k := 0) rfl (wk_i1 i) (by decide) rfl (fun ls hl => ?_)
      refine lv_goto (tgt := 18) hx hb dX8_keep_44 (by decide) ?_
      rw [puU_s] at hP hD
      exact ih18 (i + 1) (n18 - 1) ls H _ (by omega) (by omega) (lv_sub hl [0, 1, 2] rfl) hP hD hS
  · have c11 := b2i_f c11
    refine lv_iconst (v := -1) hx hb dX8_keep_14 (by decide) ?_
    have hq : yKeep c u = ((-1), c) := by (simp only [yKeep, c11, if_true, if_false, reduceIte, not_true_eq_false, not_false_eq_true, Bool.and_true, Bool.true_and, Bool.and_self, Bool.and_false, Bool.false_and, Bool.false_eq_true]) <;> rfl
    exact wk_mret' hx hb hr hlocks dX8_keep_15 hP hS (congrArg (fun z => some (Value.int z.1)) hq) (congrArg (fun z => WM G a z.2) hq)
theorem hdV_X8_back : yX8_back.cls = RX8 ∧ yX8_back.cls ≠ "java/lang/invoke/MethodHandle" ∧ yX8_back.cls ≠ "java/lang/invoke/VarHandle" ∧ (parseMethodDescriptor yX8_back.desc).map (fun d => d.parameters.length) = some 1 := by decide +kernel
set_option maxHeartbeats 600000 in
set_option maxRecDepth 100000 in
theorem c_X8_back (l : Launch) (G : GG) (a : Nat → Nat) (c : JX) (hc : OkJ c) (u : Int32) (sz : Nat) : Met l yX8_back wsX8_back ({ frames := 1, cells := 0, slots := 0, locals := 22 }) (va_Pc [.ref (a 0), .int u] (fun U => PreM G (WM G a c) sz U U.heap)) (Qm G.1 vwCl (some (.int (yBack c u).1)) (WM G a ((yBack c u).2)) (va_A (WM G a c) sz)) 0 0 (va_A (WM G a c) sz) := by
  refine Met.ofW (cc := cX8_back) (maxL := 3) (ret := (some .int)) (by decide) rfl ?_
  intro p e s m args below meth cd s₁ BB hml hv
  obtain ⟨rfl, ⟨hP, hK, hN⟩, hD0, hsz⟩ := hv
  have hx := BB.exec
  have hb := BB.bytes
  have hr := BB.returns
  have hts := atoms_spec (ws := wsX8_back) BB.pre
  have hown : s.vm.findClass RX8 = some m.cls := findClass_of_methodNamed BB.named
  have hlocks := BB.notSynchronized
  have hrc : 0 + 0 ≤ (headSpec wsX8_back ({ frames := 1, cells := 0, slots := 0, locals := 22 })).room.cells := Nat.le_refl _
  have hrs : 0 + 0 ≤ (headSpec wsX8_back ({ frames := 1, cells := 0, slots := 0, locals := 22 })).room.slots := Nat.le_refl _
  subst hsz
  have hD := hD0.self (sz := s.heap.size)
  generalize hAe : va_A (WM G a c) s.heap.size = A at hD ⊢
  have hA : ∀ q : Nat, s.heap.size ≤ q → A q := fun q h => by rw [← hAe]; exact Or.inr h
  have hS : va_S A s.heap s.heap [] := va_S.rf
  obtain ⟨hk7, ho1, ho5, hl200, hr6, hu10⟩ := id hc
  have hin8 : ∀ w ∈ u_ws RX8 TX8 24, w ∈ wsX8_back := by decide +kernel
  have hf28 := hts (.fieldLink RX8 28 "RegaliaVotesModel" "s" "[I") (by decide +kernel)
  have hf34 := hts (.fieldLink RX8 34 "RegaliaVotesModel" "kept" "[I") (by decide +kernel)
  have hf37 := hts (.fieldLink RX8 37 "RegaliaVotesModel" "isKept" "[Z") (by decide +kernel)
  have hf50 := hts (.fieldLink RX8 50 "RegaliaVotesModel" "thrown" "I") (by decide +kernel)
  have hf109 := hts (.fieldLink RX8 109 "RegaliaVotesModel" "undoMany" "I") (by decide +kernel)
  refine wk_enter (n := 3) (Nat.le_of_ble_eq_true rfl) (fun ls hl => ?_)
  have hl : lv_has ls 3 [(0, .ref (a 0)), (1, .int u)] := hl
  refine lv_aload_n hx hb dX8_back_0 rfl (lv_at hl 0 rfl) ?_
  refine lv_iconst (v := 0) hx hb dX8_back_1 (by decide) ?_
  refine va_put (D := G.1) (v := .int 0) (ty := .int) hx hb hts hin8 tyX8 tyX8_ok nmX8 hown hK hP hD hS 0 (WM_0 G a c) rfl 0 (by decide) hf50 (fun _ h => h) rfl (by decide +kernel) rfl rfl (Nat.le_of_ble_eq_true rfl) dX8_back_2 (fun H locs hP hD hS => ?_)
  rw [WM_p0_0] at hP hD
  refine lv_iload_n hx hb dX8_back_5 rfl (lv_at hl 1 rfl) ?_
  refine lv_iconst (v := 0) hx hb dX8_back_6 (by decide) ?_
  refine lv_iconst (v := 1) hx hb dX8_back_7 (by decide) ?_
  refine wk_read (va_runS (As := [.int u, .int 0, .int 1]) (rest := []) ⟨hx, hb, hml, hown, hts⟩ (c_X8_in l u 0 1) (va_cwS 3 hts gX8_back_X8_in rfl rfl rfl hdS_X8_in ⟨Nat.le_of_ble_eq_true rfl, Nat.le_of_ble_eq_true rfl⟩) preEq rfl rfl hl.1 rfl (lv_room (Nat.le_of_ble_eq_true rfl)) dX8_back_8 ⟨hrc, hrs⟩) ?_
  refine lv_if_ne (tgt := 16) hx hb dX8_back_11 (by decide) (fun c11 => ?_) (fun c11 => ?_)
  · have c11 := b2i_t c11
    obtain ⟨j, hj, rfl⟩ := pIn_n (m := 1) c11 (by decide)
    have hcl := nI_clamp (show j < 2 ^ 31 by omega)
    refine lv_aload_n hx hb dX8_back_16 rfl (lv_at hl 0 rfl) ?_
    refine va_get (D := G.1) (v := .ref (a 12)) hx hb hts hin8 hown hK hP 0 (WM_0 G a c) rfl 18 (by decide) hf37 (fun _ h => h) rfl dX8_back_17 ?_
    refine lv_iload_n hx hb dX8_back_20 rfl (lv_at hl 1 rfl) ?_
    refine wk_zald (i := j) hx hb hK hP 12 2 (WM_12 G a c) rfl (by omega) (Nat.le_of_ble_eq_true rfl) dX8_back_21 ?_
    refine lv_if_ne (tgt := 28) hx hb dX8_back_22 (by decide) (fun c22 => ?_) (fun c22 => ?_)
    · have c22 := b2i_t c22
      refine lv_iconst (v := 0) hx hb dX8_back_28 (by decide) ?_
      refine lv_istore_n (lv' := [(2, .int 0), (0, .ref (a 0)), (1, .int (nI j))]) hx hb dX8_back_29 rfl hl (by decide) rfl (fun ls hl => ?_)
      have hP : va_P G.1 vwCl (WM G a (mkJ (qTr c) (qTx c) (qTy c) (qNe c) (qTo c) (qPl c) (qVa c) (qFa c) (qN c) (qSo c) (qVo c) (qBi c) (qHo c) (qTd c) (taU (qKe c) j (qS c) 0) (qW c) (qKe c) (qIk c) (qUn c) (qUm c) (qRb c) (qRi c) (qRm c))) H := by rw [taU_0]; exact hP
      have hD : va_D A (WM G a (mkJ (qTr c) (qTx c) (qTy c) (qNe c) (qTo c) (qPl c) (qVa c) (qFa c) (qN c) (qSo c) (qVo c) (qBi c) (qHo c) (qTd c) (taU (qKe c) j (qS c) 0) (qW c) (qKe c) (qIk c) (qUn c) (qUm c) (qRb c) (qRi c) (qRm c))) := by rw [taU_0]; exact hD
      refine wk_loopM (σ := Nat) (nL := 3) (fun xσ n => match xσ with | i => i + n = 19) (fun xσ => match xσ with | i => [(2, .int (nI i)), (0, .ref (a 0)), (1, .int (nI j))]) (fun xσ => match xσ with | i => WM G a (mkJ (qTr c) (qTx c) (qTy c) (qNe c) (qTo c) (qPl c) (qVa c) (qFa c) (qN c) (qSo c) (qVo c) (qBi c) (qHo c) (qTd c) (taU (qKe c) j (qS c) i) (qW c) (qKe c) (qIk c) (qUn c) (qUm c) (qRb c) (qRi c) (qRm c))) 0 19 (by omega) hl hP hD hS ?_
      rintro n30 i ls H locs hI30 hl hP hD hS ih30
      have hl : lv_has ls 3 [(2, .int (nI i)), (0, .ref (a 0)), (1, .int (nI j))] := hl
      have hP : va_P G.1 vwCl (WM G a (mkJ (qTr c) (qTx c) (qTy c) (qNe c) (qTo c) (qPl c) (qVa c) (qFa c) (qN c) (qSo c) (qVo c) (qBi c) (qHo c) (qTd c) (taU (qKe c) j (qS c) i) (qW c) (qKe c) (qIk c) (qUn c) (qUm c) (qRb c) (qRi c) (qRm c))) H := hP
      have hD : va_D A (WM G a (mkJ (qTr c) (qTx c) (qTy c) (qNe c) (qTo c) (qPl c) (qVa c) (qFa c) (qN c) (qSo c) (qVo c) (qBi c) (qHo c) (qTd c) (taU (qKe c) j (qS c) i) (qW c) (qKe c) (qIk c) (qUn c) (qUm c) (qRb c) (qRi c) (qRm c))) := hD
      refine lv_iload_n hx hb dX8_back_30 rfl (lv_at hl 0 rfl) ?_
      refine lv_bipush (v := 19) hx hb dX8_back_31 (by decide) ?_
      refine wk_ge (x := i) (y := 19) (tgt := 59) hx hb (by omega) (by omega) dX8_back_33 (by decide) (fun c33 => ?_) (fun c33 => ?_)
      · obtain rfl : i = 19 := by omega
        refine lv_aload_n hx hb dX8_back_59 rfl (lv_at hl 1 rfl) ?_
        refine lv_iconst (v := 0) hx hb dX8_back_60 (by decide) ?_
        refine va_put (D := G.1) (v := .int (nI 0)) (ty := .int) hx hb hts hin8 tyX8 tyX8_ok nmX8 hown hK hP hD hS 0 (WM_0 G a (mkJ (qTr c) (qTx c) (qTy c) (qNe c) (qTo c) (qPl c) (qVa c) (qFa c) (qN c) (qSo c) (qVo c) (qBi c) (qHo c) (qTd c) (taU (qKe c) j (qS c) 19) (qW c) (qKe c) (qIk c) (qUn c) (qUm c) (qRb c) (qRi c) (qRm c))) rfl 20 (by decide) hf109 (fun _ h => h) rfl (by decide +kernel) rfl rfl (Nat.le_of_ble_eq_true rfl) dX8_back_61 (fun H locs hP hD hS => ?_)
        rw [WMk_p0_20] at hP hD
        replace hP : va_P G.1 vwCl (WM G a (mkJ (qTr c) (qTx c) (qTy c) (qNe c) (qTo c) (qPl c) (qVa c) (qFa c) (qN c) (qSo c) (qVo c) (qBi c) (qHo c) (qTd c) (taU (qKe c) j (qS c) 19) (qW c) (qKe c) (qIk c) (qUn c) 0 (qRb c) (qRi c) (qRm c))) H := hP
        replace hD : va_D A (WM G a (mkJ (qTr c) (qTx c) (qTy c) (qNe c) (qTo c) (qPl c) (qVa c) (qFa c) (qN c) (qSo c) (qVo c) (qBi c) (qHo c) (qTd c) (taU (qKe c) j (qS c) 19) (qW c) (qKe c) (qIk c) (qUn c) 0 (qRb c) (qRi c) (qRm c))) := hD
        refine lv_aload_n hx hb dX8_back_64 rfl (lv_at hl 1 rfl) ?_
        refine va_get (D := G.1) (v := .ref (a 5)) hx hb hts hin8 hown hK hP 0 (WM_0 G a (mkJ (qTr c) (qTx c) (qTy c) (qNe c) (qTo c) (qPl c) (qVa c) (qFa c) (qN c) (qSo c) (qVo c) (qBi c) (qHo c) (qTd c) (taU (qKe c) j (qS c) 19) (qW c) (qKe c) (qIk c) (qUn c) 0 (qRb c) (qRi c) (qRm c))) rfl 15 (by decide) hf28 (fun _ h => h) rfl dX8_back_65 ?_
        refine lv_bipush (v := 17) hx hb dX8_back_68 (by decide) ?_
        refine wk_iald (i := 17) hx hb hK hP 5 1 (WM_5 G a (mkJ (qTr c) (qTx c) (qTy c) (qNe c) (qTo c) (qPl c) (qVa c) (qFa c) (qN c) (qSo c) (qVo c) (qBi c) (qHo c) (qTd c) (taU (qKe c) j (qS c) 19) (qW c) (qKe c) (qIk c) (qUn c) 0 (qRb c) (qRi c) (qRm c))) rfl (by omega) (Nat.le_of_ble_eq_true rfl) dX8_back_70 ?_
        have hq : yBack c (nI j) = ((taU (qKe c) j (qS c) 19 17), mkJ (qTr c) (qTx c) (qTy c) (qNe c) (qTo c) (qPl c) (qVa c) (qFa c) (qN c) (qSo c) (qVo c) (qBi c) (qHo c) (qTd c) (taU (qKe c) j (qS c) 19) (qW c) (qKe c) (qIk c) (qUn c) 0 (qRb c) (qRi c) (qRm c)) := by (simp only [yBack, hcl, c11, c22, if_true, if_false, reduceIte, not_true_eq_false, not_false_eq_true, Bool.and_true, Bool.true_and, Bool.and_self, Bool.and_false, Bool.false_and, Bool.false_eq_true]) <;> rfl
        exact wk_mret' hx hb hr hlocks dX8_back_71 hP hS (congrArg (fun z => some (Value.int z.1)) hq) (congrArg (fun z => WM G a z.2) hq)
      · refine lv_aload_n hx hb dX8_back_36 rfl (lv_at hl 1 rfl) ?_
        refine va_get (D := G.1) (v := .ref (a 5)) hx hb hts hin8 hown hK hP 0 (WM_0 G a (mkJ (qTr c) (qTx c) (qTy c) (qNe c) (qTo c) (qPl c) (qVa c) (qFa c) (qN c) (qSo c) (qVo c) (qBi c) (qHo c) (qTd c) (taU (qKe c) j (qS c) i) (qW c) (qKe c) (qIk c) (qUn c) (qUm c) (qRb c) (qRi c) (qRm c))) rfl 15 (by decide) hf28 (fun _ h => h) rfl dX8_back_37 ?_
        refine lv_iload_n hx hb dX8_back_40 rfl (lv_at hl 0 rfl) ?_
        refine lv_aload_n hx hb dX8_back_41 rfl (lv_at hl 1 rfl) ?_
        refine va_get (D := G.1) (v := .ref (a 11)) hx hb hts hin8 hown hK hP 0 (WM_0 G a (mkJ (qTr c) (qTx c) (qTy c) (qNe c) (qTo c) (qPl c) (qVa c) (qFa c) (qN c) (qSo c) (qVo c) (qBi c) (qHo c) (qTd c) (taU (qKe c) j (qS c) i) (qW c) (qKe c) (qIk c) (qUn c) (qUm c) (qRb c) (qRi c) (qRm c))) rfl 17 (by decide) hf34 (fun _ h => h) rfl dX8_back_42 ?_
        refine lv_bipush (v := 19) hx hb dX8_back_45 (by decide) ?_
        refine lv_iload_n hx hb dX8_back_47 rfl (lv_at hl 2 rfl) ?_
        refine wk_imul (x := 19) (y := j) hx hb dX8_back_48 ?_
        refine lv_iload_n hx hb dX8_back_49 rfl (lv_at hl 0 rfl) ?_
        refine wk_iadd (x := (19 * j)) (y := i) hx hb dX8_back_50 ?_
        refine wk_iald (i := ((19 * j) + i)) hx hb hK hP 11 1 (WM_11 G a (mkJ (qTr c) (qTx c) (qTy c) (qNe c) (qTo c) (qPl c) (qVa c) (qFa c) (qN c) (qSo c) (qVo c) (qBi c) (qHo c) (qTd c) (taU (qKe c) j (qS c) i) (qW c) (qKe c) (qIk c) (qUn c) (qUm c) (qRb c) (qRi c) (qRm c))) rfl (by omega) (Nat.le_of_ble_eq_true rfl) dX8_back_51 ?_
        refine wk_iast (i := i) hx hb hK hP hD hS 5 1 (WM_5 G a (mkJ (qTr c) (qTx c) (qTy c) (qNe c) (qTo c) (qPl c) (qVa c) (qFa c) (qN c) (qSo c) (qVo c) (qBi c) (qHo c) (qTd c) (taU (qKe c) j (qS c) i) (qW c) (qKe c) (qIk c) (qUn c) (qUm c) (qRb c) (qRi c) (qRm c))) rfl (by omega) (Nat.le_of_ble_eq_true rfl) dX8_back_52 (fun H locs hP hD hS => ?_)
        rw [WMk_p5] at hP hD
        replace hP : va_P G.1 vwCl (WM G a (mkJ (qTr c) (qTx c) (qTy c) (qNe c) (qTo c) (qPl c) (qVa c) (qFa c) (qN c) (qSo c) (qVo c) (qBi c) (qHo c) (qTd c) (upd (taU (qKe c) j (qS c) i) i (qKe c ((19 * j) + i))) (qW c) (qKe c) (qIk c) (qUn c) (qUm c) (qRb c) (qRi c) (qRm c))) H := hP
        replace hD : va_D A (WM G a (mkJ (qTr c) (qTx c) (qTy c) (qNe c) (qTo c) (qPl c) (qVa c) (qFa c) (qN c) (qSo c) (qVo c) (qBi c) (qHo c) (qTd c) (upd (taU (qKe c) j (qS c) i) i (qKe c ((19 * j) + i))) (qW c) (qKe c) (qIk c) (qUn c) (qUm c) (qRb c) (qRi c) (qRm c))) := hD
        refine lv_iinc (v := (nI (i + 1))) (lv' := [(2, .int (nI (i + 1))), (0, .ref (a 0)), (1, .int (nI j))]) hx hb dX8_back_53 hl (k := 0) rfl (wk_i1 i) (by decide) rfl (fun ls hl => ?_)
        refine lv_goto (tgt := 30) hx hb dX8_back_56 (by decide) ?_
        rw [taU_s] at hP hD
        exact ih30 (i + 1) (n30 - 1) ls H _ (by omega) (by omega) (lv_sub hl [0, 1, 2] rfl) hP hD hS
    · have c22 := b2i_f c22
      refine lv_bipush (v := -2) hx hb dX8_back_25 (by decide) ?_
      have hq : yBack c (nI j) = ((-2), c) := by (simp only [yBack, hcl, c11, c22, if_true, if_false, reduceIte, not_true_eq_false, not_false_eq_true, Bool.and_true, Bool.true_and, Bool.and_self, Bool.and_false, Bool.false_and, Bool.false_eq_true]) <;> rfl
      exact wk_mret' hx hb hr hlocks dX8_back_27 hP hS (congrArg (fun z => some (Value.int z.1)) hq) (congrArg (fun z => WM G a z.2) hq)
  · have c11 := b2i_f c11
    refine lv_iconst (v := -1) hx hb dX8_back_14 (by decide) ?_
    have hq : yBack c u = ((-1), c) := by (simp only [yBack, c11, if_true, if_false, reduceIte, not_true_eq_false, not_false_eq_true, Bool.and_true, Bool.true_and, Bool.and_self, Bool.and_false, Bool.false_and, Bool.false_eq_true]) <;> rfl
    exact wk_mret' hx hb hr hlocks dX8_back_15 hP hS (congrArg (fun z => some (Value.int z.1)) hq) (congrArg (fun z => WM G a z.2) hq)

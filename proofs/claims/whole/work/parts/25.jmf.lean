theorem hdV_X8_who : yX8_who.cls = RX8 ∧ yX8_who.cls ≠ "java/lang/invoke/MethodHandle" ∧ yX8_who.cls ≠ "java/lang/invoke/VarHandle" ∧ (parseMethodDescriptor yX8_who.desc).map (fun d => d.parameters.length) = some 0 := by decide +kernel
set_option maxHeartbeats 600000 in
set_option maxRecDepth 100000 in
theorem c_X8_who (l : Launch) (G : GG) (a : Nat → Nat) (c : JX) (hc : OkJ c) (sz : Nat) : Met l yX8_who wsX8_who ({ frames := 4, cells := 0, slots := 0, locals := 91 }) (va_Pc [.ref (a 0)] (fun U => PreM G (WM G a c) sz U U.heap)) (Qm G.1 vwCl (some (.int (yWho c).1)) (WM G a ((yWho c).2)) (va_A (WM G a c) sz)) 0 0 (va_A (WM G a c) sz) := by
  refine Met.ofW (cc := cX8_who) (maxL := 3) (ret := (some .int)) (by decide) rfl ?_
  intro p e s m args below meth cd s₁ BB hml hv
  obtain ⟨rfl, ⟨hP, hK, hN⟩, hD0, hsz⟩ := hv
  have hx := BB.exec
  have hb := BB.bytes
  have hr := BB.returns
  have hts := atoms_spec (ws := wsX8_who) BB.pre
  have hown : s.vm.findClass RX8 = some m.cls := findClass_of_methodNamed BB.named
  have hlocks := BB.notSynchronized
  have hrc : 0 + 0 ≤ (headSpec wsX8_who ({ frames := 4, cells := 0, slots := 0, locals := 91 })).room.cells := Nat.le_refl _
  have hrs : 0 + 0 ≤ (headSpec wsX8_who ({ frames := 4, cells := 0, slots := 0, locals := 91 })).room.slots := Nat.le_refl _
  subst hsz
  have hD := hD0.self (sz := s.heap.size)
  generalize hAe : va_A (WM G a c) s.heap.size = A at hD ⊢
  have hA : ∀ q : Nat, s.heap.size ≤ q → A q := fun q h => by rw [← hAe]; exact Or.inr h
  have hS : va_S A s.heap s.heap [] := va_S.rf
  obtain ⟨hk7, ho1, ho5, hl200, hr6, hu10⟩ := id hc
  have hin8 : ∀ w ∈ u_ws RX8 TX8 24, w ∈ wsX8_who := by decide +kernel
  have hf13 := hts (.fieldLink RX8 13 "RegaliaVotesModel" "many" "[I") (by decide +kernel)
  have hf31 := hts (.fieldLink RX8 31 "RegaliaVotesModel" "w" "[I") (by decide +kernel)
  have hf50 := hts (.fieldLink RX8 50 "RegaliaVotesModel" "thrown" "I") (by decide +kernel)
  refine wk_enter (n := 3) (Nat.le_of_ble_eq_true rfl) (fun ls hl => ?_)
  have hl : lv_has ls 3 [(0, .ref (a 0))] := hl
  refine lv_aload_n hx hb dX8_who_0 rfl (lv_at hl 0 rfl) ?_
  refine lv_iconst (v := 0) hx hb dX8_who_1 (by decide) ?_
  refine va_put (D := G.1) (v := .int 0) (ty := .int) hx hb hts hin8 tyX8 tyX8_ok nmX8 hown hK hP hD hS 0 (WM_0 G a c) rfl 0 (by decide) hf50 (fun _ h => h) rfl (by decide +kernel) rfl rfl (Nat.le_of_ble_eq_true rfl) dX8_who_2 (fun H locs hP hD hS => ?_)
  rw [WM_p0_0] at hP hD
  refine lv_aload_n hx hb dX8_who_5 rfl (lv_at hl 0 rfl) ?_
  refine wk_callA (va_runV (As := []) (rest := []) ⟨hx, hb, hml, hown, hts⟩ (c_X8_asNow l G a c hc H.size) (cwV 0 hts gX8_who_X8_asNow rfl rfl rfl hdV_X8_asNow ⟨Nat.le_of_ble_eq_true rfl, Nat.le_of_ble_eq_true rfl⟩) ((PreM.mk hP hK hN hD).pre (ci := 8) (q0 := 0) rfl (WM_0 G a c)) rfl rfl hl.1 rfl (lv_room (Nat.le_of_ble_eq_true rfl)) dX8_who_6 ⟨hrc, hrs⟩) hD hS hA WM_fst (fun H locs hP hD hS => ?_)
  rw [wW_mk] at hP hD
  replace hP : va_P G.1 vwCl (WM G a (mkJ (qTr c) (qTx c) (qTy c) (qNe c) (qTo c) (qPl c) (qVa c) (qFa c) (qN c) (qSo c) (qVo c) (qBi c) (qHo c) (qTd c) (qS c) (qS c) (qKe c) (qIk c) (qUn c) (qUm c) (qRb c) (qRi c) (qRm c))) H := hP
  replace hD : va_D A (WM G a (mkJ (qTr c) (qTx c) (qTy c) (qNe c) (qTo c) (qPl c) (qVa c) (qFa c) (qN c) (qSo c) (qVo c) (qBi c) (qHo c) (qTd c) (qS c) (qS c) (qKe c) (qIk c) (qUn c) (qUm c) (qRb c) (qRi c) (qRm c))) := hD
  refine W.eq (g2 := F0 m 9 ls []) rfl ?_
  refine lv_aload_n hx hb dX8_who_9 rfl (lv_at hl 0 rfl) ?_
  refine va_get (D := G.1) (v := .ref (a 6)) hx hb hts hin8 hown hK hP 0 (WM_0 G a (mkJ (qTr c) (qTx c) (qTy c) (qNe c) (qTo c) (qPl c) (qVa c) (qFa c) (qN c) (qSo c) (qVo c) (qBi c) (qHo c) (qTd c) (qS c) (qS c) (qKe c) (qIk c) (qUn c) (qUm c) (qRb c) (qRi c) (qRm c))) rfl 16 (by decide) hf31 (fun _ h => h) rfl dX8_who_10 ?_
  refine lv_bipush (v := 16) hx hb dX8_who_13 (by decide) ?_
  refine lv_iconst (v := 0) hx hb dX8_who_15 (by decide) ?_
  refine wk_iast (i := 16) hx hb hK hP hD hS 6 1 (WM_6 G a (mkJ (qTr c) (qTx c) (qTy c) (qNe c) (qTo c) (qPl c) (qVa c) (qFa c) (qN c) (qSo c) (qVo c) (qBi c) (qHo c) (qTd c) (qS c) (qS c) (qKe c) (qIk c) (qUn c) (qUm c) (qRb c) (qRi c) (qRm c))) rfl (by omega) (Nat.le_of_ble_eq_true rfl) dX8_who_16 (fun H locs hP hD hS => ?_)
  rw [WMk_p6] at hP hD
  replace hP : va_P G.1 vwCl (WM G a (mkJ (qTr c) (qTx c) (qTy c) (qNe c) (qTo c) (qPl c) (qVa c) (qFa c) (qN c) (qSo c) (qVo c) (qBi c) (qHo c) (qTd c) (qS c) (upd (qS c) 16 0) (qKe c) (qIk c) (qUn c) (qUm c) (qRb c) (qRi c) (qRm c))) H := hP
  replace hD : va_D A (WM G a (mkJ (qTr c) (qTx c) (qTy c) (qNe c) (qTo c) (qPl c) (qVa c) (qFa c) (qN c) (qSo c) (qVo c) (qBi c) (qHo c) (qTd c) (qS c) (upd (qS c) 16 0) (qKe c) (qIk c) (qUn c) (qUm c) (qRb c) (qRi c) (qRm c))) := hD
  refine wk_cut 34 [] (fun z => z = (if yWhoP c 0 then 32 else 0)) (fun x34 hx34 => ?_) (fun k34 => ?_)
  · subst hx34
    refine lv_istore_n (lv' := [(1, .int (if yWhoP c 0 then 32 else 0)), (0, .ref (a 0))]) hx hb dX8_who_34 rfl hl (by decide) rfl (fun ls hl => ?_)
    refine lv_iconst (v := 0) hx hb dX8_who_35 (by decide) ?_
    refine lv_istore_n (lv' := [(2, .int 0), (1, .int (if yWhoP c 0 then 32 else 0)), (0, .ref (a 0))]) hx hb dX8_who_36 rfl hl (by decide) rfl (fun ls hl => ?_)
    refine wk_loopM (σ := Nat × Int32) (nL := 3) (fun xσ n => match xσ with | (i, z) => i + n = qN c 1 ∧ z = yWhoF c i) (fun xσ => match xσ with | (i, z) => [(2, .int (nI i)), (1, .int z), (0, .ref (a 0))]) (fun xσ => match xσ with | (i, z) => WM G a (mkJ (qTr c) (qTx c) (qTy c) (qNe c) (qTo c) (qPl c) (qVa c) (qFa c) (qN c) (qSo c) (qVo c) (qBi c) (qHo c) (qTd c) (qS c) (upd (qS c) 16 (yWhoX i)) (qKe c) (qIk c) (qUn c) (qUm c) (qRb c) (qRi c) (qRm c))) (0, if yWhoP c 0 then 32 else 0) (qN c 1) (⟨by omega, rfl⟩) hl hP hD hS ?_
    rintro n37 ⟨i, z⟩ ls H locs hI37 hl hP hD hS ih37
    have hl : lv_has ls 3 [(2, .int (nI i)), (1, .int z), (0, .ref (a 0))] := hl
    have hP : va_P G.1 vwCl (WM G a (mkJ (qTr c) (qTx c) (qTy c) (qNe c) (qTo c) (qPl c) (qVa c) (qFa c) (qN c) (qSo c) (qVo c) (qBi c) (qHo c) (qTd c) (qS c) (upd (qS c) 16 (yWhoX i)) (qKe c) (qIk c) (qUn c) (qUm c) (qRb c) (qRi c) (qRm c))) H := hP
    have hD : va_D A (WM G a (mkJ (qTr c) (qTx c) (qTy c) (qNe c) (qTo c) (qPl c) (qVa c) (qFa c) (qN c) (qSo c) (qVo c) (qBi c) (qHo c) (qTd c) (qS c) (upd (qS c) 16 (yWhoX i)) (qKe c) (qIk c) (qUn c) (qUm c) (qRb c) (qRi c) (qRm c))) := hD
    obtain ⟨hi, hz⟩ := hI37
    refine lv_iload_n hx hb dX8_who_37 rfl (lv_at hl 0 rfl) ?_
    refine lv_aload_n hx hb dX8_who_38 rfl (lv_at hl 2 rfl) ?_
    refine va_get (D := G.1) (v := .ref (a 1)) hx hb hts hin8 hown hK hP 0 (WM_0 G a (mkJ (qTr c) (qTx c) (qTy c) (qNe c) (qTo c) (qPl c) (qVa c) (qFa c) (qN c) (qSo c) (qVo c) (qBi c) (qHo c) (qTd c) (qS c) (upd (qS c) 16 (yWhoX i)) (qKe c) (qIk c) (qUn c) (qUm c) (qRb c) (qRi c) (qRm c))) rfl 9 (by decide) hf13 (fun _ h => h) rfl dX8_who_39 ?_
    refine lv_iconst (v := 1) hx hb dX8_who_42 (by decide) ?_
    refine wk_iald (i := 1) hx hb hK hP 1 1 (WM_1 G a (mkJ (qTr c) (qTx c) (qTy c) (qNe c) (qTo c) (qPl c) (qVa c) (qFa c) (qN c) (qSo c) (qVo c) (qBi c) (qHo c) (qTd c) (qS c) (upd (qS c) 16 (yWhoX i)) (qKe c) (qIk c) (qUn c) (qUm c) (qRb c) (qRi c) (qRm c))) rfl (by omega) (Nat.le_of_ble_eq_true rfl) dX8_who_43 ?_
    refine wk_ge (x := i) (y := (qN c 1)) (tgt := 84) hx hb (by omega) (by omega) dX8_who_44 (by decide) (fun c44 => ?_) (fun c44 => ?_)
    · refine lv_iload_n hx hb dX8_who_84 rfl (lv_at hl 1 rfl) ?_
      have hq : yWho c = (z, mkJ (qTr c) (qTx c) (qTy c) (qNe c) (qTo c) (qPl c) (qVa c) (qFa c) (qN c) (qSo c) (qVo c) (qBi c) (qHo c) (qTd c) (qS c) (upd (qS c) 16 (yWhoX i)) (qKe c) (qIk c) (qUn c) (qUm c) (qRb c) (qRi c) (qRm c)) := by rw [yWho, ← show i = qN c 1 by omega, ← hz]; rfl
      exact wk_mret' hx hb hr hlocks dX8_who_85 hP hS (congrArg (fun z => some (Value.int z.1)) hq) (congrArg (fun z => WM G a z.2) hq)
    · refine lv_aload_n hx hb dX8_who_47 rfl (lv_at hl 2 rfl) ?_
      refine va_get (D := G.1) (v := .ref (a 6)) hx hb hts hin8 hown hK hP 0 (WM_0 G a (mkJ (qTr c) (qTx c) (qTy c) (qNe c) (qTo c) (qPl c) (qVa c) (qFa c) (qN c) (qSo c) (qVo c) (qBi c) (qHo c) (qTd c) (qS c) (upd (qS c) 16 (yWhoX i)) (qKe c) (qIk c) (qUn c) (qUm c) (qRb c) (qRi c) (qRm c))) rfl 16 (by decide) hf31 (fun _ h => h) rfl dX8_who_48 ?_
      refine lv_bipush (v := 16) hx hb dX8_who_51 (by decide) ?_
      refine lv_iconst (v := 1) hx hb dX8_who_53 (by decide) ?_
      refine lv_iload_n hx hb dX8_who_54 rfl (lv_at hl 0 rfl) ?_
      refine lv_ishl hx hb dX8_who_55 ?_
      show W _ _ _ _ _ _ _ _ _ _ _ _ _ _ _ (F0 _ _ _ (.int (sh1 (nI i)) :: _))
      refine wk_iast (i := 16) hx hb hK hP hD hS 6 1 (WM_6 G a (mkJ (qTr c) (qTx c) (qTy c) (qNe c) (qTo c) (qPl c) (qVa c) (qFa c) (qN c) (qSo c) (qVo c) (qBi c) (qHo c) (qTd c) (qS c) (upd (qS c) 16 (yWhoX i)) (qKe c) (qIk c) (qUn c) (qUm c) (qRb c) (qRi c) (qRm c))) rfl (by omega) (Nat.le_of_ble_eq_true rfl) dX8_who_56 (fun H locs hP hD hS => ?_)
      rw [WMk_p6] at hP hD
      replace hP : va_P G.1 vwCl (WM G a (mkJ (qTr c) (qTx c) (qTy c) (qNe c) (qTo c) (qPl c) (qVa c) (qFa c) (qN c) (qSo c) (qVo c) (qBi c) (qHo c) (qTd c) (qS c) (upd (upd (qS c) 16 (yWhoX i)) 16 (sh1 (nI i))) (qKe c) (qIk c) (qUn c) (qUm c) (qRb c) (qRi c) (qRm c))) H := hP
      replace hD : va_D A (WM G a (mkJ (qTr c) (qTx c) (qTy c) (qNe c) (qTo c) (qPl c) (qVa c) (qFa c) (qN c) (qSo c) (qVo c) (qBi c) (qHo c) (qTd c) (qS c) (upd (upd (qS c) 16 (yWhoX i)) 16 (sh1 (nI i))) (qKe c) (qIk c) (qUn c) (qUm c) (qRb c) (qRi c) (qRm c))) := hD
      rw [upd_upd] at hP hD
      refine lv_iload_n hx hb dX8_who_57 rfl (lv_at hl 1 rfl) ?_
      refine lv_aload_n hx hb dX8_who_58 rfl (lv_at hl 2 rfl) ?_
      refine lv_aload_n hx hb dX8_who_59 rfl (lv_at hl 2 rfl) ?_
      refine va_get (D := G.1) (v := .ref (a 6)) hx hb hts hin8 hown hK hP 0 (WM_0 G a (mkJ (qTr c) (qTx c) (qTy c) (qNe c) (qTo c) (qPl c) (qVa c) (qFa c) (qN c) (qSo c) (qVo c) (qBi c) (qHo c) (qTd c) (qS c) (upd (qS c) 16 (sh1 (nI i))) (qKe c) (qIk c) (qUn c) (qUm c) (qRb c) (qRi c) (qRm c))) rfl 16 (by decide) hf31 (fun _ h => h) rfl dX8_who_60 ?_
      refine wk_read (va_runV (As := [.ref (a 6)]) (rest := [.int z]) ⟨hx, hb, hml, hown, hts⟩ (c_X8_isAsRecorded l G a (mkJ (qTr c) (qTx c) (qTy c) (qNe c) (qTo c) (qPl c) (qVa c) (qFa c) (qN c) (qSo c) (qVo c) (qBi c) (qHo c) (qTd c) (qS c) (upd (qS c) 16 (sh1 (nI i))) (qKe c) (qIk c) (qUn c) (qUm c) (qRb c) (qRi c) (qRm c)) (okJ_mk (by omega) (by omega) (by omega) (by omega) (by omega) (by omega))  true) (cwV 1 hts gX8_who_X8_isAsRecorded rfl rfl rfl hdV_X8_isAsRecorded ⟨Nat.le_of_ble_eq_true rfl, Nat.le_of_ble_eq_true rfl⟩) (PreW.pre (G := G) (W0 := WM G a (mkJ (qTr c) (qTx c) (qTy c) (qNe c) (qTo c) (qPl c) (qVa c) (qFa c) (qN c) (qSo c) (qVo c) (qBi c) (qHo c) (qTd c) (qS c) (upd (qS c) 16 (sh1 (nI i))) (qKe c) (qIk c) (qUn c) (qUm c) (qRb c) (qRi c) (qRm c))) ⟨hP, hK, hN⟩ (ci := 8) (q0 := 0) rfl rfl) rfl rfl hl.1 rfl (lv_room (Nat.le_of_ble_eq_true rfl)) dX8_who_63 ⟨hrc, hrs⟩) ?_
      refine W.eq (g2 := F0 m 66 ls [.int (b2i (jRec ((qN c) 0) (qSo c) (qVo c) (qBi c) (upd (qS c) 16 (sh1 (nI i))) (qRb c) (qRi c) (qRm c))), .int z]) rfl ?_
      refine lv_if_eq (tgt := 75) hx hb dX8_who_66 (by decide) (fun c66 => ?_) (fun c66 => ?_)
      · have c66 := b2i_f c66
        refine lv_iconst (v := 0) hx hb dX8_who_75 (by decide) ?_
        refine lv_ior hx hb dX8_who_76 ?_
        refine lv_istore_n (lv' := [(1, .int (z ||| 0)), (2, .int (nI i)), (0, .ref (a 0))]) hx hb dX8_who_77 rfl hl (by decide) rfl (fun ls hl => ?_)
        refine lv_iinc (v := (nI (i + 1))) (lv' := [(2, .int (nI (i + 1))), (1, .int (z ||| 0)), (0, .ref (a 0))]) hx hb dX8_who_78 hl (k := 1) rfl (wk_i1 i) (by decide) rfl (fun ls hl => ?_)
        refine lv_goto (tgt := 37) hx hb dX8_who_81 (by decide) ?_
        exact ih37 (i + 1, (z ||| 0)) (n37 - 1) ls H _ (by omega) (⟨by omega, by rw [hz]; simp [yWhoF, fo_s, yWhoP, c66]⟩) (lv_sub hl [0, 1, 2] rfl) hP hD hS
      · have c66 := b2i_t c66
        refine lv_iconst (v := 1) hx hb dX8_who_69 (by decide) ?_
        refine lv_iload_n hx hb dX8_who_70 rfl (lv_at hl 0 rfl) ?_
        refine lv_ishl hx hb dX8_who_71 ?_
        show W _ _ _ _ _ _ _ _ _ _ _ _ _ _ _ (F0 _ _ _ (.int (sh1 (nI i)) :: _))
        refine lv_goto (tgt := 76) hx hb dX8_who_72 (by decide) ?_
        refine lv_ior hx hb dX8_who_76 ?_
        refine lv_istore_n (lv' := [(1, .int (z ||| (sh1 (nI i)))), (2, .int (nI i)), (0, .ref (a 0))]) hx hb dX8_who_77 rfl hl (by decide) rfl (fun ls hl => ?_)
        refine lv_iinc (v := (nI (i + 1))) (lv' := [(2, .int (nI (i + 1))), (1, .int (z ||| (sh1 (nI i)))), (0, .ref (a 0))]) hx hb dX8_who_78 hl (k := 1) rfl (wk_i1 i) (by decide) rfl (fun ls hl => ?_)
        refine lv_goto (tgt := 37) hx hb dX8_who_81 (by decide) ?_
        exact ih37 (i + 1, (z ||| (sh1 (nI i)))) (n37 - 1) ls H _ (by omega) (⟨by omega, by rw [hz]; simp [yWhoF, fo_s, yWhoP, c66]⟩) (lv_sub hl [0, 1, 2] rfl) hP hD hS
  · refine lv_aload_n hx hb dX8_who_17 rfl (lv_at hl 0 rfl) ?_
    refine lv_aload_n hx hb dX8_who_18 rfl (lv_at hl 0 rfl) ?_
    refine va_get (D := G.1) (v := .ref (a 6)) hx hb hts hin8 hown hK hP 0 (WM_0 G a (mkJ (qTr c) (qTx c) (qTy c) (qNe c) (qTo c) (qPl c) (qVa c) (qFa c) (qN c) (qSo c) (qVo c) (qBi c) (qHo c) (qTd c) (qS c) (upd (qS c) 16 0) (qKe c) (qIk c) (qUn c) (qUm c) (qRb c) (qRi c) (qRm c))) rfl 16 (by decide) hf31 (fun _ h => h) rfl dX8_who_19 ?_
    refine wk_read (va_runV (As := [.ref (a 6)]) (rest := []) ⟨hx, hb, hml, hown, hts⟩ (c_X8_isAsRecorded l G a (mkJ (qTr c) (qTx c) (qTy c) (qNe c) (qTo c) (qPl c) (qVa c) (qFa c) (qN c) (qSo c) (qVo c) (qBi c) (qHo c) (qTd c) (qS c) (upd (qS c) 16 0) (qKe c) (qIk c) (qUn c) (qUm c) (qRb c) (qRi c) (qRm c)) (okJ_mk (by omega) (by omega) (by omega) (by omega) (by omega) (by omega))  true) (cwV 1 hts gX8_who_X8_isAsRecorded rfl rfl rfl hdV_X8_isAsRecorded ⟨Nat.le_of_ble_eq_true rfl, Nat.le_of_ble_eq_true rfl⟩) (PreW.pre (G := G) (W0 := WM G a (mkJ (qTr c) (qTx c) (qTy c) (qNe c) (qTo c) (qPl c) (qVa c) (qFa c) (qN c) (qSo c) (qVo c) (qBi c) (qHo c) (qTd c) (qS c) (upd (qS c) 16 0) (qKe c) (qIk c) (qUn c) (qUm c) (qRb c) (qRi c) (qRm c))) ⟨hP, hK, hN⟩ (ci := 8) (q0 := 0) rfl rfl) rfl rfl hl.1 rfl (lv_room (Nat.le_of_ble_eq_true rfl)) dX8_who_22 ⟨hrc, hrs⟩) ?_
    refine W.eq (g2 := F0 m 25 ls [.int (b2i (jRec ((qN c) 0) (qSo c) (qVo c) (qBi c) (upd (qS c) 16 0) (qRb c) (qRi c) (qRm c)))]) rfl ?_
    refine lv_if_eq (tgt := 33) hx hb dX8_who_25 (by decide) (fun c25 => ?_) (fun c25 => ?_)
    · have c25 := b2i_f c25
      refine lv_iconst (v := 0) hx hb dX8_who_33 (by decide) ?_
      exact k34 0 (by simp [yWhoP, c25])
    · have c25 := b2i_t c25
      refine lv_bipush (v := 32) hx hb dX8_who_28 (by decide) ?_
      refine lv_goto (tgt := 34) hx hb dX8_who_30 (by decide) ?_
      exact k34 32 (by simp [yWhoP, c25])

theorem hdV_X8_swaps : yX8_swaps.cls = RX8 ∧ yX8_swaps.cls ≠ "java/lang/invoke/MethodHandle" ∧ yX8_swaps.cls ≠ "java/lang/invoke/VarHandle" ∧ (parseMethodDescriptor yX8_swaps.desc).map (fun d => d.parameters.length) = some 1 := by decide +kernel
set_option maxHeartbeats 600000 in
set_option maxRecDepth 100000 in
theorem c_X8_swaps (l : Launch) (G : GG) (a : Nat → Nat) (c : JX) (hc : OkJ c) (b : Int32) (sz : Nat) : Met l yX8_swaps wsX8_swaps ({ frames := 3, cells := 0, slots := 0, locals := 68 }) (va_Pc [.ref (a 0), .int b] (fun U => PreM G (WM G a c) sz U U.heap)) (Qm G.1 vwCl (some (.int (ySwaps c b).1)) (WM G a ((ySwaps c b).2)) (va_A (WM G a c) sz)) 0 0 (va_A (WM G a c) sz) := by
  refine Met.ofW (cc := cX8_swaps) (maxL := 5) (ret := (some .int)) (by decide) rfl ?_
  intro p e s m args below meth cd s₁ BB hml hv
  obtain ⟨rfl, ⟨hP, hK, hN⟩, hD0, hsz⟩ := hv
  have hx := BB.exec
  have hb := BB.bytes
  have hr := BB.returns
  have hts := atoms_spec (ws := wsX8_swaps) BB.pre
  have hown : s.vm.findClass RX8 = some m.cls := findClass_of_methodNamed BB.named
  have hlocks := BB.notSynchronized
  have hrc : 0 + 0 ≤ (headSpec wsX8_swaps ({ frames := 3, cells := 0, slots := 0, locals := 68 })).room.cells := Nat.le_refl _
  have hrs : 0 + 0 ≤ (headSpec wsX8_swaps ({ frames := 3, cells := 0, slots := 0, locals := 68 })).room.slots := Nat.le_refl _
  subst hsz
  have hD := hD0.self (sz := s.heap.size)
  generalize hAe : va_A (WM G a c) s.heap.size = A at hD ⊢
  have hA : ∀ q : Nat, s.heap.size ≤ q → A q := fun q h => by rw [← hAe]; exact Or.inr h
  have hS : va_S A s.heap s.heap [] := va_S.rf
  obtain ⟨hk7, ho1, ho5, hl200, hr6, hu10⟩ := id hc
  have hin8 : ∀ w ∈ u_ws RX8 TX8 24, w ∈ wsX8_swaps := by decide +kernel
  have hf13 := hts (.fieldLink RX8 13 "RegaliaVotesModel" "many" "[I") (by decide +kernel)
  have hf28 := hts (.fieldLink RX8 28 "RegaliaVotesModel" "s" "[I") (by decide +kernel)
  have hf31 := hts (.fieldLink RX8 31 "RegaliaVotesModel" "w" "[I") (by decide +kernel)
  have hf50 := hts (.fieldLink RX8 50 "RegaliaVotesModel" "thrown" "I") (by decide +kernel)
  refine wk_enter (n := 5) (Nat.le_of_ble_eq_true rfl) (fun ls hl => ?_)
  have hl : lv_has ls 5 [(0, .ref (a 0)), (1, .int b)] := hl
  refine lv_aload_n hx hb dX8_swaps_0 rfl (lv_at hl 0 rfl) ?_
  refine lv_iconst (v := 0) hx hb dX8_swaps_1 (by decide) ?_
  refine va_put (D := G.1) (v := .int 0) (ty := .int) hx hb hts hin8 tyX8 tyX8_ok nmX8 hown hK hP hD hS 0 (WM_0 G a c) rfl 0 (by decide) hf50 (fun _ h => h) rfl (by decide +kernel) rfl rfl (Nat.le_of_ble_eq_true rfl) dX8_swaps_2 (fun H locs hP hD hS => ?_)
  rw [WM_p0_0] at hP hD
  refine lv_iload_n hx hb dX8_swaps_5 rfl (lv_at hl 1 rfl) ?_
  refine wk_read (va_runS (As := [.int b]) (rest := []) ⟨hx, hb, hml, hown, hts⟩ (c_X8_isBill l b) (va_cwS 1 hts gX8_swaps_X8_isBill rfl rfl rfl hdS_X8_isBill ⟨Nat.le_of_ble_eq_true rfl, Nat.le_of_ble_eq_true rfl⟩) preEq rfl rfl hl.1 rfl (lv_room (Nat.le_of_ble_eq_true rfl)) dX8_swaps_6 ⟨hrc, hrs⟩) ?_
  refine lv_if_ne (tgt := 14) hx hb dX8_swaps_9 (by decide) (fun c9 => ?_) (fun c9 => ?_)
  · have c9 := b2i_t c9
    refine lv_iconst (v := 0) hx hb dX8_swaps_14 (by decide) ?_
    refine lv_istore_n (lv' := [(2, .int 0), (0, .ref (a 0)), (1, .int b)]) hx hb dX8_swaps_15 rfl hl (by decide) rfl (fun ls hl => ?_)
    refine lv_iconst (v := 0) hx hb dX8_swaps_16 (by decide) ?_
    refine lv_istore_n (lv' := [(3, .int 0), (2, .int 0), (0, .ref (a 0)), (1, .int b)]) hx hb dX8_swaps_17 rfl hl (by decide) rfl (fun ls hl => ?_)
    have hP : va_P G.1 vwCl (WM G a (mkJ (qTr c) (qTx c) (qTy c) (qNe c) (qTo c) (qPl c) (qVa c) (qFa c) (qN c) (qSo c) (qVo c) (qBi c) (qHo c) (qTd c) (qS c) (qW c) (qKe c) (qIk c) (qUn c) (qUm c) (qRb c) (qRi c) (qRm c))) H := by rw [mkJ_c]; exact hP
    have hD : va_D A (WM G a (mkJ (qTr c) (qTx c) (qTy c) (qNe c) (qTo c) (qPl c) (qVa c) (qFa c) (qN c) (qSo c) (qVo c) (qBi c) (qHo c) (qTd c) (qS c) (qW c) (qKe c) (qIk c) (qUn c) (qUm c) (qRb c) (qRi c) (qRm c))) := by rw [mkJ_c]; exact hD
    refine wk_loopM (σ := Nat × Int32 × Ar) (nL := 5) (fun xσ n => match xσ with | (t, z, w) => t + n = qN c 0 ∧ (z, w) = ySwF c b t) (fun xσ => match xσ with | (t, z, w) => [(3, .int (nI t)), (2, .int z), (0, .ref (a 0)), (1, .int b)]) (fun xσ => match xσ with | (t, z, w) => WM G a (mkJ (qTr c) (qTx c) (qTy c) (qNe c) (qTo c) (qPl c) (qVa c) (qFa c) (qN c) (qSo c) (qVo c) (qBi c) (qHo c) (qTd c) (qS c) w (qKe c) (qIk c) (qUn c) (qUm c) (qRb c) (qRi c) (qRm c))) (0, 0, qW c) (qN c 0) (⟨by omega, rfl⟩) hl hP hD hS ?_
    rintro n18 ⟨t, z, w⟩ ls H locs hI18 hl hP hD hS ih18
    have hl : lv_has ls 5 [(3, .int (nI t)), (2, .int z), (0, .ref (a 0)), (1, .int b)] := hl
    have hP : va_P G.1 vwCl (WM G a (mkJ (qTr c) (qTx c) (qTy c) (qNe c) (qTo c) (qPl c) (qVa c) (qFa c) (qN c) (qSo c) (qVo c) (qBi c) (qHo c) (qTd c) (qS c) w (qKe c) (qIk c) (qUn c) (qUm c) (qRb c) (qRi c) (qRm c))) H := hP
    have hD : va_D A (WM G a (mkJ (qTr c) (qTx c) (qTy c) (qNe c) (qTo c) (qPl c) (qVa c) (qFa c) (qN c) (qSo c) (qVo c) (qBi c) (qHo c) (qTd c) (qS c) w (qKe c) (qIk c) (qUn c) (qUm c) (qRb c) (qRi c) (qRm c))) := hD
    obtain ⟨ht, hz⟩ := hI18
    refine lv_iload_n hx hb dX8_swaps_18 rfl (lv_at hl 0 rfl) ?_
    refine lv_aload_n hx hb dX8_swaps_19 rfl (lv_at hl 2 rfl) ?_
    refine va_get (D := G.1) (v := .ref (a 1)) hx hb hts hin8 hown hK hP 0 (WM_0 G a (mkJ (qTr c) (qTx c) (qTy c) (qNe c) (qTo c) (qPl c) (qVa c) (qFa c) (qN c) (qSo c) (qVo c) (qBi c) (qHo c) (qTd c) (qS c) w (qKe c) (qIk c) (qUn c) (qUm c) (qRb c) (qRi c) (qRm c))) rfl 9 (by decide) hf13 (fun _ h => h) rfl dX8_swaps_20 ?_
    refine lv_iconst (v := 0) hx hb dX8_swaps_23 (by decide) ?_
    refine wk_iald (i := 0) hx hb hK hP 1 1 (WM_1 G a (mkJ (qTr c) (qTx c) (qTy c) (qNe c) (qTo c) (qPl c) (qVa c) (qFa c) (qN c) (qSo c) (qVo c) (qBi c) (qHo c) (qTd c) (qS c) w (qKe c) (qIk c) (qUn c) (qUm c) (qRb c) (qRi c) (qRm c))) rfl (by omega) (Nat.le_of_ble_eq_true rfl) dX8_swaps_24 ?_
    refine wk_ge (x := t) (y := (qN c 0)) (tgt := 136) hx hb (by omega) (by omega) dX8_swaps_25 (by decide) (fun c25 => ?_) (fun c25 => ?_)
    · refine lv_iload_n hx hb dX8_swaps_136 rfl (lv_at hl 1 rfl) ?_
      have hq : ySwaps c b = (z, mkJ (qTr c) (qTx c) (qTy c) (qNe c) (qTo c) (qPl c) (qVa c) (qFa c) (qN c) (qSo c) (qVo c) (qBi c) (qHo c) (qTd c) (qS c) w (qKe c) (qIk c) (qUn c) (qUm c) (qRb c) (qRi c) (qRm c)) := by rw [ySwaps, if_pos c9, show qN c 0 = t by omega, ← hz]; rfl
      exact wk_mret' hx hb hr hlocks dX8_swaps_137 hP hS (congrArg (fun z => some (Value.int z.1)) hq) (congrArg (fun z => WM G a z.2) hq)
    · refine lv_iconst (v := 0) hx hb dX8_swaps_28 (by decide) ?_
      refine lv_istore (lv' := [(4, .int 0), (3, .int (nI t)), (2, .int z), (0, .ref (a 0)), (1, .int b)]) hx hb dX8_swaps_29 hl (by decide) rfl (fun ls hl => ?_)
      refine wk_loopM (σ := Nat × Int32 × Ar) (nL := 5) (fun xσ n => match xσ with | (e, y, v) => e + n = t ∧ (y, v) = ySwG c b t (z, w) e) (fun xσ => match xσ with | (e, y, v) => [(4, .int (nI e)), (3, .int (nI t)), (2, .int y), (0, .ref (a 0)), (1, .int b)]) (fun xσ => match xσ with | (e, y, v) => WM G a (mkJ (qTr c) (qTx c) (qTy c) (qNe c) (qTo c) (qPl c) (qVa c) (qFa c) (qN c) (qSo c) (qVo c) (qBi c) (qHo c) (qTd c) (qS c) v (qKe c) (qIk c) (qUn c) (qUm c) (qRb c) (qRi c) (qRm c))) (0, z, w) t (⟨by omega, rfl⟩) hl hP hD hS ?_
      rintro n31 ⟨e, y, v⟩ ls H locs hI31 hl hP hD hS ih31
      have hl : lv_has ls 5 [(4, .int (nI e)), (3, .int (nI t)), (2, .int y), (0, .ref (a 0)), (1, .int b)] := hl
      have hP : va_P G.1 vwCl (WM G a (mkJ (qTr c) (qTx c) (qTy c) (qNe c) (qTo c) (qPl c) (qVa c) (qFa c) (qN c) (qSo c) (qVo c) (qBi c) (qHo c) (qTd c) (qS c) v (qKe c) (qIk c) (qUn c) (qUm c) (qRb c) (qRi c) (qRm c))) H := hP
      have hD : va_D A (WM G a (mkJ (qTr c) (qTx c) (qTy c) (qNe c) (qTo c) (qPl c) (qVa c) (qFa c) (qN c) (qSo c) (qVo c) (qBi c) (qHo c) (qTd c) (qS c) v (qKe c) (qIk c) (qUn c) (qUm c) (qRb c) (qRi c) (qRm c))) := hD
      obtain ⟨he, hy⟩ := hI31
      refine lv_iload hx hb dX8_swaps_31 (lv_at hl 0 rfl) ?_
      refine lv_iload_n hx hb dX8_swaps_33 rfl (lv_at hl 1 rfl) ?_
      refine wk_ge (x := e) (y := t) (tgt := 130) hx hb (by omega) (by omega) dX8_swaps_34 (by decide) (fun c34 => ?_) (fun c34 => ?_)
      · refine lv_iinc (v := (nI (t + 1))) (lv' := [(3, .int (nI (t + 1))), (4, .int (nI e)), (2, .int y), (0, .ref (a 0)), (1, .int b)]) hx hb dX8_swaps_130 hl (k := 1) rfl (wk_i1 t) (by decide) rfl (fun ls hl => ?_)
        refine lv_goto (tgt := 18) hx hb dX8_swaps_133 (by decide) ?_
        exact ih18 (t + 1, y, v) (n18 - 1) ls H _ (by omega) (⟨by omega, by rw [hy, hz, show e = t by omega]; rfl⟩) (lv_sub hl [0, 2, 3, 4] rfl) hP hD hS
      · refine lv_aload_n hx hb dX8_swaps_37 rfl (lv_at hl 3 rfl) ?_
        refine wk_callA (va_runV (As := []) (rest := []) ⟨hx, hb, hml, hown, hts⟩ (c_X8_asNow l G a (mkJ (qTr c) (qTx c) (qTy c) (qNe c) (qTo c) (qPl c) (qVa c) (qFa c) (qN c) (qSo c) (qVo c) (qBi c) (qHo c) (qTd c) (qS c) v (qKe c) (qIk c) (qUn c) (qUm c) (qRb c) (qRi c) (qRm c)) (okJ_mk (by omega) (by omega) (by omega) (by omega) (by omega) (by omega)) H.size) (cwV 0 hts gX8_swaps_X8_asNow rfl rfl rfl hdV_X8_asNow ⟨Nat.le_of_ble_eq_true rfl, Nat.le_of_ble_eq_true rfl⟩) ((PreM.mk hP hK hN hD).pre (ci := 8) (q0 := 0) rfl (WM_0 G a (mkJ (qTr c) (qTx c) (qTy c) (qNe c) (qTo c) (qPl c) (qVa c) (qFa c) (qN c) (qSo c) (qVo c) (qBi c) (qHo c) (qTd c) (qS c) v (qKe c) (qIk c) (qUn c) (qUm c) (qRb c) (qRi c) (qRm c)))) rfl rfl hl.1 rfl (lv_room (Nat.le_of_ble_eq_true rfl)) dX8_swaps_38 ⟨hrc, hrs⟩) hD hS hA WM_fst (fun H locs hP hD hS => ?_)
        rw [wW_k] at hP hD
        replace hP : va_P G.1 vwCl (WM G a (mkJ (qTr c) (qTx c) (qTy c) (qNe c) (qTo c) (qPl c) (qVa c) (qFa c) (qN c) (qSo c) (qVo c) (qBi c) (qHo c) (qTd c) (qS c) (qS c) (qKe c) (qIk c) (qUn c) (qUm c) (qRb c) (qRi c) (qRm c))) H := hP
        replace hD : va_D A (WM G a (mkJ (qTr c) (qTx c) (qTy c) (qNe c) (qTo c) (qPl c) (qVa c) (qFa c) (qN c) (qSo c) (qVo c) (qBi c) (qHo c) (qTd c) (qS c) (qS c) (qKe c) (qIk c) (qUn c) (qUm c) (qRb c) (qRi c) (qRm c))) := hD
        refine W.eq (g2 := F0 m 41 ls []) rfl ?_
        refine lv_aload_n hx hb dX8_swaps_41 rfl (lv_at hl 3 rfl) ?_
        refine va_get (D := G.1) (v := .ref (a 6)) hx hb hts hin8 hown hK hP 0 (WM_0 G a (mkJ (qTr c) (qTx c) (qTy c) (qNe c) (qTo c) (qPl c) (qVa c) (qFa c) (qN c) (qSo c) (qVo c) (qBi c) (qHo c) (qTd c) (qS c) (qS c) (qKe c) (qIk c) (qUn c) (qUm c) (qRb c) (qRi c) (qRm c))) rfl 16 (by decide) hf31 (fun _ h => h) rfl dX8_swaps_42 ?_
        refine lv_iconst (v := 0) hx hb dX8_swaps_45 (by decide) ?_
        refine lv_iload_n hx hb dX8_swaps_46 rfl (lv_at hl 1 rfl) ?_
        refine wk_add0 (x := t) hx hb dX8_swaps_47 ?_
        refine lv_aload_n hx hb dX8_swaps_48 rfl (lv_at hl 3 rfl) ?_
        refine va_get (D := G.1) (v := .ref (a 5)) hx hb hts hin8 hown hK hP 0 (WM_0 G a (mkJ (qTr c) (qTx c) (qTy c) (qNe c) (qTo c) (qPl c) (qVa c) (qFa c) (qN c) (qSo c) (qVo c) (qBi c) (qHo c) (qTd c) (qS c) (qS c) (qKe c) (qIk c) (qUn c) (qUm c) (qRb c) (qRi c) (qRm c))) rfl 15 (by decide) hf28 (fun _ h => h) rfl dX8_swaps_49 ?_
        refine lv_iconst (v := 0) hx hb dX8_swaps_52 (by decide) ?_
        refine lv_iload hx hb dX8_swaps_53 (lv_at hl 0 rfl) ?_
        refine wk_add0 (x := e) hx hb dX8_swaps_55 ?_
        refine wk_iald (i := e) hx hb hK hP 5 1 (WM_5 G a (mkJ (qTr c) (qTx c) (qTy c) (qNe c) (qTo c) (qPl c) (qVa c) (qFa c) (qN c) (qSo c) (qVo c) (qBi c) (qHo c) (qTd c) (qS c) (qS c) (qKe c) (qIk c) (qUn c) (qUm c) (qRb c) (qRi c) (qRm c))) rfl (by omega) (Nat.le_of_ble_eq_true rfl) dX8_swaps_56 ?_
        refine wk_iast (i := t) hx hb hK hP hD hS 6 1 (WM_6 G a (mkJ (qTr c) (qTx c) (qTy c) (qNe c) (qTo c) (qPl c) (qVa c) (qFa c) (qN c) (qSo c) (qVo c) (qBi c) (qHo c) (qTd c) (qS c) (qS c) (qKe c) (qIk c) (qUn c) (qUm c) (qRb c) (qRi c) (qRm c))) rfl (by omega) (Nat.le_of_ble_eq_true rfl) dX8_swaps_57 (fun H locs hP hD hS => ?_)
        rw [WMk_p6] at hP hD
        replace hP : va_P G.1 vwCl (WM G a (mkJ (qTr c) (qTx c) (qTy c) (qNe c) (qTo c) (qPl c) (qVa c) (qFa c) (qN c) (qSo c) (qVo c) (qBi c) (qHo c) (qTd c) (qS c) (upd (qS c) t (qS c e)) (qKe c) (qIk c) (qUn c) (qUm c) (qRb c) (qRi c) (qRm c))) H := hP
        replace hD : va_D A (WM G a (mkJ (qTr c) (qTx c) (qTy c) (qNe c) (qTo c) (qPl c) (qVa c) (qFa c) (qN c) (qSo c) (qVo c) (qBi c) (qHo c) (qTd c) (qS c) (upd (qS c) t (qS c e)) (qKe c) (qIk c) (qUn c) (qUm c) (qRb c) (qRi c) (qRm c))) := hD
        refine lv_aload_n hx hb dX8_swaps_58 rfl (lv_at hl 3 rfl) ?_
        refine va_get (D := G.1) (v := .ref (a 6)) hx hb hts hin8 hown hK hP 0 (WM_0 G a (mkJ (qTr c) (qTx c) (qTy c) (qNe c) (qTo c) (qPl c) (qVa c) (qFa c) (qN c) (qSo c) (qVo c) (qBi c) (qHo c) (qTd c) (qS c) (upd (qS c) t (qS c e)) (qKe c) (qIk c) (qUn c) (qUm c) (qRb c) (qRi c) (qRm c))) rfl 16 (by decide) hf31 (fun _ h => h) rfl dX8_swaps_59 ?_
        refine lv_iconst (v := 0) hx hb dX8_swaps_62 (by decide) ?_
        refine lv_iload hx hb dX8_swaps_63 (lv_at hl 0 rfl) ?_
        refine wk_add0 (x := e) hx hb dX8_swaps_65 ?_
        refine lv_aload_n hx hb dX8_swaps_66 rfl (lv_at hl 3 rfl) ?_
        refine va_get (D := G.1) (v := .ref (a 5)) hx hb hts hin8 hown hK hP 0 (WM_0 G a (mkJ (qTr c) (qTx c) (qTy c) (qNe c) (qTo c) (qPl c) (qVa c) (qFa c) (qN c) (qSo c) (qVo c) (qBi c) (qHo c) (qTd c) (qS c) (upd (qS c) t (qS c e)) (qKe c) (qIk c) (qUn c) (qUm c) (qRb c) (qRi c) (qRm c))) rfl 15 (by decide) hf28 (fun _ h => h) rfl dX8_swaps_67 ?_
        refine lv_iconst (v := 0) hx hb dX8_swaps_70 (by decide) ?_
        refine lv_iload_n hx hb dX8_swaps_71 rfl (lv_at hl 1 rfl) ?_
        refine wk_add0 (x := t) hx hb dX8_swaps_72 ?_
        refine wk_iald (i := t) hx hb hK hP 5 1 (WM_5 G a (mkJ (qTr c) (qTx c) (qTy c) (qNe c) (qTo c) (qPl c) (qVa c) (qFa c) (qN c) (qSo c) (qVo c) (qBi c) (qHo c) (qTd c) (qS c) (upd (qS c) t (qS c e)) (qKe c) (qIk c) (qUn c) (qUm c) (qRb c) (qRi c) (qRm c))) rfl (by omega) (Nat.le_of_ble_eq_true rfl) dX8_swaps_73 ?_
        refine wk_iast (i := e) hx hb hK hP hD hS 6 1 (WM_6 G a (mkJ (qTr c) (qTx c) (qTy c) (qNe c) (qTo c) (qPl c) (qVa c) (qFa c) (qN c) (qSo c) (qVo c) (qBi c) (qHo c) (qTd c) (qS c) (upd (qS c) t (qS c e)) (qKe c) (qIk c) (qUn c) (qUm c) (qRb c) (qRi c) (qRm c))) rfl (by omega) (Nat.le_of_ble_eq_true rfl) dX8_swaps_74 (fun H locs hP hD hS => ?_)
        rw [WMk_p6] at hP hD
        replace hP : va_P G.1 vwCl (WM G a (mkJ (qTr c) (qTx c) (qTy c) (qNe c) (qTo c) (qPl c) (qVa c) (qFa c) (qN c) (qSo c) (qVo c) (qBi c) (qHo c) (qTd c) (qS c) (upd (upd (qS c) t (qS c e)) e (qS c t)) (qKe c) (qIk c) (qUn c) (qUm c) (qRb c) (qRi c) (qRm c))) H := hP
        replace hD : va_D A (WM G a (mkJ (qTr c) (qTx c) (qTy c) (qNe c) (qTo c) (qPl c) (qVa c) (qFa c) (qN c) (qSo c) (qVo c) (qBi c) (qHo c) (qTd c) (qS c) (upd (upd (qS c) t (qS c e)) e (qS c t)) (qKe c) (qIk c) (qUn c) (qUm c) (qRb c) (qRi c) (qRm c))) := hD
        refine lv_iload_n hx hb dX8_swaps_75 rfl (lv_at hl 2 rfl) ?_
        refine lv_aload_n hx hb dX8_swaps_76 rfl (lv_at hl 3 rfl) ?_
        refine va_get (D := G.1) (v := .ref (a 5)) hx hb hts hin8 hown hK hP 0 (WM_0 G a (mkJ (qTr c) (qTx c) (qTy c) (qNe c) (qTo c) (qPl c) (qVa c) (qFa c) (qN c) (qSo c) (qVo c) (qBi c) (qHo c) (qTd c) (qS c) (upd (upd (qS c) t (qS c e)) e (qS c t)) (qKe c) (qIk c) (qUn c) (qUm c) (qRb c) (qRi c) (qRm c))) rfl 15 (by decide) hf28 (fun _ h => h) rfl dX8_swaps_77 ?_
        refine lv_iconst (v := 0) hx hb dX8_swaps_80 (by decide) ?_
        refine lv_iload_n hx hb dX8_swaps_81 rfl (lv_at hl 1 rfl) ?_
        refine wk_add0 (x := t) hx hb dX8_swaps_82 ?_
        refine wk_iald (i := t) hx hb hK hP 5 1 (WM_5 G a (mkJ (qTr c) (qTx c) (qTy c) (qNe c) (qTo c) (qPl c) (qVa c) (qFa c) (qN c) (qSo c) (qVo c) (qBi c) (qHo c) (qTd c) (qS c) (upd (upd (qS c) t (qS c e)) e (qS c t)) (qKe c) (qIk c) (qUn c) (qUm c) (qRb c) (qRi c) (qRm c))) rfl (by omega) (Nat.le_of_ble_eq_true rfl) dX8_swaps_83 ?_
        refine lv_aload_n hx hb dX8_swaps_84 rfl (lv_at hl 3 rfl) ?_
        refine va_get (D := G.1) (v := .ref (a 5)) hx hb hts hin8 hown hK hP 0 (WM_0 G a (mkJ (qTr c) (qTx c) (qTy c) (qNe c) (qTo c) (qPl c) (qVa c) (qFa c) (qN c) (qSo c) (qVo c) (qBi c) (qHo c) (qTd c) (qS c) (upd (upd (qS c) t (qS c e)) e (qS c t)) (qKe c) (qIk c) (qUn c) (qUm c) (qRb c) (qRi c) (qRm c))) rfl 15 (by decide) hf28 (fun _ h => h) rfl dX8_swaps_85 ?_
        refine lv_iconst (v := 0) hx hb dX8_swaps_88 (by decide) ?_
        refine lv_iload hx hb dX8_swaps_89 (lv_at hl 0 rfl) ?_
        refine wk_add0 (x := e) hx hb dX8_swaps_91 ?_
        refine wk_iald (i := e) hx hb hK hP 5 1 (WM_5 G a (mkJ (qTr c) (qTx c) (qTy c) (qNe c) (qTo c) (qPl c) (qVa c) (qFa c) (qN c) (qSo c) (qVo c) (qBi c) (qHo c) (qTd c) (qS c) (upd (upd (qS c) t (qS c e)) e (qS c t)) (qKe c) (qIk c) (qUn c) (qUm c) (qRb c) (qRi c) (qRm c))) rfl (by omega) (Nat.le_of_ble_eq_true rfl) dX8_swaps_92 ?_
        refine lv_icmp_eq (tgt := 121) hx hb dX8_swaps_93 (by decide) (fun c93 => ?_) (fun c93 => ?_)
        · replace c93 : qS c t = qS c e := c93
          refine lv_iconst (v := 0) hx hb dX8_swaps_121 (by decide) ?_
          refine lv_iadd hx hb dX8_swaps_122 ?_
          refine lv_istore_n (lv' := [(2, .int (y + 0)), (4, .int (nI e)), (3, .int (nI t)), (0, .ref (a 0)), (1, .int b)]) hx hb dX8_swaps_123 rfl hl (by decide) rfl (fun ls hl => ?_)
          refine lv_iinc (v := (nI (e + 1))) (lv' := [(4, .int (nI (e + 1))), (2, .int (y + 0)), (3, .int (nI t)), (0, .ref (a 0)), (1, .int b)]) hx hb dX8_swaps_124 hl (k := 1) rfl (wk_i1 e) (by decide) rfl (fun ls hl => ?_)
          refine lv_goto (tgt := 31) hx hb dX8_swaps_127 (by decide) ?_
          exact ih31 (e + 1, (y + 0), jSwR (qS c) t e) (n31 - 1) ls H _ (by omega) (⟨by omega, by rw [ySwG, fo_s, ← ySwG, ← hy]; simp [ySwP, jSwR, c93]⟩) (lv_sub hl [0, 2, 1, 3, 4] rfl) hP hD hS
        · replace c93 : ¬ qS c t = qS c e := c93
          refine lv_aload_n hx hb dX8_swaps_96 rfl (lv_at hl 3 rfl) ?_
          refine lv_aload_n hx hb dX8_swaps_97 rfl (lv_at hl 3 rfl) ?_
          refine va_get (D := G.1) (v := .ref (a 6)) hx hb hts hin8 hown hK hP 0 (WM_0 G a (mkJ (qTr c) (qTx c) (qTy c) (qNe c) (qTo c) (qPl c) (qVa c) (qFa c) (qN c) (qSo c) (qVo c) (qBi c) (qHo c) (qTd c) (qS c) (upd (upd (qS c) t (qS c e)) e (qS c t)) (qKe c) (qIk c) (qUn c) (qUm c) (qRb c) (qRi c) (qRm c))) rfl 16 (by decide) hf31 (fun _ h => h) rfl dX8_swaps_98 ?_
          refine lv_iload_n hx hb dX8_swaps_101 rfl (lv_at hl 4 rfl) ?_
          refine wk_read (va_runV (As := [.ref (a 6), .int b]) (rest := [.int y]) ⟨hx, hb, hml, hown, hts⟩ (c_X8_passes l G a (mkJ (qTr c) (qTx c) (qTy c) (qNe c) (qTo c) (qPl c) (qVa c) (qFa c) (qN c) (qSo c) (qVo c) (qBi c) (qHo c) (qTd c) (qS c) (upd (upd (qS c) t (qS c e)) e (qS c t)) (qKe c) (qIk c) (qUn c) (qUm c) (qRb c) (qRi c) (qRm c)) (okJ_mk (by omega) (by omega) (by omega) (by omega) (by omega) (by omega)) b true) (cwV 2 hts gX8_swaps_X8_passes rfl rfl rfl hdV_X8_passes ⟨Nat.le_of_ble_eq_true rfl, Nat.le_of_ble_eq_true rfl⟩) (PreW.pre (G := G) (W0 := WM G a (mkJ (qTr c) (qTx c) (qTy c) (qNe c) (qTo c) (qPl c) (qVa c) (qFa c) (qN c) (qSo c) (qVo c) (qBi c) (qHo c) (qTd c) (qS c) (upd (upd (qS c) t (qS c e)) e (qS c t)) (qKe c) (qIk c) (qUn c) (qUm c) (qRb c) (qRi c) (qRm c))) ⟨hP, hK, hN⟩ (ci := 8) (q0 := 0) rfl rfl) rfl rfl hl.1 rfl (lv_room (Nat.le_of_ble_eq_true rfl)) dX8_swaps_102 ⟨hrc, hrs⟩) ?_
          refine W.eq (g2 := F0 m 105 ls [.int (b2i (jPas ((qN c) 0) (qSo c) (qVo c) (qBi c) (upd (upd (qS c) t (qS c e)) e (qS c t)) b)), .int y]) rfl ?_
          refine lv_aload_n hx hb dX8_swaps_105 rfl (lv_at hl 3 rfl) ?_
          refine lv_aload_n hx hb dX8_swaps_106 rfl (lv_at hl 3 rfl) ?_
          refine va_get (D := G.1) (v := .ref (a 5)) hx hb hts hin8 hown hK hP 0 (WM_0 G a (mkJ (qTr c) (qTx c) (qTy c) (qNe c) (qTo c) (qPl c) (qVa c) (qFa c) (qN c) (qSo c) (qVo c) (qBi c) (qHo c) (qTd c) (qS c) (upd (upd (qS c) t (qS c e)) e (qS c t)) (qKe c) (qIk c) (qUn c) (qUm c) (qRb c) (qRi c) (qRm c))) rfl 15 (by decide) hf28 (fun _ h => h) rfl dX8_swaps_107 ?_
          refine lv_iload_n hx hb dX8_swaps_110 rfl (lv_at hl 4 rfl) ?_
          refine wk_read (va_runV (As := [.ref (a 5), .int b]) (rest := [.int (b2i (jPas ((qN c) 0) (qSo c) (qVo c) (qBi c) (upd (upd (qS c) t (qS c e)) e (qS c t)) b)), .int y]) ⟨hx, hb, hml, hown, hts⟩ (c_X8_passes l G a (mkJ (qTr c) (qTx c) (qTy c) (qNe c) (qTo c) (qPl c) (qVa c) (qFa c) (qN c) (qSo c) (qVo c) (qBi c) (qHo c) (qTd c) (qS c) (upd (upd (qS c) t (qS c e)) e (qS c t)) (qKe c) (qIk c) (qUn c) (qUm c) (qRb c) (qRi c) (qRm c)) (okJ_mk (by omega) (by omega) (by omega) (by omega) (by omega) (by omega)) b false) (cwV 2 hts gX8_swaps_X8_passes rfl rfl rfl hdV_X8_passes ⟨Nat.le_of_ble_eq_true rfl, Nat.le_of_ble_eq_true rfl⟩) (PreW.pre (G := G) (W0 := WM G a (mkJ (qTr c) (qTx c) (qTy c) (qNe c) (qTo c) (qPl c) (qVa c) (qFa c) (qN c) (qSo c) (qVo c) (qBi c) (qHo c) (qTd c) (qS c) (upd (upd (qS c) t (qS c e)) e (qS c t)) (qKe c) (qIk c) (qUn c) (qUm c) (qRb c) (qRi c) (qRm c))) ⟨hP, hK, hN⟩ (ci := 8) (q0 := 0) rfl rfl) rfl rfl hl.1 rfl (lv_room (Nat.le_of_ble_eq_true rfl)) dX8_swaps_111 ⟨hrc, hrs⟩) ?_
          refine W.eq (g2 := F0 m 114 ls [.int (b2i (jPas ((qN c) 0) (qSo c) (qVo c) (qBi c) (qS c) b)), .int (b2i (jPas ((qN c) 0) (qSo c) (qVo c) (qBi c) (upd (upd (qS c) t (qS c e)) e (qS c t)) b)), .int y]) rfl ?_
          refine lv_icmp_eq (tgt := 121) hx hb dX8_swaps_114 (by decide) (fun c114 => ?_) (fun c114 => ?_)
          · have c114 := b2i_inj c114
            refine lv_iconst (v := 0) hx hb dX8_swaps_121 (by decide) ?_
            refine lv_iadd hx hb dX8_swaps_122 ?_
            refine lv_istore_n (lv' := [(2, .int (y + 0)), (4, .int (nI e)), (3, .int (nI t)), (0, .ref (a 0)), (1, .int b)]) hx hb dX8_swaps_123 rfl hl (by decide) rfl (fun ls hl => ?_)
            refine lv_iinc (v := (nI (e + 1))) (lv' := [(4, .int (nI (e + 1))), (2, .int (y + 0)), (3, .int (nI t)), (0, .ref (a 0)), (1, .int b)]) hx hb dX8_swaps_124 hl (k := 1) rfl (wk_i1 e) (by decide) rfl (fun ls hl => ?_)
            refine lv_goto (tgt := 31) hx hb dX8_swaps_127 (by decide) ?_
            exact ih31 (e + 1, (y + 0), jSwR (qS c) t e) (n31 - 1) ls H _ (by omega) (⟨by omega, by rw [ySwG, fo_s, ← ySwG, ← hy]; simp [ySwP, jSwR, c93, c114]⟩) (lv_sub hl [0, 2, 1, 3, 4] rfl) hP hD hS
          · have c114 := b2i_ninj c114
            refine lv_iconst (v := 1) hx hb dX8_swaps_117 (by decide) ?_
            refine lv_goto (tgt := 122) hx hb dX8_swaps_118 (by decide) ?_
            refine lv_iadd hx hb dX8_swaps_122 ?_
            refine lv_istore_n (lv' := [(2, .int (y + 1)), (4, .int (nI e)), (3, .int (nI t)), (0, .ref (a 0)), (1, .int b)]) hx hb dX8_swaps_123 rfl hl (by decide) rfl (fun ls hl => ?_)
            refine lv_iinc (v := (nI (e + 1))) (lv' := [(4, .int (nI (e + 1))), (2, .int (y + 1)), (3, .int (nI t)), (0, .ref (a 0)), (1, .int b)]) hx hb dX8_swaps_124 hl (k := 1) rfl (wk_i1 e) (by decide) rfl (fun ls hl => ?_)
            refine lv_goto (tgt := 31) hx hb dX8_swaps_127 (by decide) ?_
            exact ih31 (e + 1, (y + 1), jSwR (qS c) t e) (n31 - 1) ls H _ (by omega) (⟨by omega, by rw [ySwG, fo_s, ← ySwG, ← hy]; simp [ySwP, jSwR, c93, c114]⟩) (lv_sub hl [0, 2, 1, 3, 4] rfl) hP hD hS
  · have c9 := b2i_f c9
    refine lv_iconst (v := -1) hx hb dX8_swaps_12 (by decide) ?_
    have hq : ySwaps c b = ((-1), c) := by (simp only [ySwaps, c9, if_true, if_false, reduceIte, not_true_eq_false, not_false_eq_true, Bool.and_true, Bool.true_and, Bool.and_self, Bool.and_false, Bool.false_and, Bool.false_eq_true]) <;> rfl
    exact wk_mret' hx hb hr hlocks dX8_swaps_13 hP hS (congrArg (fun z => some (Value.int z.1)) hq) (congrArg (fun z => WM G a z.2) hq)

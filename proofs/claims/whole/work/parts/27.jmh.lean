theorem hdV_X8_isFor : yX8_isFor.cls = RX8 ∧ yX8_isFor.cls ≠ "java/lang/invoke/MethodHandle" ∧ yX8_isFor.cls ≠ "java/lang/invoke/VarHandle" ∧ (parseMethodDescriptor yX8_isFor.desc).map (fun d => d.parameters.length) = some 2 := by decide +kernel
set_option maxHeartbeats 600000 in
set_option maxRecDepth 100000 in
theorem c_X8_isFor (l : Launch) (G : GG) (a : Nat → Nat) (c : JX) (hc : OkJ c) (t : Int32) (w : Int32) (sz : Nat) : Met l yX8_isFor wsX8_isFor ({ frames := 4, cells := 0, slots := 0, locals := 91 }) (va_Pc [.ref (a 0), .int t, .int w] (fun U => PreM G (WM G a c) sz U U.heap)) (Qm G.1 vwCl (some (.int (yIsFor c t w))) (WM G a c) (va_A (WM G a c) sz)) 0 0 (va_A (WM G a c) sz) := by
  refine Met.ofW (cc := cX8_isFor) (maxL := 7) (ret := (some .int)) (by decide) rfl ?_
  intro p e s m args below meth cd s₁ BB hml hv
  obtain ⟨rfl, ⟨hP, hK, hN⟩, hD0, hsz⟩ := hv
  have hx := BB.exec
  have hb := BB.bytes
  have hr := BB.returns
  have hts := atoms_spec (ws := wsX8_isFor) BB.pre
  have hown : s.vm.findClass RX8 = some m.cls := findClass_of_methodNamed BB.named
  have hlocks := BB.notSynchronized
  have hrc : 0 + 0 ≤ (headSpec wsX8_isFor ({ frames := 4, cells := 0, slots := 0, locals := 91 })).room.cells := Nat.le_refl _
  have hrs : 0 + 0 ≤ (headSpec wsX8_isFor ({ frames := 4, cells := 0, slots := 0, locals := 91 })).room.slots := Nat.le_refl _
  subst hsz
  have hD := hD0.self (sz := s.heap.size)
  generalize hAe : va_A (WM G a c) s.heap.size = A at hD ⊢
  have hA : ∀ q : Nat, s.heap.size ≤ q → A q := fun q h => by rw [← hAe]; exact Or.inr h
  have hS : va_S A s.heap s.heap [] := va_S.rf
  obtain ⟨hk7, ho1, ho5, hl200, hr6, hu10⟩ := id hc
  have hin8 : ∀ w ∈ u_ws RX8 TX8 24, w ∈ wsX8_isFor := by decide +kernel
  have hf22 := hts (.fieldLink RX8 22 "RegaliaVotesModel" "bills" "[I") (by decide +kernel)
  have hf28 := hts (.fieldLink RX8 28 "RegaliaVotesModel" "s" "[I") (by decide +kernel)
  have hf50 := hts (.fieldLink RX8 50 "RegaliaVotesModel" "thrown" "I") (by decide +kernel)
  refine wk_enter (n := 7) (Nat.le_of_ble_eq_true rfl) (fun ls hl => ?_)
  have hl : lv_has ls 7 [(0, .ref (a 0)), (1, .int t), (2, .int w)] := hl
  refine lv_aload_n hx hb dX8_isFor_0 rfl (lv_at hl 0 rfl) ?_
  refine lv_iconst (v := 0) hx hb dX8_isFor_1 (by decide) ?_
  refine va_put (D := G.1) (v := .int 0) (ty := .int) hx hb hts hin8 tyX8 tyX8_ok nmX8 hown hK hP hD hS 0 (WM_0 G a c) rfl 0 (by decide) hf50 (fun _ h => h) rfl (by decide +kernel) rfl rfl (Nat.le_of_ble_eq_true rfl) dX8_isFor_2 (fun H locs hP hD hS => ?_)
  rw [WM_p0_0] at hP hD
  refine lv_aload_n hx hb dX8_isFor_5 rfl (lv_at hl 0 rfl) ?_
  refine lv_iload_n hx hb dX8_isFor_6 rfl (lv_at hl 1 rfl) ?_
  refine wk_read (va_runV (As := [.int t]) (rest := []) ⟨hx, hb, hml, hown, hts⟩ (c_X8_isThing l G a c hc t) (cwV 1 hts gX8_isFor_X8_isThing rfl rfl rfl hdV_X8_isThing ⟨Nat.le_of_ble_eq_true rfl, Nat.le_of_ble_eq_true rfl⟩) (PreW.pre (G := G) (W0 := WM G a c) ⟨hP, hK, hN⟩ (ci := 8) (q0 := 0) rfl rfl) rfl rfl hl.1 rfl (lv_room (Nat.le_of_ble_eq_true rfl)) dX8_isFor_7 ⟨hrc, hrs⟩) ?_
  refine lv_if_eq (tgt := 22) hx hb dX8_isFor_10 (by decide) (fun c10 => ?_) (fun c10 => ?_)
  · have c10 := b2i_f c10
    refine lv_iconst (v := -1) hx hb dX8_isFor_22 (by decide) ?_
    exact wk_mret' hx hb hr hlocks dX8_isFor_23 hP hS (congrArg (fun z => some (Value.int z)) (show yIsFor c t w = (-1) from by (simp only [yIsFor, c10, if_true, if_false, reduceIte, not_true_eq_false, not_false_eq_true, Bool.and_true, Bool.true_and, Bool.and_self, Bool.and_false, Bool.false_and, Bool.false_eq_true]) <;> simp [])) (rfl)
  · have c10 := b2i_t c10
    obtain ⟨j, hj, rfl⟩ := jIsT_n c10 hk7
    have hcl := nI_clamp (show j < 2 ^ 31 by omega)
    refine lv_iload_n hx hb dX8_isFor_13 rfl (lv_at hl 2 rfl) ?_
    refine lv_iconst (v := 0) hx hb dX8_isFor_14 (by decide) ?_
    refine lv_iconst (v := 1) hx hb dX8_isFor_15 (by decide) ?_
    refine wk_read (va_runS (As := [.int w, .int 0, .int 1]) (rest := []) ⟨hx, hb, hml, hown, hts⟩ (c_X8_in l w 0 1) (va_cwS 3 hts gX8_isFor_X8_in rfl rfl rfl hdS_X8_in ⟨Nat.le_of_ble_eq_true rfl, Nat.le_of_ble_eq_true rfl⟩) preEq rfl rfl hl.1 rfl (lv_room (Nat.le_of_ble_eq_true rfl)) dX8_isFor_16 ⟨hrc, hrs⟩) ?_
    refine lv_if_ne (tgt := 24) hx hb dX8_isFor_19 (by decide) (fun c19 => ?_) (fun c19 => ?_)
    · have c19 := b2i_t c19
      refine lv_aload_n hx hb dX8_isFor_24 rfl (lv_at hl 0 rfl) ?_
      refine va_get (D := G.1) (v := .ref (a 4)) hx hb hts hin8 hown hK hP 0 (WM_0 G a c) rfl 12 (by decide) hf22 (fun _ h => h) rfl dX8_isFor_25 ?_
      refine lv_iload_n hx hb dX8_isFor_28 rfl (lv_at hl 1 rfl) ?_
      refine wk_iald (i := j) hx hb hK hP 4 1 (WM_4 G a c) rfl (by omega) (Nat.le_of_ble_eq_true rfl) dX8_isFor_29 ?_
      refine lv_istore_n (lv' := [(3, .int (qBi c j)), (0, .ref (a 0)), (1, .int (nI j)), (2, .int w)]) hx hb dX8_isFor_30 rfl hl (by decide) rfl (fun ls hl => ?_)
      refine lv_iconst (v := 0) hx hb dX8_isFor_31 (by decide) ?_
      refine lv_istore (lv' := [(4, .int 0), (3, .int (qBi c j)), (0, .ref (a 0)), (1, .int (nI j)), (2, .int w)]) hx hb dX8_isFor_32 hl (by decide) rfl (fun ls hl => ?_)
      refine lv_bipush (v := -9) hx hb dX8_isFor_34 (by decide) ?_
      refine lv_istore (lv' := [(5, .int (-9)), (4, .int 0), (3, .int (qBi c j)), (0, .ref (a 0)), (1, .int (nI j)), (2, .int w)]) hx hb dX8_isFor_36 hl (by decide) rfl (fun ls hl => ?_)
      refine lv_iconst (v := 0) hx hb dX8_isFor_38 (by decide) ?_
      refine lv_istore (lv' := [(6, .int 0), (5, .int (-9)), (4, .int 0), (3, .int (qBi c j)), (0, .ref (a 0)), (1, .int (nI j)), (2, .int w)]) hx hb dX8_isFor_39 hl (by decide) rfl (fun ls hl => ?_)
      have hP : va_P G.1 vwCl (WM G a (mkJ (qTr c) (qTx c) (qTy c) (qNe c) (qTo c) (qPl c) (qVa c) (qFa c) (qN c) (qSo c) (qVo c) (qBi c) (qHo c) (qTd c) (qS c) (qW c) (qKe c) (qIk c) (qUn c) (qUm c) (qRb c) (qRi c) (qRm c))) H := by rw [mkJ_c]; exact hP
      have hD : va_D A (WM G a (mkJ (qTr c) (qTx c) (qTy c) (qNe c) (qTo c) (qPl c) (qVa c) (qFa c) (qN c) (qSo c) (qVo c) (qBi c) (qHo c) (qTd c) (qS c) (qW c) (qKe c) (qIk c) (qUn c) (qUm c) (qRb c) (qRi c) (qRm c))) := by rw [mkJ_c]; exact hD
      refine wk_loopM (σ := Nat × Nat × Int32 × Ar) (nL := 7) (fun xσ n => match xσ with | (i, k, z, B) => i + n = 32 ∧ (k, z) = jFir (yIsP c j) i ∧ ∀ x, upd B j x = upd (qBi c) j x) (fun xσ => match xσ with | (i, k, z, B) => [(6, .int (nI i)), (5, .int z), (4, .int (nI k)), (3, .int (qBi c j)), (0, .ref (a 0)), (1, .int (nI j)), (2, .int w)]) (fun xσ => match xσ with | (i, k, z, B) => WM G a (mkJ (qTr c) (qTx c) (qTy c) (qNe c) (qTo c) (qPl c) (qVa c) (qFa c) (qN c) (qSo c) (qVo c) B (qHo c) (qTd c) (qS c) (qW c) (qKe c) (qIk c) (qUn c) (qUm c) (qRb c) (qRi c) (qRm c))) (0, 0, -9, qBi c) 32 (⟨by omega, rfl, fun x => rfl⟩) hl hP hD hS ?_
      rintro n41 ⟨i, k, z, B⟩ ls H locs hI41 hl hP hD hS ih41
      have hl : lv_has ls 7 [(6, .int (nI i)), (5, .int z), (4, .int (nI k)), (3, .int (qBi c j)), (0, .ref (a 0)), (1, .int (nI j)), (2, .int w)] := hl
      have hP : va_P G.1 vwCl (WM G a (mkJ (qTr c) (qTx c) (qTy c) (qNe c) (qTo c) (qPl c) (qVa c) (qFa c) (qN c) (qSo c) (qVo c) B (qHo c) (qTd c) (qS c) (qW c) (qKe c) (qIk c) (qUn c) (qUm c) (qRb c) (qRi c) (qRm c))) H := hP
      have hD : va_D A (WM G a (mkJ (qTr c) (qTx c) (qTy c) (qNe c) (qTo c) (qPl c) (qVa c) (qFa c) (qN c) (qSo c) (qVo c) B (qHo c) (qTd c) (qS c) (qW c) (qKe c) (qIk c) (qUn c) (qUm c) (qRb c) (qRi c) (qRm c))) := hD
      obtain ⟨hi, hz, hB⟩ := hI41
      have hk9 := jFir_n (yIsP c j) i
      rw [← hz] at hk9
      have hk9 : k ≤ i := hk9
      refine lv_iload hx hb dX8_isFor_41 (lv_at hl 0 rfl) ?_
      refine lv_bipush (v := 32) hx hb dX8_isFor_43 (by decide) ?_
      refine wk_ge (x := i) (y := 32) (tgt := 90) hx hb (by omega) (by omega) dX8_isFor_45 (by decide) (fun c45 => ?_) (fun c45 => ?_)
      · refine lv_aload_n hx hb dX8_isFor_90 rfl (lv_at hl 4 rfl) ?_
        refine va_get (D := G.1) (v := .ref (a 4)) hx hb hts hin8 hown hK hP 0 (WM_0 G a (mkJ (qTr c) (qTx c) (qTy c) (qNe c) (qTo c) (qPl c) (qVa c) (qFa c) (qN c) (qSo c) (qVo c) B (qHo c) (qTd c) (qS c) (qW c) (qKe c) (qIk c) (qUn c) (qUm c) (qRb c) (qRi c) (qRm c))) rfl 12 (by decide) hf22 (fun _ h => h) rfl dX8_isFor_91 ?_
        refine lv_iload_n hx hb dX8_isFor_94 rfl (lv_at hl 5 rfl) ?_
        refine lv_iload_n hx hb dX8_isFor_95 rfl (lv_at hl 3 rfl) ?_
        refine wk_iast (i := j) hx hb hK hP hD hS 4 1 (WM_4 G a (mkJ (qTr c) (qTx c) (qTy c) (qNe c) (qTo c) (qPl c) (qVa c) (qFa c) (qN c) (qSo c) (qVo c) B (qHo c) (qTd c) (qS c) (qW c) (qKe c) (qIk c) (qUn c) (qUm c) (qRb c) (qRi c) (qRm c))) rfl (by omega) (Nat.le_of_ble_eq_true rfl) dX8_isFor_96 (fun H locs hP hD hS => ?_)
        rw [WMk_p4] at hP hD
        replace hP : va_P G.1 vwCl (WM G a (mkJ (qTr c) (qTx c) (qTy c) (qNe c) (qTo c) (qPl c) (qVa c) (qFa c) (qN c) (qSo c) (qVo c) (upd (B) j (qBi c j)) (qHo c) (qTd c) (qS c) (qW c) (qKe c) (qIk c) (qUn c) (qUm c) (qRb c) (qRi c) (qRm c))) H := hP
        replace hD : va_D A (WM G a (mkJ (qTr c) (qTx c) (qTy c) (qNe c) (qTo c) (qPl c) (qVa c) (qFa c) (qN c) (qSo c) (qVo c) (upd (B) j (qBi c j)) (qHo c) (qTd c) (qS c) (qW c) (qKe c) (qIk c) (qUn c) (qUm c) (qRb c) (qRi c) (qRm c))) := hD
        rw [hB, upd_self, mkJ_c] at hP hD
        refine lv_iload_n hx hb dX8_isFor_97 rfl (lv_at hl 6 rfl) ?_
        refine lv_if_ne (tgt := 106) hx hb dX8_isFor_98 (by decide) (fun c98 => ?_) (fun c98 => ?_)
        · refine lv_iload hx hb dX8_isFor_106 (lv_at hl 1 rfl) ?_
          exact wk_mret' hx hb hr hlocks dX8_isFor_108 hP hS (congrArg (fun z => some (Value.int z)) (show yIsFor c (nI j) w = z from by rw [yIsFor, c10, c19, hcl, show 32 = i by omega, ← hz]; simp [c98])) (rfl)
        · refine lv_iload hx hb dX8_isFor_101 (lv_at hl 2 rfl) ?_
          refine lv_goto (tgt := 108) hx hb dX8_isFor_103 (by decide) ?_
          exact wk_mret' hx hb hr hlocks dX8_isFor_108 hP hS (congrArg (fun z => some (Value.int z)) (show yIsFor c (nI j) w = (nI k) from by rw [yIsFor, c10, c19, hcl, show 32 = i by omega, ← hz]; simp [c98])) (rfl)
      · refine lv_aload_n hx hb dX8_isFor_48 rfl (lv_at hl 4 rfl) ?_
        refine va_get (D := G.1) (v := .ref (a 4)) hx hb hts hin8 hown hK hP 0 (WM_0 G a (mkJ (qTr c) (qTx c) (qTy c) (qNe c) (qTo c) (qPl c) (qVa c) (qFa c) (qN c) (qSo c) (qVo c) B (qHo c) (qTd c) (qS c) (qW c) (qKe c) (qIk c) (qUn c) (qUm c) (qRb c) (qRi c) (qRm c))) rfl 12 (by decide) hf22 (fun _ h => h) rfl dX8_isFor_49 ?_
        refine lv_iload_n hx hb dX8_isFor_52 rfl (lv_at hl 5 rfl) ?_
        refine lv_iload hx hb dX8_isFor_53 (lv_at hl 0 rfl) ?_
        refine wk_iast (i := j) hx hb hK hP hD hS 4 1 (WM_4 G a (mkJ (qTr c) (qTx c) (qTy c) (qNe c) (qTo c) (qPl c) (qVa c) (qFa c) (qN c) (qSo c) (qVo c) B (qHo c) (qTd c) (qS c) (qW c) (qKe c) (qIk c) (qUn c) (qUm c) (qRb c) (qRi c) (qRm c))) rfl (by omega) (Nat.le_of_ble_eq_true rfl) dX8_isFor_55 (fun H locs hP hD hS => ?_)
        rw [WMk_p4] at hP hD
        replace hP : va_P G.1 vwCl (WM G a (mkJ (qTr c) (qTx c) (qTy c) (qNe c) (qTo c) (qPl c) (qVa c) (qFa c) (qN c) (qSo c) (qVo c) (upd (B) j (nI i)) (qHo c) (qTd c) (qS c) (qW c) (qKe c) (qIk c) (qUn c) (qUm c) (qRb c) (qRi c) (qRm c))) H := hP
        replace hD : va_D A (WM G a (mkJ (qTr c) (qTx c) (qTy c) (qNe c) (qTo c) (qPl c) (qVa c) (qFa c) (qN c) (qSo c) (qVo c) (upd (B) j (nI i)) (qHo c) (qTd c) (qS c) (qW c) (qKe c) (qIk c) (qUn c) (qUm c) (qRb c) (qRi c) (qRm c))) := hD
        rw [hB] at hP hD
        refine lv_aload_n hx hb dX8_isFor_56 rfl (lv_at hl 4 rfl) ?_
        refine lv_aload_n hx hb dX8_isFor_57 rfl (lv_at hl 4 rfl) ?_
        refine va_get (D := G.1) (v := .ref (a 5)) hx hb hts hin8 hown hK hP 0 (WM_0 G a (mkJ (qTr c) (qTx c) (qTy c) (qNe c) (qTo c) (qPl c) (qVa c) (qFa c) (qN c) (qSo c) (qVo c) (upd (qBi c) j (nI i)) (qHo c) (qTd c) (qS c) (qW c) (qKe c) (qIk c) (qUn c) (qUm c) (qRb c) (qRi c) (qRm c))) rfl 15 (by decide) hf28 (fun _ h => h) rfl dX8_isFor_58 ?_
        refine wk_read (va_runV (As := [.ref (a 5)]) (rest := []) ⟨hx, hb, hml, hown, hts⟩ (c_X8_isAsRecorded l G a (mkJ (qTr c) (qTx c) (qTy c) (qNe c) (qTo c) (qPl c) (qVa c) (qFa c) (qN c) (qSo c) (qVo c) (upd (qBi c) j (nI i)) (qHo c) (qTd c) (qS c) (qW c) (qKe c) (qIk c) (qUn c) (qUm c) (qRb c) (qRi c) (qRm c)) (okJ_mk (by omega) (by omega) (by omega) (by omega) (by omega) (by omega))  false) (cwV 1 hts gX8_isFor_X8_isAsRecorded rfl rfl rfl hdV_X8_isAsRecorded ⟨Nat.le_of_ble_eq_true rfl, Nat.le_of_ble_eq_true rfl⟩) (PreW.pre (G := G) (W0 := WM G a (mkJ (qTr c) (qTx c) (qTy c) (qNe c) (qTo c) (qPl c) (qVa c) (qFa c) (qN c) (qSo c) (qVo c) (upd (qBi c) j (nI i)) (qHo c) (qTd c) (qS c) (qW c) (qKe c) (qIk c) (qUn c) (qUm c) (qRb c) (qRi c) (qRm c))) ⟨hP, hK, hN⟩ (ci := 8) (q0 := 0) rfl rfl) rfl rfl hl.1 rfl (lv_room (Nat.le_of_ble_eq_true rfl)) dX8_isFor_61 ⟨hrc, hrs⟩) ?_
        refine W.eq (g2 := F0 m 64 ls [.int (b2i (jRec ((qN c) 0) (qSo c) (qVo c) (upd (qBi c) j (nI i)) (qS c) (qRb c) (qRi c) (qRm c)))]) rfl ?_
        refine lv_if_eq (tgt := 84) hx hb dX8_isFor_64 (by decide) (fun c64 => ?_) (fun c64 => ?_)
        · have c64 := b2i_f c64
          refine lv_iinc (v := (nI (i + 1))) (lv' := [(6, .int (nI (i + 1))), (5, .int z), (4, .int (nI k)), (3, .int (qBi c j)), (0, .ref (a 0)), (1, .int (nI j)), (2, .int w)]) hx hb dX8_isFor_84 hl (k := 0) rfl (wk_i1 i) (by decide) rfl (fun ls hl => ?_)
          refine lv_goto (tgt := 41) hx hb dX8_isFor_87 (by decide) ?_
          exact ih41 (i + 1, k, z, upd (qBi c) j (nI i)) (n41 - 1) ls H _ (by omega) (⟨by omega, by rw [jFir, fo_s, ← jFir, ← hz]; simp [yIsP, c64], fun x => by rw [upd_upd]⟩) (lv_sub hl [0, 1, 2, 3, 4, 5, 6] rfl) hP hD hS
        · have c64 := b2i_t c64
          refine lv_iload hx hb dX8_isFor_67 (lv_at hl 2 rfl) ?_
          refine lv_if_ne (tgt := 77) hx hb dX8_isFor_69 (by decide) (fun c69 => ?_) (fun c69 => ?_)
          · have c69 := nI_nz c69
            refine lv_iload hx hb dX8_isFor_77 (lv_at hl 1 rfl) ?_
            refine lv_istore (lv' := [(5, .int z), (6, .int (nI i)), (4, .int (nI k)), (3, .int (qBi c j)), (0, .ref (a 0)), (1, .int (nI j)), (2, .int w)]) hx hb dX8_isFor_79 hl (by decide) rfl (fun ls hl => ?_)
            refine lv_iinc (v := (nI (k + 1))) (lv' := [(4, .int (nI (k + 1))), (5, .int z), (6, .int (nI i)), (3, .int (qBi c j)), (0, .ref (a 0)), (1, .int (nI j)), (2, .int w)]) hx hb dX8_isFor_81 hl (k := 2) rfl (wk_i1 k) (by decide) rfl (fun ls hl => ?_)
            refine lv_iinc (v := (nI (i + 1))) (lv' := [(6, .int (nI (i + 1))), (4, .int (nI (k + 1))), (5, .int z), (3, .int (qBi c j)), (0, .ref (a 0)), (1, .int (nI j)), (2, .int w)]) hx hb dX8_isFor_84 hl (k := 2) rfl (wk_i1 i) (by decide) rfl (fun ls hl => ?_)
            refine lv_goto (tgt := 41) hx hb dX8_isFor_87 (by decide) ?_
            exact ih41 (i + 1, (k + 1), z, upd (qBi c) j (nI i)) (n41 - 1) ls H _ (by omega) (⟨by omega, by rw [jFir, fo_s, ← jFir, ← hz]; simp [yIsP, c64, Nat.ne_of_gt c69], fun x => by rw [upd_upd]⟩) (lv_sub hl [0, 2, 1, 3, 4, 5, 6] rfl) hP hD hS
          · have c69 := nI_z (by omega) c69
            refine lv_iload hx hb dX8_isFor_72 (lv_at hl 0 rfl) ?_
            refine lv_goto (tgt := 79) hx hb dX8_isFor_74 (by decide) ?_
            refine lv_istore (lv' := [(5, .int (nI i)), (6, .int (nI i)), (4, .int (nI k)), (3, .int (qBi c j)), (0, .ref (a 0)), (1, .int (nI j)), (2, .int w)]) hx hb dX8_isFor_79 hl (by decide) rfl (fun ls hl => ?_)
            refine lv_iinc (v := (nI (k + 1))) (lv' := [(4, .int (nI (k + 1))), (5, .int (nI i)), (6, .int (nI i)), (3, .int (qBi c j)), (0, .ref (a 0)), (1, .int (nI j)), (2, .int w)]) hx hb dX8_isFor_81 hl (k := 2) rfl (wk_i1 k) (by decide) rfl (fun ls hl => ?_)
            refine lv_iinc (v := (nI (i + 1))) (lv' := [(6, .int (nI (i + 1))), (4, .int (nI (k + 1))), (5, .int (nI i)), (3, .int (qBi c j)), (0, .ref (a 0)), (1, .int (nI j)), (2, .int w)]) hx hb dX8_isFor_84 hl (k := 2) rfl (wk_i1 i) (by decide) rfl (fun ls hl => ?_)
            refine lv_goto (tgt := 41) hx hb dX8_isFor_87 (by decide) ?_
            exact ih41 (i + 1, (k + 1), (nI i), upd (qBi c) j (nI i)) (n41 - 1) ls H _ (by omega) (⟨by omega, by rw [jFir, fo_s, ← jFir, ← hz]; simp [yIsP, c64, c69], fun x => by rw [upd_upd]⟩) (lv_sub hl [0, 2, 1, 3, 4, 5, 6] rfl) hP hD hS
    · have c19 := b2i_f c19
      refine lv_iconst (v := -1) hx hb dX8_isFor_22 (by decide) ?_
      exact wk_mret' hx hb hr hlocks dX8_isFor_23 hP hS (congrArg (fun z => some (Value.int z)) (show yIsFor c (nI j) w = (-1) from by (simp only [yIsFor, hcl, c10, c19, if_true, if_false, reduceIte, not_true_eq_false, not_false_eq_true, Bool.and_true, Bool.true_and, Bool.and_self, Bool.and_false, Bool.false_and, Bool.false_eq_true]) <;> simp [])) (rfl)

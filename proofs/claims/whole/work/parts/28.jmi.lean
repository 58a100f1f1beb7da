theorem hdV_X8_hand : yX8_hand.cls = RX8 ∧ yX8_hand.cls ≠ "java/lang/invoke/MethodHandle" ∧ yX8_hand.cls ≠ "java/lang/invoke/VarHandle" ∧ (parseMethodDescriptor yX8_hand.desc).map (fun d => d.parameters.length) = some 1 := by decide +kernel
set_option maxHeartbeats 600000 in
set_option maxRecDepth 100000 in
theorem c_X8_hand (l : Launch) (G : GG) (a : Nat → Nat) (c : JX) (hc : OkJ c) (b : Int32) (sz : Nat) : Met l yX8_hand wsX8_hand ({ frames := 3, cells := 0, slots := 0, locals := 68 }) (va_Pc [.ref (a 0), .int b] (fun U => PreM G (WM G a c) sz U U.heap)) (Qm G.1 vwCl (some (.int (yHand c b).1)) (WM G a ((yHand c b).2)) (va_A (WM G a c) sz)) 0 0 (va_A (WM G a c) sz) := by
  refine Met.ofW (cc := cX8_hand) (maxL := 8) (ret := (some .int)) (by decide) rfl ?_
  intro p e s m args below meth cd s₁ BB hml hv
  obtain ⟨rfl, ⟨hP, hK, hN⟩, hD0, hsz⟩ := hv
  have hx := BB.exec
  have hb := BB.bytes
  have hr := BB.returns
  have hts := atoms_spec (ws := wsX8_hand) BB.pre
  have hown : s.vm.findClass RX8 = some m.cls := findClass_of_methodNamed BB.named
  have hlocks := BB.notSynchronized
  have hrc : 0 + 0 ≤ (headSpec wsX8_hand ({ frames := 3, cells := 0, slots := 0, locals := 68 })).room.cells := Nat.le_refl _
  have hrs : 0 + 0 ≤ (headSpec wsX8_hand ({ frames := 3, cells := 0, slots := 0, locals := 68 })).room.slots := Nat.le_refl _
  subst hsz
  have hD := hD0.self (sz := s.heap.size)
  generalize hAe : va_A (WM G a c) s.heap.size = A at hD ⊢
  have hA : ∀ q : Nat, s.heap.size ≤ q → A q := fun q h => by rw [← hAe]; exact Or.inr h
  have hS : va_S A s.heap s.heap [] := va_S.rf
  obtain ⟨hk7, ho1, ho5, hl200, hr6, hu10⟩ := id hc
  have hin8 : ∀ w ∈ u_ws RX8 TX8 24, w ∈ wsX8_hand := by decide +kernel
  have hf13 := hts (.fieldLink RX8 13 "RegaliaVotesModel" "many" "[I") (by decide +kernel)
  have hf28 := hts (.fieldLink RX8 28 "RegaliaVotesModel" "s" "[I") (by decide +kernel)
  have hf31 := hts (.fieldLink RX8 31 "RegaliaVotesModel" "w" "[I") (by decide +kernel)
  have hf50 := hts (.fieldLink RX8 50 "RegaliaVotesModel" "thrown" "I") (by decide +kernel)
  refine wk_enter (n := 8) (Nat.le_of_ble_eq_true rfl) (fun ls hl => ?_)
  have hl : lv_has ls 8 [(0, .ref (a 0)), (1, .int b)] := hl
  refine lv_aload_n hx hb dX8_hand_0 rfl (lv_at hl 0 rfl) ?_
  refine lv_iconst (v := 0) hx hb dX8_hand_1 (by decide) ?_
  refine va_put (D := G.1) (v := .int 0) (ty := .int) hx hb hts hin8 tyX8 tyX8_ok nmX8 hown hK hP hD hS 0 (WM_0 G a c) rfl 0 (by decide) hf50 (fun _ h => h) rfl (by decide +kernel) rfl rfl (Nat.le_of_ble_eq_true rfl) dX8_hand_2 (fun H locs hP hD hS => ?_)
  rw [WM_p0_0] at hP hD
  refine lv_iload_n hx hb dX8_hand_5 rfl (lv_at hl 1 rfl) ?_
  refine wk_read (va_runS (As := [.int b]) (rest := []) ⟨hx, hb, hml, hown, hts⟩ (c_X8_isBill l b) (va_cwS 1 hts gX8_hand_X8_isBill rfl rfl rfl hdS_X8_isBill ⟨Nat.le_of_ble_eq_true rfl, Nat.le_of_ble_eq_true rfl⟩) preEq rfl rfl hl.1 rfl (lv_room (Nat.le_of_ble_eq_true rfl)) dX8_hand_6 ⟨hrc, hrs⟩) ?_
  refine lv_if_ne (tgt := 14) hx hb dX8_hand_9 (by decide) (fun c9 => ?_) (fun c9 => ?_)
  · have c9 := b2i_t c9
    refine lv_bipush (v := -9) hx hb dX8_hand_14 (by decide) ?_
    refine lv_istore_n (lv' := [(2, .int (-9)), (0, .ref (a 0)), (1, .int b)]) hx hb dX8_hand_16 rfl hl (by decide) rfl (fun ls hl => ?_)
    refine lv_iconst (v := 0) hx hb dX8_hand_17 (by decide) ?_
    refine lv_istore_n (lv' := [(3, .int 0), (2, .int (-9)), (0, .ref (a 0)), (1, .int b)]) hx hb dX8_hand_18 rfl hl (by decide) rfl (fun ls hl => ?_)
    refine lv_iconst (v := 0) hx hb dX8_hand_19 (by decide) ?_
    refine lv_istore (lv' := [(4, .int 0), (3, .int 0), (2, .int (-9)), (0, .ref (a 0)), (1, .int b)]) hx hb dX8_hand_20 hl (by decide) rfl (fun ls hl => ?_)
    refine wk_loop (σ := Nat × Int32 × Int32) (nL := 8) (fun xσ n => match xσ with | (o, x, y) => o + n = qN c 1 ∧ x = jWelF (qS c) o ∧ y = jOfsF (qN c 0) (qS c) o) (fun xσ => match xσ with | (o, x, y) => [(4, .int (nI o)), (3, .int y), (2, .int x), (0, .ref (a 0)), (1, .int b)]) (0, -9, 0) (qN c 1) (⟨by omega, rfl, rfl⟩) hl ?_
    rintro n22 ⟨o, x, y⟩ ls hI22 hl ih22
    have hl : lv_has ls 8 [(4, .int (nI o)), (3, .int y), (2, .int x), (0, .ref (a 0)), (1, .int b)] := hl
    obtain ⟨ho, hx9, hy9⟩ := hI22
    refine lv_iload hx hb dX8_hand_22 (lv_at hl 0 rfl) ?_
    refine lv_aload_n hx hb dX8_hand_24 rfl (lv_at hl 3 rfl) ?_
    refine va_get (D := G.1) (v := .ref (a 1)) hx hb hts hin8 hown hK hP 0 (WM_0 G a c) rfl 9 (by decide) hf13 (fun _ h => h) rfl dX8_hand_25 ?_
    refine lv_iconst (v := 1) hx hb dX8_hand_28 (by decide) ?_
    refine wk_iald (i := 1) hx hb hK hP 1 1 (WM_1 G a c) rfl (by omega) (Nat.le_of_ble_eq_true rfl) dX8_hand_29 ?_
    refine wk_ge (x := o) (y := (qN c 1)) (tgt := 92) hx hb (by omega) (by omega) dX8_hand_30 (by decide) (fun c30 => ?_) (fun c30 => ?_)
    · obtain rfl : o = qN c 1 := by omega
      refine lv_bipush (v := -9) hx hb dX8_hand_92 (by decide) ?_
      refine lv_istore (lv' := [(4, .int (-9)), (3, .int y), (2, .int x), (0, .ref (a 0)), (1, .int b)]) hx hb dX8_hand_94 hl (by decide) rfl (fun ls hl => ?_)
      refine lv_iconst (v := 0) hx hb dX8_hand_96 (by decide) ?_
      refine lv_istore (lv' := [(5, .int 0), (4, .int (-9)), (3, .int y), (2, .int x), (0, .ref (a 0)), (1, .int b)]) hx hb dX8_hand_97 hl (by decide) rfl (fun ls hl => ?_)
      have hP : va_P G.1 vwCl (WM G a (mkJ (qTr c) (qTx c) (qTy c) (qNe c) (qTo c) (qPl c) (qVa c) (qFa c) (qN c) (qSo c) (qVo c) (qBi c) (qHo c) (qTd c) (qS c) (qW c) (qKe c) (qIk c) (qUn c) (qUm c) (qRb c) (qRi c) (qRm c))) H := by rw [mkJ_c]; exact hP
      have hD : va_D A (WM G a (mkJ (qTr c) (qTx c) (qTy c) (qNe c) (qTo c) (qPl c) (qVa c) (qFa c) (qN c) (qSo c) (qVo c) (qBi c) (qHo c) (qTd c) (qS c) (qW c) (qKe c) (qIk c) (qUn c) (qUm c) (qRb c) (qRi c) (qRm c))) := by rw [mkJ_c]; exact hD
      refine wk_loopM (σ := Nat × Int32 × Ar) (nL := 8) (fun xσ n => match xσ with | (i, its, w) => i + n = 128 ∧ (its, w) = yHaG c b x y i) (fun xσ => match xσ with | (i, its, w) => [(5, .int (nI i)), (4, .int its), (3, .int y), (2, .int x), (0, .ref (a 0)), (1, .int b)]) (fun xσ => match xσ with | (i, its, w) => WM G a (mkJ (qTr c) (qTx c) (qTy c) (qNe c) (qTo c) (qPl c) (qVa c) (qFa c) (qN c) (qSo c) (qVo c) (qBi c) (qHo c) (qTd c) (qS c) w (qKe c) (qIk c) (qUn c) (qUm c) (qRb c) (qRi c) (qRm c))) (0, -9, qW c) 128 (⟨by omega, rfl⟩) hl hP hD hS ?_
      rintro n99 ⟨i, its, w⟩ ls H locs hI99 hl hP hD hS ih99
      have hl : lv_has ls 8 [(5, .int (nI i)), (4, .int its), (3, .int y), (2, .int x), (0, .ref (a 0)), (1, .int b)] := hl
      have hP : va_P G.1 vwCl (WM G a (mkJ (qTr c) (qTx c) (qTy c) (qNe c) (qTo c) (qPl c) (qVa c) (qFa c) (qN c) (qSo c) (qVo c) (qBi c) (qHo c) (qTd c) (qS c) w (qKe c) (qIk c) (qUn c) (qUm c) (qRb c) (qRi c) (qRm c))) H := hP
      have hD : va_D A (WM G a (mkJ (qTr c) (qTx c) (qTy c) (qNe c) (qTo c) (qPl c) (qVa c) (qFa c) (qN c) (qSo c) (qVo c) (qBi c) (qHo c) (qTd c) (qS c) w (qKe c) (qIk c) (qUn c) (qUm c) (qRb c) (qRi c) (qRm c))) := hD
      obtain ⟨hi, hz⟩ := hI99
      refine lv_iload hx hb dX8_hand_99 (lv_at hl 0 rfl) ?_
      refine lv_sipush (v := 128) hx hb dX8_hand_101 (by decide) ?_
      refine wk_ge (x := i) (y := 128) (tgt := 248) hx hb (by omega) (by omega) dX8_hand_104 (by decide) (fun c104 => ?_) (fun c104 => ?_)
      · refine lv_iload hx hb dX8_hand_248 (lv_at hl 1 rfl) ?_
        have hq : yHand c b = (its, mkJ (qTr c) (qTx c) (qTy c) (qNe c) (qTo c) (qPl c) (qVa c) (qFa c) (qN c) (qSo c) (qVo c) (qBi c) (qHo c) (qTd c) (qS c) w (qKe c) (qIk c) (qUn c) (qUm c) (qRb c) (qRi c) (qRm c)) := by rw [yHand, if_pos c9, yHaF, ← hx9, ← hy9, show 128 = i by omega, ← hz]; rfl
        exact wk_mret' hx hb hr hlocks dX8_hand_250 hP hS (congrArg (fun z => some (Value.int z.1)) hq) (congrArg (fun z => WM G a z.2) hq)
      · refine wk_cut 152 [] (fun z => z = b2i (jMay i y x its)) (fun x152 hx152 => ?_) (fun k152 => ?_)
        · subst hx152
          refine lv_istore (lv' := [(6, .int (b2i (jMay i y x its))), (5, .int (nI i)), (4, .int its), (3, .int y), (2, .int x), (0, .ref (a 0)), (1, .int b)]) hx hb dX8_hand_152 hl (by decide) rfl (fun ls hl => ?_)
          refine lv_aload_n hx hb dX8_hand_154 rfl (lv_at hl 5 rfl) ?_
          refine wk_callA (va_runV (As := []) (rest := []) ⟨hx, hb, hml, hown, hts⟩ (c_X8_asNow l G a (mkJ (qTr c) (qTx c) (qTy c) (qNe c) (qTo c) (qPl c) (qVa c) (qFa c) (qN c) (qSo c) (qVo c) (qBi c) (qHo c) (qTd c) (qS c) w (qKe c) (qIk c) (qUn c) (qUm c) (qRb c) (qRi c) (qRm c)) (okJ_mk (by omega) (by omega) (by omega) (by omega) (by omega) (by omega)) H.size) (cwV 0 hts gX8_hand_X8_asNow rfl rfl rfl hdV_X8_asNow ⟨Nat.le_of_ble_eq_true rfl, Nat.le_of_ble_eq_true rfl⟩) ((PreM.mk hP hK hN hD).pre (ci := 8) (q0 := 0) rfl (WM_0 G a (mkJ (qTr c) (qTx c) (qTy c) (qNe c) (qTo c) (qPl c) (qVa c) (qFa c) (qN c) (qSo c) (qVo c) (qBi c) (qHo c) (qTd c) (qS c) w (qKe c) (qIk c) (qUn c) (qUm c) (qRb c) (qRi c) (qRm c)))) rfl rfl hl.1 rfl (lv_room (Nat.le_of_ble_eq_true rfl)) dX8_hand_155 ⟨hrc, hrs⟩) hD hS hA WM_fst (fun H locs hP hD hS => ?_)
          rw [wW_k] at hP hD
          replace hP : va_P G.1 vwCl (WM G a (mkJ (qTr c) (qTx c) (qTy c) (qNe c) (qTo c) (qPl c) (qVa c) (qFa c) (qN c) (qSo c) (qVo c) (qBi c) (qHo c) (qTd c) (qS c) (qS c) (qKe c) (qIk c) (qUn c) (qUm c) (qRb c) (qRi c) (qRm c))) H := hP
          replace hD : va_D A (WM G a (mkJ (qTr c) (qTx c) (qTy c) (qNe c) (qTo c) (qPl c) (qVa c) (qFa c) (qN c) (qSo c) (qVo c) (qBi c) (qHo c) (qTd c) (qS c) (qS c) (qKe c) (qIk c) (qUn c) (qUm c) (qRb c) (qRi c) (qRm c))) := hD
          refine W.eq (g2 := F0 m 158 ls []) rfl ?_
          refine lv_iconst (v := 0) hx hb dX8_hand_158 (by decide) ?_
          refine lv_istore (lv' := [(7, .int 0), (6, .int (b2i (jMay i y x its))), (5, .int (nI i)), (4, .int its), (3, .int y), (2, .int x), (0, .ref (a 0)), (1, .int b)]) hx hb dX8_hand_159 hl (by decide) rfl (fun ls hl => ?_)
          have hP : va_P G.1 vwCl (WM G a (mkJ (qTr c) (qTx c) (qTy c) (qNe c) (qTo c) (qPl c) (qVa c) (qFa c) (qN c) (qSo c) (qVo c) (qBi c) (qHo c) (qTd c) (qS c) (jHaw (qS c) (nI i) (jMay i y x its) x 0) (qKe c) (qIk c) (qUn c) (qUm c) (qRb c) (qRi c) (qRm c))) H := by rw [jHaw_0]; exact hP
          have hD : va_D A (WM G a (mkJ (qTr c) (qTx c) (qTy c) (qNe c) (qTo c) (qPl c) (qVa c) (qFa c) (qN c) (qSo c) (qVo c) (qBi c) (qHo c) (qTd c) (qS c) (jHaw (qS c) (nI i) (jMay i y x its) x 0) (qKe c) (qIk c) (qUn c) (qUm c) (qRb c) (qRi c) (qRm c))) := by rw [jHaw_0]; exact hD
          refine wk_loopM (σ := Nat) (nL := 8) (fun xσ n => match xσ with | k => k + n = qN c 0) (fun xσ => match xσ with | k => [(7, .int (nI k)), (6, .int (b2i (jMay i y x its))), (5, .int (nI i)), (4, .int its), (3, .int y), (2, .int x), (0, .ref (a 0)), (1, .int b)]) (fun xσ => match xσ with | k => WM G a (mkJ (qTr c) (qTx c) (qTy c) (qNe c) (qTo c) (qPl c) (qVa c) (qFa c) (qN c) (qSo c) (qVo c) (qBi c) (qHo c) (qTd c) (qS c) (jHaw (qS c) (nI i) (jMay i y x its) x k) (qKe c) (qIk c) (qUn c) (qUm c) (qRb c) (qRi c) (qRm c))) 0 (qN c 0) (by omega) hl hP hD hS ?_
          rintro n161 k ls H locs hI161 hl hP hD hS ih161
          have hl : lv_has ls 8 [(7, .int (nI k)), (6, .int (b2i (jMay i y x its))), (5, .int (nI i)), (4, .int its), (3, .int y), (2, .int x), (0, .ref (a 0)), (1, .int b)] := hl
          have hP : va_P G.1 vwCl (WM G a (mkJ (qTr c) (qTx c) (qTy c) (qNe c) (qTo c) (qPl c) (qVa c) (qFa c) (qN c) (qSo c) (qVo c) (qBi c) (qHo c) (qTd c) (qS c) (jHaw (qS c) (nI i) (jMay i y x its) x k) (qKe c) (qIk c) (qUn c) (qUm c) (qRb c) (qRi c) (qRm c))) H := hP
          have hD : va_D A (WM G a (mkJ (qTr c) (qTx c) (qTy c) (qNe c) (qTo c) (qPl c) (qVa c) (qFa c) (qN c) (qSo c) (qVo c) (qBi c) (qHo c) (qTd c) (qS c) (jHaw (qS c) (nI i) (jMay i y x its) x k) (qKe c) (qIk c) (qUn c) (qUm c) (qRb c) (qRi c) (qRm c))) := hD
          refine lv_iload hx hb dX8_hand_161 (lv_at hl 0 rfl) ?_
          refine lv_aload_n hx hb dX8_hand_163 rfl (lv_at hl 6 rfl) ?_
          refine va_get (D := G.1) (v := .ref (a 1)) hx hb hts hin8 hown hK hP 0 (WM_0 G a (mkJ (qTr c) (qTx c) (qTy c) (qNe c) (qTo c) (qPl c) (qVa c) (qFa c) (qN c) (qSo c) (qVo c) (qBi c) (qHo c) (qTd c) (qS c) (jHaw (qS c) (nI i) (jMay i y x its) x k) (qKe c) (qIk c) (qUn c) (qUm c) (qRb c) (qRi c) (qRm c))) rfl 9 (by decide) hf13 (fun _ h => h) rfl dX8_hand_164 ?_
          refine lv_iconst (v := 0) hx hb dX8_hand_167 (by decide) ?_
          refine wk_iald (i := 0) hx hb hK hP 1 1 (WM_1 G a (mkJ (qTr c) (qTx c) (qTy c) (qNe c) (qTo c) (qPl c) (qVa c) (qFa c) (qN c) (qSo c) (qVo c) (qBi c) (qHo c) (qTd c) (qS c) (jHaw (qS c) (nI i) (jMay i y x its) x k) (qKe c) (qIk c) (qUn c) (qUm c) (qRb c) (qRi c) (qRm c))) rfl (by omega) (Nat.le_of_ble_eq_true rfl) dX8_hand_168 ?_
          refine wk_ge (x := k) (y := (qN c 0)) (tgt := 216) hx hb (by omega) (by omega) dX8_hand_169 (by decide) (fun c169 => ?_) (fun c169 => ?_)
          · obtain rfl : k = qN c 0 := by omega
            refine lv_iload hx hb dX8_hand_216 (lv_at hl 1 rfl) ?_
            refine lv_if_eq (tgt := 238) hx hb dX8_hand_218 (by decide) (fun c218 => ?_) (fun c218 => ?_)
            · have c218 := b2i_f c218
              refine lv_iload hx hb dX8_hand_238 (lv_at hl 3 rfl) ?_
              refine lv_istore (lv' := [(4, .int its), (7, .int (nI (qN c 0))), (6, .int (b2i (jMay i y x its))), (5, .int (nI i)), (3, .int y), (2, .int x), (0, .ref (a 0)), (1, .int b)]) hx hb dX8_hand_240 hl (by decide) rfl (fun ls hl => ?_)
              refine lv_iinc (v := (nI (i + 1))) (lv' := [(5, .int (nI (i + 1))), (4, .int its), (7, .int (nI (qN c 0))), (6, .int (b2i (jMay i y x its))), (3, .int y), (2, .int x), (0, .ref (a 0)), (1, .int b)]) hx hb dX8_hand_242 hl (k := 3) rfl (wk_i1 i) (by decide) rfl (fun ls hl => ?_)
              refine lv_goto (tgt := 99) hx hb dX8_hand_245 (by decide) ?_
              exact ih99 (i + 1, its, jHaw (qS c) (nI i) (jMay i y x its) x (qN c 0)) (n99 - 1) ls H _ (by omega) (⟨by omega, by rw [yHaG, fo_s, ← yHaG, ← hz]; (simp only [hi]) <;> simp [c218]⟩) (lv_sub hl [0, 1, 4, 5, 6, 7] rfl) hP hD hS
            · have c218 := b2i_t c218
              refine lv_aload_n hx hb dX8_hand_221 rfl (lv_at hl 6 rfl) ?_
              refine lv_aload_n hx hb dX8_hand_222 rfl (lv_at hl 6 rfl) ?_
              refine va_get (D := G.1) (v := .ref (a 6)) hx hb hts hin8 hown hK hP 0 (WM_0 G a (mkJ (qTr c) (qTx c) (qTy c) (qNe c) (qTo c) (qPl c) (qVa c) (qFa c) (qN c) (qSo c) (qVo c) (qBi c) (qHo c) (qTd c) (qS c) (jHaw (qS c) (nI i) (jMay i y x its) x (qN c 0)) (qKe c) (qIk c) (qUn c) (qUm c) (qRb c) (qRi c) (qRm c))) rfl 16 (by decide) hf31 (fun _ h => h) rfl dX8_hand_223 ?_
              refine lv_iload_n hx hb dX8_hand_226 rfl (lv_at hl 7 rfl) ?_
              refine wk_read (va_runV (As := [.ref (a 6), .int b]) (rest := []) ⟨hx, hb, hml, hown, hts⟩ (c_X8_passes l G a (mkJ (qTr c) (qTx c) (qTy c) (qNe c) (qTo c) (qPl c) (qVa c) (qFa c) (qN c) (qSo c) (qVo c) (qBi c) (qHo c) (qTd c) (qS c) (jHaw (qS c) (nI i) (jMay i y x its) x (qN c 0)) (qKe c) (qIk c) (qUn c) (qUm c) (qRb c) (qRi c) (qRm c)) (okJ_mk (by omega) (by omega) (by omega) (by omega) (by omega) (by omega)) b true) (cwV 2 hts gX8_hand_X8_passes rfl rfl rfl hdV_X8_passes ⟨Nat.le_of_ble_eq_true rfl, Nat.le_of_ble_eq_true rfl⟩) (PreW.pre (G := G) (W0 := WM G a (mkJ (qTr c) (qTx c) (qTy c) (qNe c) (qTo c) (qPl c) (qVa c) (qFa c) (qN c) (qSo c) (qVo c) (qBi c) (qHo c) (qTd c) (qS c) (jHaw (qS c) (nI i) (jMay i y x its) x (qN c 0)) (qKe c) (qIk c) (qUn c) (qUm c) (qRb c) (qRi c) (qRm c))) ⟨hP, hK, hN⟩ (ci := 8) (q0 := 0) rfl rfl) rfl rfl hl.1 rfl (lv_room (Nat.le_of_ble_eq_true rfl)) dX8_hand_227 ⟨hrc, hrs⟩) ?_
              refine W.eq (g2 := F0 m 230 ls [.int (b2i (jPas ((qN c) 0) (qSo c) (qVo c) (qBi c) (jHaw (qS c) (nI i) (jMay i y x its) x (qN c 0)) b))]) rfl ?_
              refine lv_if_eq (tgt := 238) hx hb dX8_hand_230 (by decide) (fun c230 => ?_) (fun c230 => ?_)
              · have c230 := b2i_f c230
                refine lv_iload hx hb dX8_hand_238 (lv_at hl 3 rfl) ?_
                refine lv_istore (lv' := [(4, .int its), (7, .int (nI (qN c 0))), (6, .int (b2i (jMay i y x its))), (5, .int (nI i)), (3, .int y), (2, .int x), (0, .ref (a 0)), (1, .int b)]) hx hb dX8_hand_240 hl (by decide) rfl (fun ls hl => ?_)
                refine lv_iinc (v := (nI (i + 1))) (lv' := [(5, .int (nI (i + 1))), (4, .int its), (7, .int (nI (qN c 0))), (6, .int (b2i (jMay i y x its))), (3, .int y), (2, .int x), (0, .ref (a 0)), (1, .int b)]) hx hb dX8_hand_242 hl (k := 3) rfl (wk_i1 i) (by decide) rfl (fun ls hl => ?_)
                refine lv_goto (tgt := 99) hx hb dX8_hand_245 (by decide) ?_
                exact ih99 (i + 1, its, jHaw (qS c) (nI i) (jMay i y x its) x (qN c 0)) (n99 - 1) ls H _ (by omega) (⟨by omega, by rw [yHaG, fo_s, ← yHaG, ← hz]; (simp only [c230]) <;> simp [c218]⟩) (lv_sub hl [0, 1, 4, 5, 6, 7] rfl) hP hD hS
              · have c230 := b2i_t c230
                refine lv_iload hx hb dX8_hand_233 (lv_at hl 2 rfl) ?_
                refine lv_goto (tgt := 240) hx hb dX8_hand_235 (by decide) ?_
                refine lv_istore (lv' := [(4, .int (nI i)), (7, .int (nI (qN c 0))), (6, .int (b2i (jMay i y x its))), (5, .int (nI i)), (3, .int y), (2, .int x), (0, .ref (a 0)), (1, .int b)]) hx hb dX8_hand_240 hl (by decide) rfl (fun ls hl => ?_)
                refine lv_iinc (v := (nI (i + 1))) (lv' := [(5, .int (nI (i + 1))), (4, .int (nI i)), (7, .int (nI (qN c 0))), (6, .int (b2i (jMay i y x its))), (3, .int y), (2, .int x), (0, .ref (a 0)), (1, .int b)]) hx hb dX8_hand_242 hl (k := 3) rfl (wk_i1 i) (by decide) rfl (fun ls hl => ?_)
                refine lv_goto (tgt := 99) hx hb dX8_hand_245 (by decide) ?_
                exact ih99 (i + 1, (nI i), jHaw (qS c) (nI i) (jMay i y x its) x (qN c 0)) (n99 - 1) ls H _ (by omega) (⟨by omega, by rw [yHaG, fo_s, ← yHaG, ← hz]; (simp only [c230]) <;> simp [c218]⟩) (lv_sub hl [0, 1, 4, 5, 6, 7] rfl) hP hD hS
          · refine lv_aload_n hx hb dX8_hand_172 rfl (lv_at hl 6 rfl) ?_
            refine va_get (D := G.1) (v := .ref (a 6)) hx hb hts hin8 hown hK hP 0 (WM_0 G a (mkJ (qTr c) (qTx c) (qTy c) (qNe c) (qTo c) (qPl c) (qVa c) (qFa c) (qN c) (qSo c) (qVo c) (qBi c) (qHo c) (qTd c) (qS c) (jHaw (qS c) (nI i) (jMay i y x its) x k) (qKe c) (qIk c) (qUn c) (qUm c) (qRb c) (qRi c) (qRm c))) rfl 16 (by decide) hf31 (fun _ h => h) rfl dX8_hand_173 ?_
            refine lv_iconst (v := 0) hx hb dX8_hand_176 (by decide) ?_
            refine lv_iload hx hb dX8_hand_177 (lv_at hl 0 rfl) ?_
            refine wk_add0 (x := k) hx hb dX8_hand_179 ?_
            refine lv_iload hx hb dX8_hand_180 (lv_at hl 2 rfl) ?_
            refine lv_iload hx hb dX8_hand_182 (lv_at hl 0 rfl) ?_
            refine lv_ishr hx hb dX8_hand_184 ?_
            refine lv_iconst (v := 1) hx hb dX8_hand_185 (by decide) ?_
            refine lv_iand hx hb dX8_hand_186 ?_
            show W _ _ _ _ _ _ _ _ _ _ _ _ _ _ _ (F0 _ _ _ (.int (bitI (nI i) (nI k)) :: _))
            refine lv_iconst (v := 1) hx hb dX8_hand_187 (by decide) ?_
            refine lv_icmp_ne (tgt := 200) hx hb dX8_hand_188 (by decide) (fun c188 => ?_) (fun c188 => ?_)
            · refine lv_aload_n hx hb dX8_hand_200 rfl (lv_at hl 6 rfl) ?_
              refine va_get (D := G.1) (v := .ref (a 5)) hx hb hts hin8 hown hK hP 0 (WM_0 G a (mkJ (qTr c) (qTx c) (qTy c) (qNe c) (qTo c) (qPl c) (qVa c) (qFa c) (qN c) (qSo c) (qVo c) (qBi c) (qHo c) (qTd c) (qS c) (jHaw (qS c) (nI i) (jMay i y x its) x k) (qKe c) (qIk c) (qUn c) (qUm c) (qRb c) (qRi c) (qRm c))) rfl 15 (by decide) hf28 (fun _ h => h) rfl dX8_hand_201 ?_
              refine lv_iconst (v := 0) hx hb dX8_hand_204 (by decide) ?_
              refine lv_iload hx hb dX8_hand_205 (lv_at hl 0 rfl) ?_
              refine wk_add0 (x := k) hx hb dX8_hand_207 ?_
              refine wk_iald (i := k) hx hb hK hP 5 1 (WM_5 G a (mkJ (qTr c) (qTx c) (qTy c) (qNe c) (qTo c) (qPl c) (qVa c) (qFa c) (qN c) (qSo c) (qVo c) (qBi c) (qHo c) (qTd c) (qS c) (jHaw (qS c) (nI i) (jMay i y x its) x k) (qKe c) (qIk c) (qUn c) (qUm c) (qRb c) (qRi c) (qRm c))) rfl (by omega) (Nat.le_of_ble_eq_true rfl) dX8_hand_208 ?_
              refine wk_iast (i := k) hx hb hK hP hD hS 6 1 (WM_6 G a (mkJ (qTr c) (qTx c) (qTy c) (qNe c) (qTo c) (qPl c) (qVa c) (qFa c) (qN c) (qSo c) (qVo c) (qBi c) (qHo c) (qTd c) (qS c) (jHaw (qS c) (nI i) (jMay i y x its) x k) (qKe c) (qIk c) (qUn c) (qUm c) (qRb c) (qRi c) (qRm c))) rfl (by omega) (Nat.le_of_ble_eq_true rfl) dX8_hand_209 (fun H locs hP hD hS => ?_)
              rw [WMk_p6] at hP hD
              replace hP : va_P G.1 vwCl (WM G a (mkJ (qTr c) (qTx c) (qTy c) (qNe c) (qTo c) (qPl c) (qVa c) (qFa c) (qN c) (qSo c) (qVo c) (qBi c) (qHo c) (qTd c) (qS c) (upd (jHaw (qS c) (nI i) (jMay i y x its) x k) k (qS c k)) (qKe c) (qIk c) (qUn c) (qUm c) (qRb c) (qRi c) (qRm c))) H := hP
              replace hD : va_D A (WM G a (mkJ (qTr c) (qTx c) (qTy c) (qNe c) (qTo c) (qPl c) (qVa c) (qFa c) (qN c) (qSo c) (qVo c) (qBi c) (qHo c) (qTd c) (qS c) (upd (jHaw (qS c) (nI i) (jMay i y x its) x k) k (qS c k)) (qKe c) (qIk c) (qUn c) (qUm c) (qRb c) (qRi c) (qRm c))) := hD
              refine lv_iinc (v := (nI (k + 1))) (lv' := [(7, .int (nI (k + 1))), (6, .int (b2i (jMay i y x its))), (5, .int (nI i)), (4, .int its), (3, .int y), (2, .int x), (0, .ref (a 0)), (1, .int b)]) hx hb dX8_hand_210 hl (k := 0) rfl (wk_i1 k) (by decide) rfl (fun ls hl => ?_)
              refine lv_goto (tgt := 161) hx hb dX8_hand_213 (by decide) ?_
              rw [jHaw_s _ (by simp [c188])] at hP hD
              exact ih161 (k + 1) (n161 - 1) ls H _ (by omega) (by omega) (lv_sub hl [0, 1, 2, 3, 4, 5, 6, 7] rfl) hP hD hS
            · refine lv_iload hx hb dX8_hand_191 (lv_at hl 1 rfl) ?_
              refine lv_if_eq (tgt := 200) hx hb dX8_hand_193 (by decide) (fun c193 => ?_) (fun c193 => ?_)
              · have c193 := b2i_f c193
                refine lv_aload_n hx hb dX8_hand_200 rfl (lv_at hl 6 rfl) ?_
                refine va_get (D := G.1) (v := .ref (a 5)) hx hb hts hin8 hown hK hP 0 (WM_0 G a (mkJ (qTr c) (qTx c) (qTy c) (qNe c) (qTo c) (qPl c) (qVa c) (qFa c) (qN c) (qSo c) (qVo c) (qBi c) (qHo c) (qTd c) (qS c) (jHaw (qS c) (nI i) (jMay i y x its) x k) (qKe c) (qIk c) (qUn c) (qUm c) (qRb c) (qRi c) (qRm c))) rfl 15 (by decide) hf28 (fun _ h => h) rfl dX8_hand_201 ?_
                refine lv_iconst (v := 0) hx hb dX8_hand_204 (by decide) ?_
                refine lv_iload hx hb dX8_hand_205 (lv_at hl 0 rfl) ?_
                refine wk_add0 (x := k) hx hb dX8_hand_207 ?_
                refine wk_iald (i := k) hx hb hK hP 5 1 (WM_5 G a (mkJ (qTr c) (qTx c) (qTy c) (qNe c) (qTo c) (qPl c) (qVa c) (qFa c) (qN c) (qSo c) (qVo c) (qBi c) (qHo c) (qTd c) (qS c) (jHaw (qS c) (nI i) (jMay i y x its) x k) (qKe c) (qIk c) (qUn c) (qUm c) (qRb c) (qRi c) (qRm c))) rfl (by omega) (Nat.le_of_ble_eq_true rfl) dX8_hand_208 ?_
                refine wk_iast (i := k) hx hb hK hP hD hS 6 1 (WM_6 G a (mkJ (qTr c) (qTx c) (qTy c) (qNe c) (qTo c) (qPl c) (qVa c) (qFa c) (qN c) (qSo c) (qVo c) (qBi c) (qHo c) (qTd c) (qS c) (jHaw (qS c) (nI i) (jMay i y x its) x k) (qKe c) (qIk c) (qUn c) (qUm c) (qRb c) (qRi c) (qRm c))) rfl (by omega) (Nat.le_of_ble_eq_true rfl) dX8_hand_209 (fun H locs hP hD hS => ?_)
                rw [WMk_p6] at hP hD
                replace hP : va_P G.1 vwCl (WM G a (mkJ (qTr c) (qTx c) (qTy c) (qNe c) (qTo c) (qPl c) (qVa c) (qFa c) (qN c) (qSo c) (qVo c) (qBi c) (qHo c) (qTd c) (qS c) (upd (jHaw (qS c) (nI i) (jMay i y x its) x k) k (qS c k)) (qKe c) (qIk c) (qUn c) (qUm c) (qRb c) (qRi c) (qRm c))) H := hP
                replace hD : va_D A (WM G a (mkJ (qTr c) (qTx c) (qTy c) (qNe c) (qTo c) (qPl c) (qVa c) (qFa c) (qN c) (qSo c) (qVo c) (qBi c) (qHo c) (qTd c) (qS c) (upd (jHaw (qS c) (nI i) (jMay i y x its) x k) k (qS c k)) (qKe c) (qIk c) (qUn c) (qUm c) (qRb c) (qRi c) (qRm c))) := hD
                refine lv_iinc (v := (nI (k + 1))) (lv' := [(7, .int (nI (k + 1))), (6, .int (b2i (jMay i y x its))), (5, .int (nI i)), (4, .int its), (3, .int y), (2, .int x), (0, .ref (a 0)), (1, .int b)]) hx hb dX8_hand_210 hl (k := 0) rfl (wk_i1 k) (by decide) rfl (fun ls hl => ?_)
                refine lv_goto (tgt := 161) hx hb dX8_hand_213 (by decide) ?_
                rw [jHaw_s _ (by simp [c188, c193])] at hP hD
                exact ih161 (k + 1) (n161 - 1) ls H _ (by omega) (by omega) (lv_sub hl [0, 1, 2, 3, 4, 5, 6, 7] rfl) hP hD hS
              · have c193 := b2i_t c193
                refine lv_iload_n hx hb dX8_hand_196 rfl (lv_at hl 5 rfl) ?_
                refine lv_goto (tgt := 209) hx hb dX8_hand_197 (by decide) ?_
                refine wk_iast (i := k) hx hb hK hP hD hS 6 1 (WM_6 G a (mkJ (qTr c) (qTx c) (qTy c) (qNe c) (qTo c) (qPl c) (qVa c) (qFa c) (qN c) (qSo c) (qVo c) (qBi c) (qHo c) (qTd c) (qS c) (jHaw (qS c) (nI i) (jMay i y x its) x k) (qKe c) (qIk c) (qUn c) (qUm c) (qRb c) (qRi c) (qRm c))) rfl (by omega) (Nat.le_of_ble_eq_true rfl) dX8_hand_209 (fun H locs hP hD hS => ?_)
                rw [WMk_p6] at hP hD
                replace hP : va_P G.1 vwCl (WM G a (mkJ (qTr c) (qTx c) (qTy c) (qNe c) (qTo c) (qPl c) (qVa c) (qFa c) (qN c) (qSo c) (qVo c) (qBi c) (qHo c) (qTd c) (qS c) (upd (jHaw (qS c) (nI i) (jMay i y x its) x k) k x) (qKe c) (qIk c) (qUn c) (qUm c) (qRb c) (qRi c) (qRm c))) H := hP
                replace hD : va_D A (WM G a (mkJ (qTr c) (qTx c) (qTy c) (qNe c) (qTo c) (qPl c) (qVa c) (qFa c) (qN c) (qSo c) (qVo c) (qBi c) (qHo c) (qTd c) (qS c) (upd (jHaw (qS c) (nI i) (jMay i y x its) x k) k x) (qKe c) (qIk c) (qUn c) (qUm c) (qRb c) (qRi c) (qRm c))) := hD
                refine lv_iinc (v := (nI (k + 1))) (lv' := [(7, .int (nI (k + 1))), (6, .int (b2i (jMay i y x its))), (5, .int (nI i)), (4, .int its), (3, .int y), (2, .int x), (0, .ref (a 0)), (1, .int b)]) hx hb dX8_hand_210 hl (k := 0) rfl (wk_i1 k) (by decide) rfl (fun ls hl => ?_)
                refine lv_goto (tgt := 161) hx hb dX8_hand_213 (by decide) ?_
                rw [jHaw_s _ (by simp [c188, c193])] at hP hD
                exact ih161 (k + 1) (n161 - 1) ls H _ (by omega) (by omega) (lv_sub hl [0, 1, 2, 3, 4, 5, 6, 7] rfl) hP hD hS
        · refine lv_iload hx hb dX8_hand_107 (lv_at hl 0 rfl) ?_
          refine lv_iload_n hx hb dX8_hand_109 rfl (lv_at hl 2 rfl) ?_
          refine lv_iconst (v := -1) hx hb dX8_hand_110 (by decide) ?_
          refine lv_ixor hx hb dX8_hand_111 ?_
          show W _ _ _ _ _ _ _ _ _ _ _ _ _ _ _ (F0 _ _ _ (.int (iv y) :: _))
          refine lv_iand hx hb dX8_hand_112 ?_
          refine lv_if_ne (tgt := 151) hx hb dX8_hand_113 (by decide) (fun c113 => ?_) (fun c113 => ?_)
          · refine lv_iconst (v := 0) hx hb dX8_hand_151 (by decide) ?_
            exact k152 0 (by (simp only [jMay, c113]) <;> first | (simp [b2i, c113]; done) | (have c118x : ¬ i = 0 := (by omega); simp [b2i, c118x]; done))
          · refine lv_iload hx hb dX8_hand_116 (lv_at hl 0 rfl) ?_
            refine lv_if_eq (tgt := 127) hx hb dX8_hand_118 (by decide) (fun c118 => ?_) (fun c118 => ?_)
            · have c118 := nI_z (by omega) c118
              refine lv_iload hx hb dX8_hand_127 (lv_at hl 1 rfl) ?_
              refine lv_bipush (v := -9) hx hb dX8_hand_129 (by decide) ?_
              refine lv_icmp_eq (tgt := 147) hx hb dX8_hand_131 (by decide) (fun c131 => ?_) (fun c131 => ?_)
              · refine lv_iconst (v := 1) hx hb dX8_hand_147 (by decide) ?_
                refine lv_goto (tgt := 152) hx hb dX8_hand_148 (by decide) ?_
                exact k152 1 (by (simp only [jMay, c113, c131]) <;> first | (simp [b2i, c118]; done) | (have c118x : ¬ i = 0 := (by omega); simp [b2i, c118x]; done))
              · refine lv_iload hx hb dX8_hand_134 (lv_at hl 0 rfl) ?_
                refine wk_read (va_runS (As := [.int (nI i)]) (rest := []) ⟨hx, hb, hml, hown, hts⟩ (c_X8_ones l (nI i)) (va_cwS 1 hts gX8_hand_X8_ones rfl rfl rfl hdS_X8_ones ⟨Nat.le_of_ble_eq_true rfl, Nat.le_of_ble_eq_true rfl⟩) preEq rfl rfl hl.1 rfl (lv_room (Nat.le_of_ble_eq_true rfl)) dX8_hand_136 ⟨hrc, hrs⟩) ?_
                refine lv_iload hx hb dX8_hand_139 (lv_at hl 1 rfl) ?_
                refine wk_read (va_runS (As := [.int its]) (rest := [.int (jOnes (nI i))]) ⟨hx, hb, hml, hown, hts⟩ (c_X8_ones l its) (va_cwS 1 hts gX8_hand_X8_ones rfl rfl rfl hdS_X8_ones ⟨Nat.le_of_ble_eq_true rfl, Nat.le_of_ble_eq_true rfl⟩) preEq rfl rfl hl.1 rfl (lv_room (Nat.le_of_ble_eq_true rfl)) dX8_hand_141 ⟨hrc, hrs⟩) ?_
                refine lv_icmp_ge (tgt := 151) hx hb dX8_hand_144 (by decide) (fun c144 => ?_) (fun c144 => ?_)
                · refine lv_iconst (v := 0) hx hb dX8_hand_151 (by decide) ?_
                  exact k152 0 (by (simp only [jMay, c113, c131, c144]) <;> first | (simp [b2i, c118]; done) | (have c118x : ¬ i = 0 := (by omega); simp [b2i, c118x]; done))
                · refine lv_iconst (v := 1) hx hb dX8_hand_147 (by decide) ?_
                  refine lv_goto (tgt := 152) hx hb dX8_hand_148 (by decide) ?_
                  exact k152 1 (by (simp only [jMay, c113, c131, c144]) <;> first | (simp [b2i, c118]; done) | (have c118x : ¬ i = 0 := (by omega); simp [b2i, c118x]; done))
            · have c118 := nI_nz c118
              refine lv_iload_n hx hb dX8_hand_121 rfl (lv_at hl 3 rfl) ?_
              refine lv_bipush (v := -9) hx hb dX8_hand_122 (by decide) ?_
              refine lv_icmp_eq (tgt := 151) hx hb dX8_hand_124 (by decide) (fun c124 => ?_) (fun c124 => ?_)
              · refine lv_iconst (v := 0) hx hb dX8_hand_151 (by decide) ?_
                exact k152 0 (by (simp only [jMay, c113, c124]) <;> first | (simp [b2i, c118]; done) | (have c118x : ¬ i = 0 := (by omega); simp [b2i, c118x]; done))
              · refine lv_iload hx hb dX8_hand_127 (lv_at hl 1 rfl) ?_
                refine lv_bipush (v := -9) hx hb dX8_hand_129 (by decide) ?_
                refine lv_icmp_eq (tgt := 147) hx hb dX8_hand_131 (by decide) (fun c131 => ?_) (fun c131 => ?_)
                · refine lv_iconst (v := 1) hx hb dX8_hand_147 (by decide) ?_
                  refine lv_goto (tgt := 152) hx hb dX8_hand_148 (by decide) ?_
                  exact k152 1 (by (simp only [jMay, c113, c124, c131]) <;> first | (simp [b2i, c118]; done) | (have c118x : ¬ i = 0 := (by omega); simp [b2i, c118x]; done))
                · refine lv_iload hx hb dX8_hand_134 (lv_at hl 0 rfl) ?_
                  refine wk_read (va_runS (As := [.int (nI i)]) (rest := []) ⟨hx, hb, hml, hown, hts⟩ (c_X8_ones l (nI i)) (va_cwS 1 hts gX8_hand_X8_ones rfl rfl rfl hdS_X8_ones ⟨Nat.le_of_ble_eq_true rfl, Nat.le_of_ble_eq_true rfl⟩) preEq rfl rfl hl.1 rfl (lv_room (Nat.le_of_ble_eq_true rfl)) dX8_hand_136 ⟨hrc, hrs⟩) ?_
                  refine lv_iload hx hb dX8_hand_139 (lv_at hl 1 rfl) ?_
                  refine wk_read (va_runS (As := [.int its]) (rest := [.int (jOnes (nI i))]) ⟨hx, hb, hml, hown, hts⟩ (c_X8_ones l its) (va_cwS 1 hts gX8_hand_X8_ones rfl rfl rfl hdS_X8_ones ⟨Nat.le_of_ble_eq_true rfl, Nat.le_of_ble_eq_true rfl⟩) preEq rfl rfl hl.1 rfl (lv_room (Nat.le_of_ble_eq_true rfl)) dX8_hand_141 ⟨hrc, hrs⟩) ?_
                  refine lv_icmp_ge (tgt := 151) hx hb dX8_hand_144 (by decide) (fun c144 => ?_) (fun c144 => ?_)
                  · refine lv_iconst (v := 0) hx hb dX8_hand_151 (by decide) ?_
                    exact k152 0 (by (simp only [jMay, c113, c124, c131, c144]) <;> first | (simp [b2i, c118]; done) | (have c118x : ¬ i = 0 := (by omega); simp [b2i, c118x]; done))
                  · refine lv_iconst (v := 1) hx hb dX8_hand_147 (by decide) ?_
                    refine lv_goto (tgt := 152) hx hb dX8_hand_148 (by decide) ?_
                    exact k152 1 (by (simp only [jMay, c113, c124, c131, c144]) <;> first | (simp [b2i, c118]; done) | (have c118x : ¬ i = 0 := (by omega); simp [b2i, c118x]; done))
    · refine lv_aload_n hx hb dX8_hand_33 rfl (lv_at hl 3 rfl) ?_
      refine va_get (D := G.1) (v := .ref (a 5)) hx hb hts hin8 hown hK hP 0 (WM_0 G a c) rfl 15 (by decide) hf28 (fun _ h => h) rfl dX8_hand_34 ?_
      refine lv_bipush (v := 16) hx hb dX8_hand_37 (by decide) ?_
      refine wk_iald (i := 16) hx hb hK hP 5 1 (WM_5 G a c) rfl (by omega) (Nat.le_of_ble_eq_true rfl) dX8_hand_39 ?_
      refine lv_iload hx hb dX8_hand_40 (lv_at hl 0 rfl) ?_
      refine lv_ishr hx hb dX8_hand_42 ?_
      refine lv_iconst (v := 1) hx hb dX8_hand_43 (by decide) ?_
      refine lv_iand hx hb dX8_hand_44 ?_
      show W _ _ _ _ _ _ _ _ _ _ _ _ _ _ _ (F0 _ _ _ (.int (bitI (qS c 16) (nI o)) :: _))
      refine lv_iconst (v := 1) hx hb dX8_hand_45 (by decide) ?_
      refine lv_icmp_ne (tgt := 53) hx hb dX8_hand_46 (by decide) (fun c46 => ?_) (fun c46 => ?_)
      · refine lv_iconst (v := 0) hx hb dX8_hand_53 (by decide) ?_
        refine lv_istore (lv' := [(5, .int 0), (4, .int (nI o)), (3, .int y), (2, .int x), (0, .ref (a 0)), (1, .int b)]) hx hb dX8_hand_54 hl (by decide) rfl (fun ls hl => ?_)
        refine lv_iload hx hb dX8_hand_56 (lv_at hl 0 rfl) ?_
        refine lv_if_eq (tgt := 65) hx hb dX8_hand_58 (by decide) (fun c58 => ?_) (fun c58 => ?_)
        · refine lv_iload hx hb dX8_hand_65 (lv_at hl 1 rfl) ?_
          refine lv_istore_n (lv' := [(2, .int (nI o)), (5, .int 0), (4, .int (nI o)), (3, .int y), (0, .ref (a 0)), (1, .int b)]) hx hb dX8_hand_67 rfl hl (by decide) rfl (fun ls hl => ?_)
          refine lv_iload_n hx hb dX8_hand_68 rfl (lv_at hl 3 rfl) ?_
          refine lv_iload hx hb dX8_hand_69 (lv_at hl 1 rfl) ?_
          refine lv_if_eq (tgt := 83) hx hb dX8_hand_71 (by decide) (fun c71 => ?_) (fun c71 => ?_)
          · refine lv_iconst (v := 0) hx hb dX8_hand_83 (by decide) ?_
            refine lv_ior hx hb dX8_hand_84 ?_
            refine lv_istore_n (lv' := [(3, .int (y ||| 0)), (2, .int (nI o)), (5, .int 0), (4, .int (nI o)), (0, .ref (a 0)), (1, .int b)]) hx hb dX8_hand_85 rfl hl (by decide) rfl (fun ls hl => ?_)
            refine lv_iinc (v := (nI (o + 1))) (lv' := [(4, .int (nI (o + 1))), (3, .int (y ||| 0)), (2, .int (nI o)), (5, .int 0), (0, .ref (a 0)), (1, .int b)]) hx hb dX8_hand_86 hl (k := 3) rfl (wk_i1 o) (by decide) rfl (fun ls hl => ?_)
            refine lv_goto (tgt := 22) hx hb dX8_hand_89 (by decide) ?_
            exact ih22 (o + 1, (nI o), (y ||| 0)) (n22 - 1) ls (by omega) (⟨by omega, by simp [hx9, jWelF, fo_s, c46], by rw [hy9]; simp [jOfsF, fo_s, c46]⟩) (lv_sub hl [0, 1, 2, 4, 5] rfl)
          · exact absurd c71 (by decide)
        · exact absurd c58 (by decide)
      · refine lv_iconst (v := 1) hx hb dX8_hand_49 (by decide) ?_
        refine lv_goto (tgt := 54) hx hb dX8_hand_50 (by decide) ?_
        refine lv_istore (lv' := [(5, .int 1), (4, .int (nI o)), (3, .int y), (2, .int x), (0, .ref (a 0)), (1, .int b)]) hx hb dX8_hand_54 hl (by decide) rfl (fun ls hl => ?_)
        refine lv_iload hx hb dX8_hand_56 (lv_at hl 0 rfl) ?_
        refine lv_if_eq (tgt := 65) hx hb dX8_hand_58 (by decide) (fun c58 => ?_) (fun c58 => ?_)
        · exact absurd c58 (by decide)
        · refine lv_iload_n hx hb dX8_hand_61 rfl (lv_at hl 3 rfl) ?_
          refine lv_goto (tgt := 67) hx hb dX8_hand_62 (by decide) ?_
          refine lv_istore_n (lv' := [(2, .int x), (5, .int 1), (4, .int (nI o)), (3, .int y), (0, .ref (a 0)), (1, .int b)]) hx hb dX8_hand_67 rfl hl (by decide) rfl (fun ls hl => ?_)
          refine lv_iload_n hx hb dX8_hand_68 rfl (lv_at hl 3 rfl) ?_
          refine lv_iload hx hb dX8_hand_69 (lv_at hl 1 rfl) ?_
          refine lv_if_eq (tgt := 83) hx hb dX8_hand_71 (by decide) (fun c71 => ?_) (fun c71 => ?_)
          · exact absurd c71 (by decide)
          · refine lv_aload_n hx hb dX8_hand_74 rfl (lv_at hl 4 rfl) ?_
            refine lv_iload hx hb dX8_hand_75 (lv_at hl 2 rfl) ?_
            refine wk_read (va_runV (As := [.int (nI o)]) (rest := [.int y]) ⟨hx, hb, hml, hown, hts⟩ (c_X8_heldBy l G a c hc (nI o)) (cwV 1 hts gX8_hand_X8_heldBy rfl rfl rfl hdV_X8_heldBy ⟨Nat.le_of_ble_eq_true rfl, Nat.le_of_ble_eq_true rfl⟩) (PreW.pre (G := G) (W0 := WM G a c) ⟨hP, hK, hN⟩ (ci := 8) (q0 := 0) rfl rfl) rfl rfl hl.1 rfl (lv_room (Nat.le_of_ble_eq_true rfl)) dX8_hand_77 ⟨hrc, hrs⟩) ?_
            refine lv_goto (tgt := 84) hx hb dX8_hand_80 (by decide) ?_
            refine lv_ior hx hb dX8_hand_84 ?_
            refine lv_istore_n (lv' := [(3, .int (y ||| (jHel (qN c 0) (qS c) (nI o)))), (2, .int x), (5, .int 1), (4, .int (nI o)), (0, .ref (a 0)), (1, .int b)]) hx hb dX8_hand_85 rfl hl (by decide) rfl (fun ls hl => ?_)
            refine lv_iinc (v := (nI (o + 1))) (lv' := [(4, .int (nI (o + 1))), (3, .int (y ||| (jHel (qN c 0) (qS c) (nI o)))), (2, .int x), (5, .int 1), (0, .ref (a 0)), (1, .int b)]) hx hb dX8_hand_86 hl (k := 3) rfl (wk_i1 o) (by decide) rfl (fun ls hl => ?_)
            refine lv_goto (tgt := 22) hx hb dX8_hand_89 (by decide) ?_
            exact ih22 (o + 1, x, (y ||| (jHel (qN c 0) (qS c) (nI o)))) (n22 - 1) ls (by omega) (⟨by omega, by simp [hx9, jWelF, fo_s, c46], by rw [hy9]; simp [jOfsF, fo_s, c46]⟩) (lv_sub hl [0, 1, 2, 4, 5] rfl)
  · have c9 := b2i_f c9
    refine lv_iconst (v := -1) hx hb dX8_hand_12 (by decide) ?_
    have hq : yHand c b = ((-1), c) := by (simp only [yHand, c9, if_true, if_false, reduceIte, not_true_eq_false, not_false_eq_true, Bool.and_true, Bool.true_and, Bool.and_self, Bool.and_false, Bool.false_and, Bool.false_eq_true]) <;> rfl
    exact wk_mret' hx hb hr hlocks dX8_hand_13 hP hS (congrArg (fun z => some (Value.int z.1)) hq) (congrArg (fun z => WM G a z.2) hq)

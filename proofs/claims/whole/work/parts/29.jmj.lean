theorem hdV_X8_power : yX8_power.cls = RX8 ∧ yX8_power.cls ≠ "java/lang/invoke/MethodHandle" ∧ yX8_power.cls ≠ "java/lang/invoke/VarHandle" ∧ (parseMethodDescriptor yX8_power.desc).map (fun d => d.parameters.length) = some 2 := by decide +kernel
set_option maxHeartbeats 600000 in
set_option maxRecDepth 100000 in
theorem c_X8_power (l : Launch) (G : GG) (a : Nat → Nat) (c : JX) (hc : OkJ c) (t : Int32) (w : Int32) (sz : Nat) : Met l yX8_power wsX8_power ({ frames := 4, cells := 0, slots := 0, locals := 92 }) (va_Pc [.ref (a 0), .int t, .int w] (fun U => PreM G (WM G a c) sz U U.heap)) (Qm G.1 vwCl (some (.int (yPower c t w))) (WM G a c) (va_A (WM G a c) sz)) 0 0 (va_A (WM G a c) sz) := by
  refine Met.ofW (cc := cX8_power) (maxL := 6) (ret := (some .int)) (by decide) rfl ?_
  intro p e s m args below meth cd s₁ BB hml hv
  obtain ⟨rfl, ⟨hP, hK, hN⟩, hD0, hsz⟩ := hv
  have hx := BB.exec
  have hb := BB.bytes
  have hr := BB.returns
  have hts := atoms_spec (ws := wsX8_power) BB.pre
  have hown : s.vm.findClass RX8 = some m.cls := findClass_of_methodNamed BB.named
  have hlocks := BB.notSynchronized
  have hrc : 0 + 0 ≤ (headSpec wsX8_power ({ frames := 4, cells := 0, slots := 0, locals := 92 })).room.cells := Nat.le_refl _
  have hrs : 0 + 0 ≤ (headSpec wsX8_power ({ frames := 4, cells := 0, slots := 0, locals := 92 })).room.slots := Nat.le_refl _
  subst hsz
  have hD := hD0.self (sz := s.heap.size)
  generalize hAe : va_A (WM G a c) s.heap.size = A at hD ⊢
  have hA : ∀ q : Nat, s.heap.size ≤ q → A q := fun q h => by rw [← hAe]; exact Or.inr h
  have hS : va_S A s.heap s.heap [] := va_S.rf
  obtain ⟨hk7, ho1, ho5, hl200, hr6, hu10⟩ := id hc
  have hin8 : ∀ w ∈ u_ws RX8 TX8 24, w ∈ wsX8_power := by decide +kernel
  have hf28 := hts (.fieldLink RX8 28 "RegaliaVotesModel" "s" "[I") (by decide +kernel)
  have hf50 := hts (.fieldLink RX8 50 "RegaliaVotesModel" "thrown" "I") (by decide +kernel)
  refine wk_enter (n := 6) (Nat.le_of_ble_eq_true rfl) (fun ls hl => ?_)
  have hl : lv_has ls 6 [(0, .ref (a 0)), (1, .int t), (2, .int w)] := hl
  refine lv_aload_n hx hb dX8_power_0 rfl (lv_at hl 0 rfl) ?_
  refine lv_iconst (v := 0) hx hb dX8_power_1 (by decide) ?_
  refine va_put (D := G.1) (v := .int 0) (ty := .int) hx hb hts hin8 tyX8 tyX8_ok nmX8 hown hK hP hD hS 0 (WM_0 G a c) rfl 0 (by decide) hf50 (fun _ h => h) rfl (by decide +kernel) rfl rfl (Nat.le_of_ble_eq_true rfl) dX8_power_2 (fun H locs hP hD hS => ?_)
  rw [WM_p0_0] at hP hD
  refine lv_aload_n hx hb dX8_power_5 rfl (lv_at hl 0 rfl) ?_
  refine lv_iload_n hx hb dX8_power_6 rfl (lv_at hl 1 rfl) ?_
  refine wk_read (va_runV (As := [.int t]) (rest := []) ⟨hx, hb, hml, hown, hts⟩ (c_X8_isThing l G a c hc t) (cwV 1 hts gX8_power_X8_isThing rfl rfl rfl hdV_X8_isThing ⟨Nat.le_of_ble_eq_true rfl, Nat.le_of_ble_eq_true rfl⟩) (PreW.pre (G := G) (W0 := WM G a c) ⟨hP, hK, hN⟩ (ci := 8) (q0 := 0) rfl rfl) rfl rfl hl.1 rfl (lv_room (Nat.le_of_ble_eq_true rfl)) dX8_power_7 ⟨hrc, hrs⟩) ?_
  refine lv_if_eq (tgt := 22) hx hb dX8_power_10 (by decide) (fun c10 => ?_) (fun c10 => ?_)
  · have c10 := b2i_f c10
    refine lv_iconst (v := -1) hx hb dX8_power_22 (by decide) ?_
    exact wk_mret' hx hb hr hlocks dX8_power_23 hP hS (congrArg (fun z => some (Value.int z)) (show yPower c t w = (-1) from by (simp only [yPower, c10, if_true, if_false, reduceIte, not_true_eq_false, not_false_eq_true, Bool.and_true, Bool.true_and, Bool.and_self, Bool.and_false, Bool.false_and, Bool.false_eq_true]) <;> simp [])) (rfl)
  · have c10 := b2i_t c10
    obtain ⟨j, hj, rfl⟩ := jIsT_n c10 hk7
    have hcl := nI_clamp (show j < 2 ^ 31 by omega)
    refine lv_iload_n hx hb dX8_power_13 rfl (lv_at hl 2 rfl) ?_
    refine lv_iconst (v := 0) hx hb dX8_power_14 (by decide) ?_
    refine lv_iconst (v := 1) hx hb dX8_power_15 (by decide) ?_
    refine wk_read (va_runS (As := [.int w, .int 0, .int 1]) (rest := []) ⟨hx, hb, hml, hown, hts⟩ (c_X8_in l w 0 1) (va_cwS 3 hts gX8_power_X8_in rfl rfl rfl hdS_X8_in ⟨Nat.le_of_ble_eq_true rfl, Nat.le_of_ble_eq_true rfl⟩) preEq rfl rfl hl.1 rfl (lv_room (Nat.le_of_ble_eq_true rfl)) dX8_power_16 ⟨hrc, hrs⟩) ?_
    refine lv_if_ne (tgt := 24) hx hb dX8_power_19 (by decide) (fun c19 => ?_) (fun c19 => ?_)
    · have c19 := b2i_t c19
      refine lv_aload_n hx hb dX8_power_24 rfl (lv_at hl 0 rfl) ?_
      refine lv_aload_n hx hb dX8_power_25 rfl (lv_at hl 0 rfl) ?_
      refine va_get (D := G.1) (v := .ref (a 5)) hx hb hts hin8 hown hK hP 0 (WM_0 G a c) rfl 15 (by decide) hf28 (fun _ h => h) rfl dX8_power_26 ?_
      refine lv_iload_n hx hb dX8_power_29 rfl (lv_at hl 1 rfl) ?_
      refine wk_read (va_runV (As := [.ref (a 5), .int (nI j)]) (rest := []) ⟨hx, hb, hml, hown, hts⟩ (c_X8_speaks l G a c hc j false (by omega)) (cwV 2 hts gX8_power_X8_speaks rfl rfl rfl hdV_X8_speaks ⟨Nat.le_of_ble_eq_true rfl, Nat.le_of_ble_eq_true rfl⟩) (PreW.pre (G := G) (W0 := WM G a c) ⟨hP, hK, hN⟩ (ci := 8) (q0 := 0) rfl rfl) rfl rfl hl.1 rfl (lv_room (Nat.le_of_ble_eq_true rfl)) dX8_power_30 ⟨hrc, hrs⟩) ?_
      refine W.eq (g2 := F0 m 33 ls [.int (b2i (jSpk (qSo c) (qS c) j))]) rfl ?_
      refine lv_if_ne (tgt := 38) hx hb dX8_power_33 (by decide) (fun c33 => ?_) (fun c33 => ?_)
      · have c33 := b2i_t c33
        refine lv_aload_n hx hb dX8_power_38 rfl (lv_at hl 0 rfl) ?_
        refine lv_iload_n hx hb dX8_power_39 rfl (lv_at hl 1 rfl) ?_
        refine wk_read (va_runV (As := [.int (nI j)]) (rest := []) ⟨hx, hb, hml, hown, hts⟩ (c_X8_decides l G a c hc j) (cwV 1 hts gX8_power_X8_decides rfl rfl rfl hdV_X8_decides ⟨Nat.le_of_ble_eq_true rfl, Nat.le_of_ble_eq_true rfl⟩) (PreW.pre (G := G) (W0 := WM G a c) ⟨hP, hK, hN⟩ (ci := 8) (q0 := 0) rfl rfl) rfl rfl hl.1 rfl (lv_room (Nat.le_of_ble_eq_true rfl)) dX8_power_40 ⟨hrc, hrs⟩) ?_
        obtain ⟨u9, hu9, hu2⟩ := jDec_n (qN c 0) (qSo c) (qVo c) (qS c) j; rw [hu2]
        refine lv_istore_n (lv' := [(3, .int (nI u9)), (0, .ref (a 0)), (1, .int (nI j)), (2, .int w)]) hx hb dX8_power_43 rfl hl (by decide) rfl (fun ls hl => ?_)
        refine lv_aload_n hx hb dX8_power_44 rfl (lv_at hl 1 rfl) ?_
        refine lv_aload_n hx hb dX8_power_45 rfl (lv_at hl 1 rfl) ?_
        refine va_get (D := G.1) (v := .ref (a 5)) hx hb hts hin8 hown hK hP 0 (WM_0 G a c) rfl 15 (by decide) hf28 (fun _ h => h) rfl dX8_power_46 ?_
        refine wk_read (va_runV (As := [.ref (a 5)]) (rest := []) ⟨hx, hb, hml, hown, hts⟩ (c_X8_voices l G a c hc  false) (cwV 1 hts gX8_power_X8_voices rfl rfl rfl hdV_X8_voices ⟨Nat.le_of_ble_eq_true rfl, Nat.le_of_ble_eq_true rfl⟩) (PreW.pre (G := G) (W0 := WM G a c) ⟨hP, hK, hN⟩ (ci := 8) (q0 := 0) rfl rfl) rfl rfl hl.1 rfl (lv_room (Nat.le_of_ble_eq_true rfl)) dX8_power_49 ⟨hrc, hrs⟩) ?_
        refine W.eq (g2 := F0 m 52 ls [.int (jVoi (qN c 0) (qSo c) (qS c))]) rfl ?_
        refine wk_read (va_runS (As := [.int (jVoi (qN c 0) (qSo c) (qS c))]) (rest := []) ⟨hx, hb, hml, hown, hts⟩ (c_X8_ones l (jVoi (qN c 0) (qSo c) (qS c))) (va_cwS 1 hts gX8_power_X8_ones rfl rfl rfl hdS_X8_ones ⟨Nat.le_of_ble_eq_true rfl, Nat.le_of_ble_eq_true rfl⟩) preEq rfl rfl hl.1 rfl (lv_room (Nat.le_of_ble_eq_true rfl)) dX8_power_52 ⟨hrc, hrs⟩) ?_
        refine wk_read (va_runS (As := [.int (jOnes (jVoi (qN c 0) (qSo c) (qS c)))]) (rest := []) ⟨hx, hb, hml, hown, hts⟩ (c_X8_orders l (jOnes (jVoi (qN c 0) (qSo c) (qS c))) (jOnes_7 _)) (va_cwS 1 hts gX8_power_X8_orders rfl rfl rfl hdS_X8_orders ⟨Nat.le_of_ble_eq_true rfl, Nat.le_of_ble_eq_true rfl⟩) preEq rfl rfl hl.1 rfl (lv_room (Nat.le_of_ble_eq_true rfl)) dX8_power_55 ⟨hrc, hrs⟩) ?_
        obtain ⟨v9, hv8, hv9, hv2⟩ := jOrd_n (jOnes_7 (jVoi (qN c 0) (qSo c) (qS c))); rw [hv2]
        refine lv_istore (lv' := [(4, .int (nI v9)), (3, .int (nI u9)), (0, .ref (a 0)), (1, .int (nI j)), (2, .int w)]) hx hb dX8_power_58 hl (by decide) rfl (fun ls hl => ?_)
        refine lv_iload_n hx hb dX8_power_60 rfl (lv_at hl 1 rfl) ?_
        refine lv_iload hx hb dX8_power_61 (lv_at hl 0 rfl) ?_
        refine wk_read (va_runS (As := [.int (nI u9), .int (nI v9)]) (rest := []) ⟨hx, hb, hml, hown, hts⟩ (c_X8_gcd l u9 v9 (by omega) (by omega)) (va_cwS 2 hts gX8_power_X8_gcd rfl rfl rfl hdS_X8_gcd ⟨Nat.le_of_ble_eq_true rfl, Nat.le_of_ble_eq_true rfl⟩) preEq rfl rfl hl.1 rfl (lv_room (Nat.le_of_ble_eq_true rfl)) dX8_power_63 ⟨hrc, hrs⟩) ?_
        refine lv_istore (lv' := [(5, .int (nI (Nat.gcd u9 v9))), (4, .int (nI v9)), (3, .int (nI u9)), (0, .ref (a 0)), (1, .int (nI j)), (2, .int w)]) hx hb dX8_power_66 hl (by decide) rfl (fun ls hl => ?_)
        refine lv_iload_n hx hb dX8_power_68 rfl (lv_at hl 5 rfl) ?_
        refine lv_if_ne (tgt := 79) hx hb dX8_power_69 (by decide) (fun c69 => ?_) (fun c69 => ?_)
        · refine lv_iload hx hb dX8_power_79 (lv_at hl 1 rfl) ?_
          refine lv_iload hx hb dX8_power_81 (lv_at hl 0 rfl) ?_
          refine lv_idiv hx hb dX8_power_83 (gcd_z (by omega) (by omega)) ?_
          exact wk_mret' hx hb hr hlocks dX8_power_84 hP hS (congrArg (fun z => some (Value.int z)) (show yPower c (nI j) w = ((nI v9) / (nI (Nat.gcd u9 v9))) from by (simp only [yPower, hcl, c10, c19, c33, hu2, hv2, yRat, nI_clamp (show u9 < 2 ^ 31 by omega), nI_clamp (show v9 < 2 ^ 31 by omega), if_true, if_false, reduceIte, not_true_eq_false, not_false_eq_true, Bool.and_true, Bool.true_and, Bool.and_self, Bool.and_false, Bool.false_and, Bool.false_eq_true]) <;> simp [c69])) (rfl)
        · refine lv_iload_n hx hb dX8_power_72 rfl (lv_at hl 2 rfl) ?_
          refine lv_iload hx hb dX8_power_73 (lv_at hl 0 rfl) ?_
          refine lv_idiv hx hb dX8_power_75 (gcd_z (by omega) (by omega)) ?_
          refine lv_goto (tgt := 84) hx hb dX8_power_76 (by decide) ?_
          exact wk_mret' hx hb hr hlocks dX8_power_84 hP hS (congrArg (fun z => some (Value.int z)) (show yPower c (nI j) w = ((nI u9) / (nI (Nat.gcd u9 v9))) from by (simp only [yPower, hcl, c10, c19, c33, hu2, hv2, yRat, nI_clamp (show u9 < 2 ^ 31 by omega), nI_clamp (show v9 < 2 ^ 31 by omega), if_true, if_false, reduceIte, not_true_eq_false, not_false_eq_true, Bool.and_true, Bool.true_and, Bool.and_self, Bool.and_false, Bool.false_and, Bool.false_eq_true]) <;> simp [c69])) (rfl)
      · have c33 := b2i_f c33
        refine lv_iload_n hx hb dX8_power_36 rfl (lv_at hl 2 rfl) ?_
        exact wk_mret' hx hb hr hlocks dX8_power_37 hP hS (congrArg (fun z => some (Value.int z)) (show yPower c (nI j) w = w from by (simp only [yPower, hcl, c10, c19, c33, if_true, if_false, reduceIte, not_true_eq_false, not_false_eq_true, Bool.and_true, Bool.true_and, Bool.and_self, Bool.and_false, Bool.false_and, Bool.false_eq_true]) <;> simp [])) (rfl)
    · have c19 := b2i_f c19
      refine lv_iconst (v := -1) hx hb dX8_power_22 (by decide) ?_
      exact wk_mret' hx hb hr hlocks dX8_power_23 hP hS (congrArg (fun z => some (Value.int z)) (show yPower c (nI j) w = (-1) from by (simp only [yPower, hcl, c10, c19, if_true, if_false, reduceIte, not_true_eq_false, not_false_eq_true, Bool.and_true, Bool.true_and, Bool.and_self, Bool.and_false, Bool.false_and, Bool.false_eq_true]) <;> simp [])) (rfl)

theorem hdV_X8_odds : yX8_odds.cls = RX8 ∧ yX8_odds.cls ≠ "java/lang/invoke/MethodHandle" ∧ yX8_odds.cls ≠ "java/lang/invoke/VarHandle" ∧ (parseMethodDescriptor yX8_odds.desc).map (fun d => d.parameters.length) = some 3 := by decide +kernel
set_option maxHeartbeats 600000 in
set_option maxRecDepth 100000 in
theorem c_X8_odds (l : Launch) (G : GG) (a : Nat → Nat) (c : JX) (hc : OkJ c) (b : Int32) (d : Int32) (w : Int32) (sz : Nat) : Met l yX8_odds wsX8_odds ({ frames := 3, cells := 0, slots := 0, locals := 68 }) (va_Pc [.ref (a 0), .int b, .int d, .int w] (fun U => PreM G (WM G a c) sz U U.heap)) (Qm G.1 vwCl (some (.int (yOdds c b d w).1)) (WM G a ((yOdds c b d w).2)) (va_A (WM G a c) sz)) 0 0 (va_A (WM G a c) sz) := by
  refine Met.ofW (cc := cX8_odds) (maxL := 9) (ret := (some .int)) (by decide) rfl ?_
  intro p e s m args below meth cd s₁ BB hml hv
  obtain ⟨rfl, ⟨hP, hK, hN⟩, hD0, hsz⟩ := hv
  have hx := BB.exec
  have hb := BB.bytes
  have hr := BB.returns
  have hts := atoms_spec (ws := wsX8_odds) BB.pre
  have hown : s.vm.findClass RX8 = some m.cls := findClass_of_methodNamed BB.named
  have hlocks := BB.notSynchronized
  have hrc : 0 + 0 ≤ (headSpec wsX8_odds ({ frames := 3, cells := 0, slots := 0, locals := 68 })).room.cells := Nat.le_refl _
  have hrs : 0 + 0 ≤ (headSpec wsX8_odds ({ frames := 3, cells := 0, slots := 0, locals := 68 })).room.slots := Nat.le_refl _
  subst hsz
  have hD := hD0.self (sz := s.heap.size)
  generalize hAe : va_A (WM G a c) s.heap.size = A at hD ⊢
  have hA : ∀ q : Nat, s.heap.size ≤ q → A q := fun q h => by rw [← hAe]; exact Or.inr h
  have hS : va_S A s.heap s.heap [] := va_S.rf
  obtain ⟨hk7, ho1, ho5, hl200, hr6, hu10⟩ := id hc
  have hin8 : ∀ w ∈ u_ws RX8 TX8 24, w ∈ wsX8_odds := by decide +kernel
  have hf13 := hts (.fieldLink RX8 13 "RegaliaVotesModel" "many" "[I") (by decide +kernel)
  have hf31 := hts (.fieldLink RX8 31 "RegaliaVotesModel" "w" "[I") (by decide +kernel)
  have hf50 := hts (.fieldLink RX8 50 "RegaliaVotesModel" "thrown" "I") (by decide +kernel)
  have hpw := pw_le ho5
  have hp5 : 10 ^ qN c 1 ≤ 100000 := Nat.le_trans (Nat.pow_le_pow_right (by omega) ho5) (Nat.le_of_ble_eq_true rfl)
  have hp1 : 0 < 10 ^ qN c 1 := Nat.pow_pos (by omega)
  refine wk_enter (n := 9) (Nat.le_of_ble_eq_true rfl) (fun ls hl => ?_)
  have hl : lv_has ls 9 [(0, .ref (a 0)), (1, .int b), (2, .int d), (3, .int w)] := hl
  refine lv_aload_n hx hb dX8_odds_0 rfl (lv_at hl 0 rfl) ?_
  refine lv_iconst (v := 0) hx hb dX8_odds_1 (by decide) ?_
  refine va_put (D := G.1) (v := .int 0) (ty := .int) hx hb hts hin8 tyX8 tyX8_ok nmX8 hown hK hP hD hS 0 (WM_0 G a c) rfl 0 (by decide) hf50 (fun _ h => h) rfl (by decide +kernel) rfl rfl (Nat.le_of_ble_eq_true rfl) dX8_odds_2 (fun H locs hP hD hS => ?_)
  rw [WM_p0_0] at hP hD
  refine lv_iload_n hx hb dX8_odds_5 rfl (lv_at hl 1 rfl) ?_
  refine wk_read (va_runS (As := [.int b]) (rest := []) ⟨hx, hb, hml, hown, hts⟩ (c_X8_isBill l b) (va_cwS 1 hts gX8_odds_X8_isBill rfl rfl rfl hdS_X8_isBill ⟨Nat.le_of_ble_eq_true rfl, Nat.le_of_ble_eq_true rfl⟩) preEq rfl rfl hl.1 rfl (lv_room (Nat.le_of_ble_eq_true rfl)) dX8_odds_6 ⟨hrc, hrs⟩) ?_
  refine lv_if_eq (tgt := 31) hx hb dX8_odds_9 (by decide) (fun c9 => ?_) (fun c9 => ?_)
  · have c9 := b2i_f c9
    refine lv_iconst (v := -1) hx hb dX8_odds_31 (by decide) ?_
    have hq : yOdds c b d w = ((-1), c) := by (simp only [yOdds, c9, if_true, if_false, reduceIte, not_true_eq_false, not_false_eq_true, Bool.and_true, Bool.true_and, Bool.and_self, Bool.and_false, Bool.false_and, Bool.false_eq_true]) <;> rfl
    exact wk_mret' hx hb hr hlocks dX8_odds_32 hP hS (congrArg (fun z => some (Value.int z.1)) hq) (congrArg (fun z => WM G a z.2) hq)
  · have c9 := b2i_t c9
    refine lv_iload_n hx hb dX8_odds_12 rfl (lv_at hl 2 rfl) ?_
    refine lv_iconst (v := 0) hx hb dX8_odds_13 (by decide) ?_
    refine lv_bipush (v := 10) hx hb dX8_odds_14 (by decide) ?_
    refine wk_read (va_runS (As := [.int d, .int 0, .int 10]) (rest := []) ⟨hx, hb, hml, hown, hts⟩ (c_X8_in l d 0 10) (va_cwS 3 hts gX8_odds_X8_in rfl rfl rfl hdS_X8_in ⟨Nat.le_of_ble_eq_true rfl, Nat.le_of_ble_eq_true rfl⟩) preEq rfl rfl hl.1 rfl (lv_room (Nat.le_of_ble_eq_true rfl)) dX8_odds_16 ⟨hrc, hrs⟩) ?_
    refine lv_if_eq (tgt := 31) hx hb dX8_odds_19 (by decide) (fun c19 => ?_) (fun c19 => ?_)
    · have c19 := b2i_f c19
      refine lv_iconst (v := -1) hx hb dX8_odds_31 (by decide) ?_
      have hq : yOdds c b d w = ((-1), c) := by (simp only [yOdds, c9, c19, if_true, if_false, reduceIte, not_true_eq_false, not_false_eq_true, Bool.and_true, Bool.true_and, Bool.and_self, Bool.and_false, Bool.false_and, Bool.false_eq_true]) <;> rfl
      exact wk_mret' hx hb hr hlocks dX8_odds_32 hP hS (congrArg (fun z => some (Value.int z.1)) hq) (congrArg (fun z => WM G a z.2) hq)
    · have c19 := b2i_t c19
      obtain ⟨j, hj, rfl⟩ := pIn_n (m := 10) c19 (by decide)
      have hcl := nI_clamp (show j < 2 ^ 31 by omega)
      refine lv_iload_n hx hb dX8_odds_22 rfl (lv_at hl 3 rfl) ?_
      refine lv_iconst (v := 0) hx hb dX8_odds_23 (by decide) ?_
      refine lv_iconst (v := 1) hx hb dX8_odds_24 (by decide) ?_
      refine wk_read (va_runS (As := [.int w, .int 0, .int 1]) (rest := []) ⟨hx, hb, hml, hown, hts⟩ (c_X8_in l w 0 1) (va_cwS 3 hts gX8_odds_X8_in rfl rfl rfl hdS_X8_in ⟨Nat.le_of_ble_eq_true rfl, Nat.le_of_ble_eq_true rfl⟩) preEq rfl rfl hl.1 rfl (lv_room (Nat.le_of_ble_eq_true rfl)) dX8_odds_25 ⟨hrc, hrs⟩) ?_
      refine lv_if_ne (tgt := 33) hx hb dX8_odds_28 (by decide) (fun c28 => ?_) (fun c28 => ?_)
      · have c28 := b2i_t c28
        refine lv_iconst (v := 0) hx hb dX8_odds_33 (by decide) ?_
        refine lv_istore (lv' := [(4, .int 0), (0, .ref (a 0)), (1, .int b), (2, .int (nI j)), (3, .int w)]) hx hb dX8_odds_34 hl (by decide) rfl (fun ls hl => ?_)
        refine lv_iconst (v := 1) hx hb dX8_odds_36 (by decide) ?_
        refine lv_istore (lv' := [(5, .int 1), (4, .int 0), (0, .ref (a 0)), (1, .int b), (2, .int (nI j)), (3, .int w)]) hx hb dX8_odds_37 hl (by decide) rfl (fun ls hl => ?_)
        refine lv_iconst (v := 0) hx hb dX8_odds_39 (by decide) ?_
        refine lv_istore (lv' := [(6, .int 0), (5, .int 1), (4, .int 0), (0, .ref (a 0)), (1, .int b), (2, .int (nI j)), (3, .int w)]) hx hb dX8_odds_40 hl (by decide) rfl (fun ls hl => ?_)
        refine wk_loop (σ := Nat × Nat) (nL := 9) (fun xσ n => match xσ with | (o, y) => o + n = qN c 1 ∧ y = 10 ^ o) (fun xσ => match xσ with | (o, y) => [(6, .int (nI o)), (5, .int (nI y)), (4, .int 0), (0, .ref (a 0)), (1, .int b), (2, .int (nI j)), (3, .int w)]) (0, 1) (qN c 1) (⟨by omega, rfl⟩) hl ?_
        rintro n42 ⟨o, y⟩ ls hI42 hl ih42
        have hl : lv_has ls 9 [(6, .int (nI o)), (5, .int (nI y)), (4, .int 0), (0, .ref (a 0)), (1, .int b), (2, .int (nI j)), (3, .int w)] := hl
        obtain ⟨ho, hy⟩ := hI42
        refine lv_iload hx hb dX8_odds_42 (lv_at hl 0 rfl) ?_
        refine lv_aload_n hx hb dX8_odds_44 rfl (lv_at hl 3 rfl) ?_
        refine va_get (D := G.1) (v := .ref (a 1)) hx hb hts hin8 hown hK hP 0 (WM_0 G a c) rfl 9 (by decide) hf13 (fun _ h => h) rfl dX8_odds_45 ?_
        refine lv_iconst (v := 1) hx hb dX8_odds_48 (by decide) ?_
        refine wk_iald (i := 1) hx hb hK hP 1 1 (WM_1 G a c) rfl (by omega) (Nat.le_of_ble_eq_true rfl) dX8_odds_49 ?_
        refine wk_ge (x := o) (y := (qN c 1)) (tgt := 66) hx hb (by omega) (by omega) dX8_odds_50 (by decide) (fun c50 => ?_) (fun c50 => ?_)
        · obtain rfl : o = qN c 1 := by omega
          refine lv_aload_n hx hb dX8_odds_66 rfl (lv_at hl 3 rfl) ?_
          refine wk_callA (va_runV (As := []) (rest := []) ⟨hx, hb, hml, hown, hts⟩ (c_X8_asNow l G a c hc H.size) (cwV 0 hts gX8_odds_X8_asNow rfl rfl rfl hdV_X8_asNow ⟨Nat.le_of_ble_eq_true rfl, Nat.le_of_ble_eq_true rfl⟩) ((PreM.mk hP hK hN hD).pre (ci := 8) (q0 := 0) rfl (WM_0 G a c)) rfl rfl hl.1 rfl (lv_room (Nat.le_of_ble_eq_true rfl)) dX8_odds_67 ⟨hrc, hrs⟩) hD hS hA WM_fst (fun H locs hP hD hS => ?_)
          rw [wW_mk] at hP hD
          replace hP : va_P G.1 vwCl (WM G a (mkJ (qTr c) (qTx c) (qTy c) (qNe c) (qTo c) (qPl c) (qVa c) (qFa c) (qN c) (qSo c) (qVo c) (qBi c) (qHo c) (qTd c) (qS c) (qS c) (qKe c) (qIk c) (qUn c) (qUm c) (qRb c) (qRi c) (qRm c))) H := hP
          replace hD : va_D A (WM G a (mkJ (qTr c) (qTx c) (qTy c) (qNe c) (qTo c) (qPl c) (qVa c) (qFa c) (qN c) (qSo c) (qVo c) (qBi c) (qHo c) (qTd c) (qS c) (qS c) (qKe c) (qIk c) (qUn c) (qUm c) (qRb c) (qRi c) (qRm c))) := hD
          refine W.eq (g2 := F0 m 70 ls []) rfl ?_
          refine lv_iconst (v := 0) hx hb dX8_odds_70 (by decide) ?_
          refine lv_istore (lv' := [(6, .int 0), (5, .int (nI y)), (4, .int 0), (0, .ref (a 0)), (1, .int b), (2, .int (nI j)), (3, .int w)]) hx hb dX8_odds_71 hl (by decide) rfl (fun ls hl => ?_)
          have hP : va_P G.1 vwCl (WM G a (mkJ (qTr c) (qTx c) (qTy c) (qNe c) (qTo c) (qPl c) (qVa c) (qFa c) (qN c) (qSo c) (qVo c) (qBi c) (qHo c) (qTd c) (qS c) (upd (qS c) 16 (qS c 16)) (qKe c) (qIk c) (qUn c) (qUm c) (qRb c) (qRi c) (qRm c))) H := by rw [upd_self]; exact hP
          have hD : va_D A (WM G a (mkJ (qTr c) (qTx c) (qTy c) (qNe c) (qTo c) (qPl c) (qVa c) (qFa c) (qN c) (qSo c) (qVo c) (qBi c) (qHo c) (qTd c) (qS c) (upd (qS c) 16 (qS c 16)) (qKe c) (qIk c) (qUn c) (qUm c) (qRb c) (qRi c) (qRm c))) := by rw [upd_self]; exact hD
          refine wk_loopM (σ := Nat × Nat) (nL := 9) (fun xσ n => match xσ with | (i, u) => i + n = 2 ^ qN c 1 ∧ u = yUpF c b j i) (fun xσ => match xσ with | (i, u) => [(6, .int (nI i)), (5, .int (nI y)), (4, .int (nI u)), (0, .ref (a 0)), (1, .int b), (2, .int (nI j)), (3, .int w)]) (fun xσ => match xσ with | (i, u) => WM G a (mkJ (qTr c) (qTx c) (qTy c) (qNe c) (qTo c) (qPl c) (qVa c) (qFa c) (qN c) (qSo c) (qVo c) (qBi c) (qHo c) (qTd c) (qS c) (upd (qS c) 16 (yOdX c i)) (qKe c) (qIk c) (qUn c) (qUm c) (qRb c) (qRi c) (qRm c))) (0, 0) (2 ^ qN c 1) (⟨by omega, rfl⟩) hl hP hD hS ?_
          rintro n73 ⟨i, u⟩ ls H locs hI73 hl hP hD hS ih73
          have hl : lv_has ls 9 [(6, .int (nI i)), (5, .int (nI y)), (4, .int (nI u)), (0, .ref (a 0)), (1, .int b), (2, .int (nI j)), (3, .int w)] := hl
          have hP : va_P G.1 vwCl (WM G a (mkJ (qTr c) (qTx c) (qTy c) (qNe c) (qTo c) (qPl c) (qVa c) (qFa c) (qN c) (qSo c) (qVo c) (qBi c) (qHo c) (qTd c) (qS c) (upd (qS c) 16 (yOdX c i)) (qKe c) (qIk c) (qUn c) (qUm c) (qRb c) (qRi c) (qRm c))) H := hP
          have hD : va_D A (WM G a (mkJ (qTr c) (qTx c) (qTy c) (qNe c) (qTo c) (qPl c) (qVa c) (qFa c) (qN c) (qSo c) (qVo c) (qBi c) (qHo c) (qTd c) (qS c) (upd (qS c) 16 (yOdX c i)) (qKe c) (qIk c) (qUn c) (qUm c) (qRb c) (qRi c) (qRm c))) := hD
          obtain ⟨hi, hu⟩ := hI73
          have hu9 := yUpF_le c b hj ho5 i
          refine lv_iload hx hb dX8_odds_73 (lv_at hl 0 rfl) ?_
          refine lv_iconst (v := 1) hx hb dX8_odds_75 (by decide) ?_
          refine lv_aload_n hx hb dX8_odds_76 rfl (lv_at hl 3 rfl) ?_
          refine va_get (D := G.1) (v := .ref (a 1)) hx hb hts hin8 hown hK hP 0 (WM_0 G a (mkJ (qTr c) (qTx c) (qTy c) (qNe c) (qTo c) (qPl c) (qVa c) (qFa c) (qN c) (qSo c) (qVo c) (qBi c) (qHo c) (qTd c) (qS c) (upd (qS c) 16 (yOdX c i)) (qKe c) (qIk c) (qUn c) (qUm c) (qRb c) (qRi c) (qRm c))) rfl 9 (by decide) hf13 (fun _ h => h) rfl dX8_odds_77 ?_
          refine lv_iconst (v := 1) hx hb dX8_odds_80 (by decide) ?_
          refine wk_iald (i := 1) hx hb hK hP 1 1 (WM_1 G a (mkJ (qTr c) (qTx c) (qTy c) (qNe c) (qTo c) (qPl c) (qVa c) (qFa c) (qN c) (qSo c) (qVo c) (qBi c) (qHo c) (qTd c) (qS c) (upd (qS c) 16 (yOdX c i)) (qKe c) (qIk c) (qUn c) (qUm c) (qRb c) (qRi c) (qRm c))) rfl (by omega) (Nat.le_of_ble_eq_true rfl) dX8_odds_81 ?_
          refine lv_ishl hx hb dX8_odds_82 ?_
          show W _ _ _ _ _ _ _ _ _ _ _ _ _ _ _ (F0 _ _ _ (.int (sh1 (nI (qN c 1))) :: _))
          rw [sh1_pow ho5]
          refine wk_ge (x := i) (y := (2 ^ qN c 1)) (tgt := 171) hx hb (by omega) (by omega) dX8_odds_83 (by decide) (fun c83 => ?_) (fun c83 => ?_)
          · obtain rfl : i = 2 ^ qN c 1 := by omega
            refine lv_iload hx hb dX8_odds_171 (lv_at hl 2 rfl) ?_
            refine lv_iload hx hb dX8_odds_173 (lv_at hl 1 rfl) ?_
            refine wk_read (va_runS (As := [.int (nI u), .int (nI y)]) (rest := []) ⟨hx, hb, hml, hown, hts⟩ (c_X8_gcd l u y (by omega) (by omega)) (va_cwS 2 hts gX8_odds_X8_gcd rfl rfl rfl hdS_X8_gcd ⟨Nat.le_of_ble_eq_true rfl, Nat.le_of_ble_eq_true rfl⟩) preEq rfl rfl hl.1 rfl (lv_room (Nat.le_of_ble_eq_true rfl)) dX8_odds_175 ⟨hrc, hrs⟩) ?_
            refine lv_istore (lv' := [(6, .int (nI (Nat.gcd u y))), (5, .int (nI y)), (4, .int (nI u)), (0, .ref (a 0)), (1, .int b), (2, .int (nI j)), (3, .int w)]) hx hb dX8_odds_178 hl (by decide) rfl (fun ls hl => ?_)
            refine lv_iload_n hx hb dX8_odds_180 rfl (lv_at hl 6 rfl) ?_
            refine lv_if_ne (tgt := 192) hx hb dX8_odds_181 (by decide) (fun c181 => ?_) (fun c181 => ?_)
            · refine lv_iload hx hb dX8_odds_192 (lv_at hl 1 rfl) ?_
              refine lv_iload hx hb dX8_odds_194 (lv_at hl 0 rfl) ?_
              refine lv_idiv hx hb dX8_odds_196 (gcd_z (by omega) (by omega)) ?_
              have hq : yOdds c b (nI j) w = (((nI y) / (nI (Nat.gcd u y))), mkJ (qTr c) (qTx c) (qTy c) (qNe c) (qTo c) (qPl c) (qVa c) (qFa c) (qN c) (qSo c) (qVo c) (qBi c) (qHo c) (qTd c) (qS c) (upd (qS c) 16 (yOdX c (2 ^ qN c 1))) (qKe c) (qIk c) (qUn c) (qUm c) (qRb c) (qRi c) (qRm c)) := by (simp only [yOdds, hcl, c9, c19, c28, yRat, ← hu, ← hy, nI_clamp (show u < 2 ^ 31 by omega), nI_clamp (show y < 2 ^ 31 by omega), c181, if_true, if_false, reduceIte, not_true_eq_false, not_false_eq_true, Bool.and_true, Bool.true_and, Bool.and_self, Bool.and_false, Bool.false_and, Bool.false_eq_true]) <;> rfl
              exact wk_mret' hx hb hr hlocks dX8_odds_197 hP hS (congrArg (fun z => some (Value.int z.1)) hq) (congrArg (fun z => WM G a z.2) hq)
            · refine lv_iload hx hb dX8_odds_184 (lv_at hl 2 rfl) ?_
              refine lv_iload hx hb dX8_odds_186 (lv_at hl 0 rfl) ?_
              refine lv_idiv hx hb dX8_odds_188 (gcd_z (by omega) (by omega)) ?_
              refine lv_goto (tgt := 197) hx hb dX8_odds_189 (by decide) ?_
              have hq : yOdds c b (nI j) w = (((nI u) / (nI (Nat.gcd u y))), mkJ (qTr c) (qTx c) (qTy c) (qNe c) (qTo c) (qPl c) (qVa c) (qFa c) (qN c) (qSo c) (qVo c) (qBi c) (qHo c) (qTd c) (qS c) (upd (qS c) 16 (yOdX c (2 ^ qN c 1))) (qKe c) (qIk c) (qUn c) (qUm c) (qRb c) (qRi c) (qRm c)) := by (simp only [yOdds, hcl, c9, c19, c28, yRat, ← hu, ← hy, nI_clamp (show u < 2 ^ 31 by omega), nI_clamp (show y < 2 ^ 31 by omega), c181, if_true, if_false, reduceIte, not_true_eq_false, not_false_eq_true, Bool.and_true, Bool.true_and, Bool.and_self, Bool.and_false, Bool.false_and, Bool.false_eq_true]) <;> rfl
              exact wk_mret' hx hb hr hlocks dX8_odds_197 hP hS (congrArg (fun z => some (Value.int z.1)) hq) (congrArg (fun z => WM G a z.2) hq)
          · refine lv_iconst (v := 1) hx hb dX8_odds_86 (by decide) ?_
            refine lv_istore (lv' := [(7, .int 1), (6, .int (nI i)), (5, .int (nI y)), (4, .int (nI u)), (0, .ref (a 0)), (1, .int b), (2, .int (nI j)), (3, .int w)]) hx hb dX8_odds_87 hl (by decide) rfl (fun ls hl => ?_)
            refine lv_iconst (v := 0) hx hb dX8_odds_89 (by decide) ?_
            refine lv_istore (lv' := [(8, .int 0), (7, .int 1), (6, .int (nI i)), (5, .int (nI y)), (4, .int (nI u)), (0, .ref (a 0)), (1, .int b), (2, .int (nI j)), (3, .int w)]) hx hb dX8_odds_90 hl (by decide) rfl (fun ls hl => ?_)
            refine wk_loop (σ := Nat × Nat) (nL := 9) (fun xσ n => match xσ with | (e, v) => e + n = qN c 1 ∧ v = jOdF (nI i) j e) (fun xσ => match xσ with | (e, v) => [(8, .int (nI e)), (7, .int (nI v)), (6, .int (nI i)), (5, .int (nI y)), (4, .int (nI u)), (0, .ref (a 0)), (1, .int b), (2, .int (nI j)), (3, .int w)]) (0, 1) (qN c 1) (⟨by omega, rfl⟩) hl ?_
            rintro n92 ⟨e, v⟩ ls hI92 hl ih92
            have hl : lv_has ls 9 [(8, .int (nI e)), (7, .int (nI v)), (6, .int (nI i)), (5, .int (nI y)), (4, .int (nI u)), (0, .ref (a 0)), (1, .int b), (2, .int (nI j)), (3, .int w)] := hl
            obtain ⟨he, hv⟩ := hI92
            refine lv_iload hx hb dX8_odds_92 (lv_at hl 0 rfl) ?_
            refine lv_aload_n hx hb dX8_odds_94 rfl (lv_at hl 5 rfl) ?_
            refine va_get (D := G.1) (v := .ref (a 1)) hx hb hts hin8 hown hK hP 0 (WM_0 G a (mkJ (qTr c) (qTx c) (qTy c) (qNe c) (qTo c) (qPl c) (qVa c) (qFa c) (qN c) (qSo c) (qVo c) (qBi c) (qHo c) (qTd c) (qS c) (upd (qS c) 16 (yOdX c i)) (qKe c) (qIk c) (qUn c) (qUm c) (qRb c) (qRi c) (qRm c))) rfl 9 (by decide) hf13 (fun _ h => h) rfl dX8_odds_95 ?_
            refine lv_iconst (v := 1) hx hb dX8_odds_98 (by decide) ?_
            refine wk_iald (i := 1) hx hb hK hP 1 1 (WM_1 G a (mkJ (qTr c) (qTx c) (qTy c) (qNe c) (qTo c) (qPl c) (qVa c) (qFa c) (qN c) (qSo c) (qVo c) (qBi c) (qHo c) (qTd c) (qS c) (upd (qS c) 16 (yOdX c i)) (qKe c) (qIk c) (qUn c) (qUm c) (qRb c) (qRi c) (qRm c))) rfl (by omega) (Nat.le_of_ble_eq_true rfl) dX8_odds_99 ?_
            refine wk_ge (x := e) (y := (qN c 1)) (tgt := 133) hx hb (by omega) (by omega) dX8_odds_100 (by decide) (fun c100 => ?_) (fun c100 => ?_)
            · obtain rfl : e = qN c 1 := by omega
              refine lv_aload_n hx hb dX8_odds_133 rfl (lv_at hl 5 rfl) ?_
              refine va_get (D := G.1) (v := .ref (a 6)) hx hb hts hin8 hown hK hP 0 (WM_0 G a (mkJ (qTr c) (qTx c) (qTy c) (qNe c) (qTo c) (qPl c) (qVa c) (qFa c) (qN c) (qSo c) (qVo c) (qBi c) (qHo c) (qTd c) (qS c) (upd (qS c) 16 (yOdX c i)) (qKe c) (qIk c) (qUn c) (qUm c) (qRb c) (qRi c) (qRm c))) rfl 16 (by decide) hf31 (fun _ h => h) rfl dX8_odds_134 ?_
              refine lv_bipush (v := 16) hx hb dX8_odds_137 (by decide) ?_
              refine lv_iload hx hb dX8_odds_139 (lv_at hl 2 rfl) ?_
              refine wk_iast (i := 16) hx hb hK hP hD hS 6 1 (WM_6 G a (mkJ (qTr c) (qTx c) (qTy c) (qNe c) (qTo c) (qPl c) (qVa c) (qFa c) (qN c) (qSo c) (qVo c) (qBi c) (qHo c) (qTd c) (qS c) (upd (qS c) 16 (yOdX c i)) (qKe c) (qIk c) (qUn c) (qUm c) (qRb c) (qRi c) (qRm c))) rfl (by omega) (Nat.le_of_ble_eq_true rfl) dX8_odds_141 (fun H locs hP hD hS => ?_)
              rw [WMk_p6] at hP hD
              replace hP : va_P G.1 vwCl (WM G a (mkJ (qTr c) (qTx c) (qTy c) (qNe c) (qTo c) (qPl c) (qVa c) (qFa c) (qN c) (qSo c) (qVo c) (qBi c) (qHo c) (qTd c) (qS c) (upd (upd (qS c) 16 (yOdX c i)) 16 (nI i)) (qKe c) (qIk c) (qUn c) (qUm c) (qRb c) (qRi c) (qRm c))) H := hP
              replace hD : va_D A (WM G a (mkJ (qTr c) (qTx c) (qTy c) (qNe c) (qTo c) (qPl c) (qVa c) (qFa c) (qN c) (qSo c) (qVo c) (qBi c) (qHo c) (qTd c) (qS c) (upd (upd (qS c) 16 (yOdX c i)) 16 (nI i)) (qKe c) (qIk c) (qUn c) (qUm c) (qRb c) (qRi c) (qRm c))) := hD
              rw [upd_upd] at hP hD
              refine lv_iload hx hb dX8_odds_142 (lv_at hl 4 rfl) ?_
              refine lv_aload_n hx hb dX8_odds_144 rfl (lv_at hl 5 rfl) ?_
              refine lv_aload_n hx hb dX8_odds_145 rfl (lv_at hl 5 rfl) ?_
              refine va_get (D := G.1) (v := .ref (a 6)) hx hb hts hin8 hown hK hP 0 (WM_0 G a (mkJ (qTr c) (qTx c) (qTy c) (qNe c) (qTo c) (qPl c) (qVa c) (qFa c) (qN c) (qSo c) (qVo c) (qBi c) (qHo c) (qTd c) (qS c) (upd (qS c) 16 (nI i)) (qKe c) (qIk c) (qUn c) (qUm c) (qRb c) (qRi c) (qRm c))) rfl 16 (by decide) hf31 (fun _ h => h) rfl dX8_odds_146 ?_
              refine lv_iload_n hx hb dX8_odds_149 rfl (lv_at hl 6 rfl) ?_
              refine wk_read (va_runV (As := [.ref (a 6), .int b]) (rest := [.int (nI u)]) ⟨hx, hb, hml, hown, hts⟩ (c_X8_passes l G a (mkJ (qTr c) (qTx c) (qTy c) (qNe c) (qTo c) (qPl c) (qVa c) (qFa c) (qN c) (qSo c) (qVo c) (qBi c) (qHo c) (qTd c) (qS c) (upd (qS c) 16 (nI i)) (qKe c) (qIk c) (qUn c) (qUm c) (qRb c) (qRi c) (qRm c)) (okJ_mk (by omega) (by omega) (by omega) (by omega) (by omega) (by omega)) b true) (cwV 2 hts gX8_odds_X8_passes rfl rfl rfl hdV_X8_passes ⟨Nat.le_of_ble_eq_true rfl, Nat.le_of_ble_eq_true rfl⟩) (PreW.pre (G := G) (W0 := WM G a (mkJ (qTr c) (qTx c) (qTy c) (qNe c) (qTo c) (qPl c) (qVa c) (qFa c) (qN c) (qSo c) (qVo c) (qBi c) (qHo c) (qTd c) (qS c) (upd (qS c) 16 (nI i)) (qKe c) (qIk c) (qUn c) (qUm c) (qRb c) (qRi c) (qRm c))) ⟨hP, hK, hN⟩ (ci := 8) (q0 := 0) rfl rfl) rfl rfl hl.1 rfl (lv_room (Nat.le_of_ble_eq_true rfl)) dX8_odds_150 ⟨hrc, hrs⟩) ?_
              refine W.eq (g2 := F0 m 153 ls [.int (b2i (jPas ((qN c) 0) (qSo c) (qVo c) (qBi c) (upd (qS c) 16 (nI i)) b)), .int (nI u)]) rfl ?_
              refine lv_if_eq (tgt := 161) hx hb dX8_odds_153 (by decide) (fun c153 => ?_) (fun c153 => ?_)
              · have c153 := b2i_f c153
                refine lv_iconst (v := 0) hx hb dX8_odds_161 (by decide) ?_
                refine wk_iadd (x := u) (y := 0) hx hb dX8_odds_162 ?_
                refine lv_istore (lv' := [(4, .int (nI (u + 0))), (8, .int (nI (qN c 1))), (7, .int (nI v)), (6, .int (nI i)), (5, .int (nI y)), (0, .ref (a 0)), (1, .int b), (2, .int (nI j)), (3, .int w)]) hx hb dX8_odds_163 hl (by decide) rfl (fun ls hl => ?_)
                refine lv_iinc (v := (nI (i + 1))) (lv' := [(6, .int (nI (i + 1))), (4, .int (nI (u + 0))), (8, .int (nI (qN c 1))), (7, .int (nI v)), (5, .int (nI y)), (0, .ref (a 0)), (1, .int b), (2, .int (nI j)), (3, .int w)]) hx hb dX8_odds_165 hl (k := 3) rfl (wk_i1 i) (by decide) rfl (fun ls hl => ?_)
                refine lv_goto (tgt := 73) hx hb dX8_odds_168 (by decide) ?_
                exact ih73 (i + 1, (u + 0)) (n73 - 1) ls H _ (by omega) (⟨by omega, by rw [hu, yUpF, fo_s, ← yUpF]; simp [c153, hv]⟩) (lv_sub hl [0, 4, 1, 5, 6, 7, 8] rfl) hP hD hS
              · have c153 := b2i_t c153
                refine lv_iload hx hb dX8_odds_156 (lv_at hl 1 rfl) ?_
                refine lv_goto (tgt := 162) hx hb dX8_odds_158 (by decide) ?_
                refine wk_iadd (x := u) (y := v) hx hb dX8_odds_162 ?_
                refine lv_istore (lv' := [(4, .int (nI (u + v))), (8, .int (nI (qN c 1))), (7, .int (nI v)), (6, .int (nI i)), (5, .int (nI y)), (0, .ref (a 0)), (1, .int b), (2, .int (nI j)), (3, .int w)]) hx hb dX8_odds_163 hl (by decide) rfl (fun ls hl => ?_)
                refine lv_iinc (v := (nI (i + 1))) (lv' := [(6, .int (nI (i + 1))), (4, .int (nI (u + v))), (8, .int (nI (qN c 1))), (7, .int (nI v)), (5, .int (nI y)), (0, .ref (a 0)), (1, .int b), (2, .int (nI j)), (3, .int w)]) hx hb dX8_odds_165 hl (k := 3) rfl (wk_i1 i) (by decide) rfl (fun ls hl => ?_)
                refine lv_goto (tgt := 73) hx hb dX8_odds_168 (by decide) ?_
                exact ih73 (i + 1, (u + v)) (n73 - 1) ls H _ (by omega) (⟨by omega, by rw [hu, yUpF, fo_s, ← yUpF]; simp [c153, hv]⟩) (lv_sub hl [0, 4, 1, 5, 6, 7, 8] rfl) hP hD hS
            · refine lv_iload hx hb dX8_odds_103 (lv_at hl 1 rfl) ?_
              refine lv_iload hx hb dX8_odds_105 (lv_at hl 2 rfl) ?_
              refine lv_iload hx hb dX8_odds_107 (lv_at hl 0 rfl) ?_
              refine lv_ishr hx hb dX8_odds_109 ?_
              refine lv_iconst (v := 1) hx hb dX8_odds_110 (by decide) ?_
              refine lv_iand hx hb dX8_odds_111 ?_
              show W _ _ _ _ _ _ _ _ _ _ _ _ _ _ _ (F0 _ _ _ (.int (bitI (nI i) (nI e)) :: _))
              refine lv_iconst (v := 1) hx hb dX8_odds_112 (by decide) ?_
              refine lv_icmp_ne (tgt := 120) hx hb dX8_odds_113 (by decide) (fun c113 => ?_) (fun c113 => ?_)
              · refine lv_bipush (v := 10) hx hb dX8_odds_120 (by decide) ?_
                refine lv_iload_n hx hb dX8_odds_122 rfl (lv_at hl 7 rfl) ?_
                refine wk_isub (x := 10) (y := j) hx hb (by omega) dX8_odds_123 ?_
                refine wk_imul (x := v) (y := (10 - j)) hx hb dX8_odds_124 ?_
                refine lv_istore (lv' := [(7, .int (nI (v * (10 - j)))), (8, .int (nI e)), (6, .int (nI i)), (5, .int (nI y)), (4, .int (nI u)), (0, .ref (a 0)), (1, .int b), (2, .int (nI j)), (3, .int w)]) hx hb dX8_odds_125 hl (by decide) rfl (fun ls hl => ?_)
                refine lv_iinc (v := (nI (e + 1))) (lv' := [(8, .int (nI (e + 1))), (7, .int (nI (v * (10 - j)))), (6, .int (nI i)), (5, .int (nI y)), (4, .int (nI u)), (0, .ref (a 0)), (1, .int b), (2, .int (nI j)), (3, .int w)]) hx hb dX8_odds_127 hl (k := 1) rfl (wk_i1 e) (by decide) rfl (fun ls hl => ?_)
                refine lv_goto (tgt := 92) hx hb dX8_odds_130 (by decide) ?_
                exact ih92 (e + 1, (v * (10 - j))) (n92 - 1) ls (by omega) (⟨by omega, by rw [hv, jOdF, fo_s, ← jOdF]; simp [c113]⟩) (lv_sub hl [0, 1, 2, 3, 4, 5, 6, 7, 8] rfl)
              · refine lv_iload_n hx hb dX8_odds_116 rfl (lv_at hl 7 rfl) ?_
                refine lv_goto (tgt := 124) hx hb dX8_odds_117 (by decide) ?_
                refine wk_imul (x := v) (y := j) hx hb dX8_odds_124 ?_
                refine lv_istore (lv' := [(7, .int (nI (v * j))), (8, .int (nI e)), (6, .int (nI i)), (5, .int (nI y)), (4, .int (nI u)), (0, .ref (a 0)), (1, .int b), (2, .int (nI j)), (3, .int w)]) hx hb dX8_odds_125 hl (by decide) rfl (fun ls hl => ?_)
                refine lv_iinc (v := (nI (e + 1))) (lv' := [(8, .int (nI (e + 1))), (7, .int (nI (v * j))), (6, .int (nI i)), (5, .int (nI y)), (4, .int (nI u)), (0, .ref (a 0)), (1, .int b), (2, .int (nI j)), (3, .int w)]) hx hb dX8_odds_127 hl (k := 1) rfl (wk_i1 e) (by decide) rfl (fun ls hl => ?_)
                refine lv_goto (tgt := 92) hx hb dX8_odds_130 (by decide) ?_
                exact ih92 (e + 1, (v * j)) (n92 - 1) ls (by omega) (⟨by omega, by rw [hv, jOdF, fo_s, ← jOdF]; simp [c113]⟩) (lv_sub hl [0, 1, 2, 3, 4, 5, 6, 7, 8] rfl)
        · refine lv_iload hx hb dX8_odds_53 (lv_at hl 1 rfl) ?_
          refine lv_bipush (v := 10) hx hb dX8_odds_55 (by decide) ?_
          refine wk_imul (x := y) (y := 10) hx hb dX8_odds_57 ?_
          refine lv_istore (lv' := [(5, .int (nI (y * 10))), (6, .int (nI o)), (4, .int 0), (0, .ref (a 0)), (1, .int b), (2, .int (nI j)), (3, .int w)]) hx hb dX8_odds_58 hl (by decide) rfl (fun ls hl => ?_)
          refine lv_iinc (v := (nI (o + 1))) (lv' := [(6, .int (nI (o + 1))), (5, .int (nI (y * 10))), (4, .int 0), (0, .ref (a 0)), (1, .int b), (2, .int (nI j)), (3, .int w)]) hx hb dX8_odds_60 hl (k := 1) rfl (wk_i1 o) (by decide) rfl (fun ls hl => ?_)
          refine lv_goto (tgt := 42) hx hb dX8_odds_63 (by decide) ?_
          exact ih42 (o + 1, (y * 10)) (n42 - 1) ls (by omega) (⟨by omega, by rw [hy, Nat.pow_succ]⟩) (lv_sub hl [0, 1, 2, 3, 4, 5, 6] rfl)
      · have c28 := b2i_f c28
        refine lv_iconst (v := -1) hx hb dX8_odds_31 (by decide) ?_
        have hq : yOdds c b (nI j) w = ((-1), c) := by (simp only [yOdds, hcl, c9, c19, c28, if_true, if_false, reduceIte, not_true_eq_false, not_false_eq_true, Bool.and_true, Bool.true_and, Bool.and_self, Bool.and_false, Bool.false_and, Bool.false_eq_true]) <;> rfl
        exact wk_mret' hx hb hr hlocks dX8_odds_32 hP hS (congrArg (fun z => some (Value.int z.1)) hq) (congrArg (fun z => WM G a z.2) hq)

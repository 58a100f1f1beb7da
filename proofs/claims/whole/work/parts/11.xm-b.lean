theorem hdV_X5_nextToken : yX5_nextToken.cls = RX5 ∧ yX5_nextToken.cls ≠ "java/lang/invoke/MethodHandle" ∧ yX5_nextToken.cls ≠ "java/lang/invoke/VarHandle" ∧ (parseMethodDescriptor yX5_nextToken.desc).map (fun d => d.parameters.length) = some 0 := by decide +kernel
set_option maxHeartbeats 1000000 in
set_option maxRecDepth 100000 in
theorem c_X5_nextToken (l : Launch) (G : GG) (a : Nat → Nat) (tx : Ar) (c : DS) (hl200 : rLen c.2 ≤ 200) (hpl : rPl c.2 ≤ rLen c.2) (sz : Nat) : Met l yX5_nextToken wsX5_nextToken ({ frames := 2, cells := 0, slots := 0, locals := 43 }) (va_Pc [.ref (a 21)] (fun U => PreM G (WDs G a tx c) sz U U.heap)) (Qm G.1 vwCl (none) (WDs G a tx (c.1, nxT tx c.2)) (va_A (WDs G a tx c) sz)) 0 0 (va_A (WDs G a tx c) sz) := by
  refine Met.ofW (cc := cX5_nextToken) (maxL := 1) (ret := none) (by decide) rfl ?_
  intro p e s m args below meth cd s₁ BB hml hv
  obtain ⟨rfl, ⟨hP, hK, hN⟩, hD0, hsz⟩ := hv
  have hx := BB.exec
  have hb := BB.bytes
  have hr := BB.returns
  have hts := atoms_spec (ws := wsX5_nextToken) BB.pre
  have hown : s.vm.findClass RX5 = some m.cls := findClass_of_methodNamed BB.named
  have hlocks := BB.notSynchronized
  have hrc : 0 + 0 ≤ (headSpec wsX5_nextToken ({ frames := 2, cells := 0, slots := 0, locals := 43 })).room.cells := Nat.le_refl _
  have hrs : 0 + 0 ≤ (headSpec wsX5_nextToken ({ frames := 2, cells := 0, slots := 0, locals := 43 })).room.slots := Nat.le_refl _
  subst hsz
  have hD := hD0.self (sz := s.heap.size)
  generalize hAe : va_A (WDs G a tx c) s.heap.size = A at hD ⊢
  have hA : ∀ q : Nat, s.heap.size ≤ q → A q := fun q h => by rw [← hAe]; exact Or.inr h
  have hS : va_S A s.heap s.heap [] := va_S.rf
  have hin5 : ∀ w ∈ u_ws RX5 TX5 9, w ∈ wsX5_nextToken := by decide +kernel
  have hf9 := hts (.fieldLink RX5 9 "RegaliaVotes$Reader" "length" "I") (by decide +kernel)
  have hf15 := hts (.fieldLink RX5 15 "RegaliaVotes$Reader" "place" "I") (by decide +kernel)
  have hf18 := hts (.fieldLink RX5 18 "RegaliaVotes$Reader" "token" "I") (by decide +kernel)
  have hf21 := hts (.fieldLink RX5 21 "RegaliaVotes$Reader" "tokenPlace" "I") (by decide +kernel)
  have hf34 := hts (.fieldLink RX5 34 "RegaliaVotes$Reader" "text" "[C") (by decide +kernel)
  refine wk_enter (n := 1) (Nat.le_of_ble_eq_true rfl) (fun ls hl => ?_)
  have hl : lv_has ls 1 [(0, .ref (a 21))] := hl
  refine wk_loopM (σ := Nat) (nL := 1) (fun xσ n => match xσ with | q => skF tx (rLen c.2) n q = skB tx (rLen c.2) (rPl c.2) ∧ q + n = rLen c.2 ∧ rPl c.2 ≤ q) (fun xσ => match xσ with | q => [(0, .ref (a 21))]) (fun xσ => match xσ with | q => WDs G a tx (c.1, plR c.2 q)) (rPl c.2) (rLen c.2 - rPl c.2) (⟨rfl, by omega, by omega⟩) hl hP hD hS ?_
  rintro n0 q ls H locs hI0 hl hP hD hS ih0
  have hl : lv_has ls 1 [(0, .ref (a 21))] := hl
  have hP : va_P G.1 vwCl (WDs G a tx (c.1, plR c.2 q)) H := hP
  have hD : va_D A (WDs G a tx (c.1, plR c.2 q)) := hD
  obtain ⟨hs, hq, hq2⟩ := hI0
  refine lv_aload_n hx hb dX5_nextToken_0 rfl (lv_at hl 0 rfl) ?_
  refine va_get (D := G.1) (v := .int (nI q)) hx hb hts hin5 hown hK hP 0 rfl rfl 3 (by decide) hf15 (fun _ h => h) rfl dX5_nextToken_1 ?_
  refine lv_aload_n hx hb dX5_nextToken_4 rfl (lv_at hl 0 rfl) ?_
  refine va_get (D := G.1) (v := .int (nI (rLen c.2))) hx hb hts hin5 hown hK hP 0 rfl rfl 2 (by decide) hf9 (fun _ h => h) rfl dX5_nextToken_5 ?_
  refine wk_ge (x := q) (y := (rLen c.2)) (tgt := 38) hx hb (by omega) (by omega) dX5_nextToken_8 (by decide) (fun c8 => ?_) (fun c8 => ?_)
  · have hsk : skB tx (rLen c.2) (rPl c.2) = q := by rw [← hs]; cases n0 with | zero => rfl | succ k => rw [skF, if_neg (by intro z; exact absurd z.1 (by omega))]
    refine lv_aload_n hx hb dX5_nextToken_38 rfl (lv_at hl 0 rfl) ?_
    refine lv_aload_n hx hb dX5_nextToken_39 rfl (lv_at hl 0 rfl) ?_
    refine va_get (D := G.1) (v := .int (nI q)) hx hb hts hin5 hown hK hP 0 rfl rfl 3 (by decide) hf15 (fun _ h => h) rfl dX5_nextToken_40 ?_
    refine va_put (D := G.1) (v := .int (nI q)) (ty := .int) hx hb hts hin5 tyX5 tyX5_ok nmX5 hown hK hP hD hS 0 rfl rfl 5 (by decide) hf21 (fun _ h => h) rfl (by decide +kernel) rfl rfl (Nat.le_of_ble_eq_true rfl) dX5_nextToken_43 (fun H locs hP hD hS => ?_)
    refine lv_aload_n hx hb dX5_nextToken_46 rfl (lv_at hl 0 rfl) ?_
    refine va_get (D := G.1) (v := .int (nI q)) hx hb hts hin5 hown hK hP 0 rfl rfl 3 (by decide) hf15 (fun _ h => h) rfl dX5_nextToken_47 ?_
    refine lv_aload_n hx hb dX5_nextToken_50 rfl (lv_at hl 0 rfl) ?_
    refine va_get (D := G.1) (v := .int (nI (rLen c.2))) hx hb hts hin5 hown hK hP 0 rfl rfl 2 (by decide) hf9 (fun _ h => h) rfl dX5_nextToken_51 ?_
    refine wk_lt (x := q) (y := (rLen c.2)) (tgt := 65) hx hb (by omega) (by omega) dX5_nextToken_54 (by decide) (fun c54 => ?_) (fun c54 => ?_)
    · refine lv_aload_n hx hb dX5_nextToken_65 rfl (lv_at hl 0 rfl) ?_
      refine va_get (D := G.1) (v := .ref (a 15)) hx hb hts hin5 hown hK hP 0 rfl rfl 0 (by decide) hf34 (fun _ h => h) rfl dX5_nextToken_66 ?_
      refine lv_aload_n hx hb dX5_nextToken_69 rfl (lv_at hl 0 rfl) ?_
      refine va_get (D := G.1) (v := .int (nI q)) hx hb hts hin5 hown hK hP 0 rfl rfl 3 (by decide) hf15 (fun _ h => h) rfl dX5_nextToken_70 ?_
      refine wk_cald (i := q) hx hb hK hP 1 0 rfl rfl (by omega) (Nat.le_of_ble_eq_true rfl) dX5_nextToken_73 ?_
      refine wk_read (va_runS (As := [.int (tx q)]) (rest := []) ⟨hx, hb, hml, hown, hts⟩ (c_X5_isDigit l (tx q)) (va_cwS 1 hts gX5_nextToken_X5_isDigit rfl rfl rfl hdS_X5_isDigit ⟨Nat.le_of_ble_eq_true rfl, Nat.le_of_ble_eq_true rfl⟩) preEq rfl rfl hl.1 rfl (lv_room (Nat.le_of_ble_eq_true rfl)) dX5_nextToken_74 ⟨hrc, hrs⟩) ?_
      refine lv_if_eq (tgt := 87) hx hb dX5_nextToken_77 (by decide) (fun c77 => ?_) (fun c77 => ?_)
      · have c77 := b2i_f c77
        refine lv_aload_n hx hb dX5_nextToken_87 rfl (lv_at hl 0 rfl) ?_
        refine lv_aload_n hx hb dX5_nextToken_88 rfl (lv_at hl 0 rfl) ?_
        refine va_get (D := G.1) (v := .ref (a 15)) hx hb hts hin5 hown hK hP 0 rfl rfl 0 (by decide) hf34 (fun _ h => h) rfl dX5_nextToken_89 ?_
        refine lv_aload_n hx hb dX5_nextToken_92 rfl (lv_at hl 0 rfl) ?_
        refine va_get (D := G.1) (v := .int (nI q)) hx hb hts hin5 hown hK hP 0 rfl rfl 3 (by decide) hf15 (fun _ h => h) rfl dX5_nextToken_93 ?_
        refine wk_cald (i := q) hx hb hK hP 1 0 rfl rfl (by omega) (Nat.le_of_ble_eq_true rfl) dX5_nextToken_96 ?_
        refine va_put (D := G.1) (v := .int (tx q)) (ty := .int) hx hb hts hin5 tyX5 tyX5_ok nmX5 hown hK hP hD hS 0 rfl rfl 4 (by decide) hf18 (fun _ h => h) rfl (by decide +kernel) rfl rfl (Nat.le_of_ble_eq_true rfl) dX5_nextToken_97 (fun H locs hP hD hS => ?_)
        refine lv_aload_n hx hb dX5_nextToken_100 rfl (lv_at hl 0 rfl) ?_
        refine lv_dup hx hb dX5_nextToken_101 rfl ?_
        refine va_get (D := G.1) (v := .int (nI q)) hx hb hts hin5 hown hK hP 0 rfl rfl 3 (by decide) hf15 (fun _ h => h) rfl dX5_nextToken_102 ?_
        refine lv_iconst (v := 1) hx hb dX5_nextToken_105 (by decide) ?_
        refine wk_iadd (x := q) (y := 1) hx hb dX5_nextToken_106 ?_
        refine va_put (D := G.1) (v := .int (nI (q + 1))) (ty := .int) hx hb hts hin5 tyX5 tyX5_ok nmX5 hown hK hP hD hS 0 rfl rfl 3 (by decide) hf15 (fun _ h => h) rfl (by decide +kernel) rfl rfl (Nat.le_of_ble_eq_true rfl) dX5_nextToken_107 (fun H locs hP hD hS => ?_)
        exact wk_mvret' hx hb hr hlocks dX5_nextToken_110 hP hS (congrArg (WDs G a tx) (show (c.1, nxT tx c.2) = (c.1, (rLen c.2, q + 1, tx q, q, rNum c.2, rFa c.2, rWa c.2)) from by simp only [nxT, hsk, nxP]; rw [if_neg (by omega), if_neg (by rw [c77]; simp)]))
      · have c77 := b2i_t c77
        have hP : va_P G.1 vwCl (WDs G a tx (c.1, (rLen c.2, q, rTok c.2, q, rNum c.2, rFa c.2, rWa c.2))) H := hP
        have hD : va_D A (WDs G a tx (c.1, (rLen c.2, q, rTok c.2, q, rNum c.2, rFa c.2, rWa c.2))) := hD
        refine lv_aload_n hx hb dX5_nextToken_80 rfl (lv_at hl 0 rfl) ?_
        refine wk_callA (va_runV (As := []) (rest := []) ⟨hx, hb, hml, hown, hts⟩ (c_X5_takeDigits l G a tx (c.1, (rLen c.2, q, rTok c.2, q, rNum c.2, rFa c.2, rWa c.2))  hl200 (Nat.le_refl q) (show q < rLen c.2 by omega) H.size) (cwV 0 hts gX5_nextToken_X5_takeDigits rfl rfl rfl hdV_X5_takeDigits ⟨Nat.le_of_ble_eq_true rfl, Nat.le_of_ble_eq_true rfl⟩) ((PreM.mk hP hK hN hD).pre (ci := 5) (q0 := 0) rfl rfl) rfl rfl hl.1 rfl (lv_room (Nat.le_of_ble_eq_true rfl)) dX5_nextToken_81 ⟨hrc, hrs⟩) hD hS hA WDs_fst (fun H locs hP hD hS => ?_)
        refine W.eq (g2 := F0 m 84 ls []) rfl ?_
        refine lv_goto (tgt := 110) hx hb dX5_nextToken_84 (by decide) ?_
        exact wk_mvret' hx hb hr hlocks dX5_nextToken_110 hP hS (congrArg (WDs G a tx) (show (c.1, nxT tx c.2) = (c.1, tkD tx (rLen c.2, q, rTok c.2, q, rNum c.2, rFa c.2, rWa c.2)) from by simp only [nxT, hsk, nxP]; rw [if_neg (by omega), if_pos c77]))
    · refine lv_aload_n hx hb dX5_nextToken_57 rfl (lv_at hl 0 rfl) ?_
      refine lv_iconst (v := -1) hx hb dX5_nextToken_58 (by decide) ?_
      refine va_put (D := G.1) (v := .int (-1)) (ty := .int) hx hb hts hin5 tyX5 tyX5_ok nmX5 hown hK hP hD hS 0 rfl rfl 4 (by decide) hf18 (fun _ h => h) rfl (by decide +kernel) rfl rfl (Nat.le_of_ble_eq_true rfl) dX5_nextToken_59 (fun H locs hP hD hS => ?_)
      refine lv_goto (tgt := 110) hx hb dX5_nextToken_62 (by decide) ?_
      exact wk_mvret' hx hb hr hlocks dX5_nextToken_110 hP hS (congrArg (WDs G a tx) (show (c.1, nxT tx c.2) = (c.1, (rLen c.2, q, -1, q, rNum c.2, rFa c.2, rWa c.2)) from by simp only [nxT, hsk, nxP]; rw [if_pos c54]))
  · refine lv_aload_n hx hb dX5_nextToken_11 rfl (lv_at hl 0 rfl) ?_
    refine va_get (D := G.1) (v := .ref (a 15)) hx hb hts hin5 hown hK hP 0 rfl rfl 0 (by decide) hf34 (fun _ h => h) rfl dX5_nextToken_12 ?_
    refine lv_aload_n hx hb dX5_nextToken_15 rfl (lv_at hl 0 rfl) ?_
    refine va_get (D := G.1) (v := .int (nI q)) hx hb hts hin5 hown hK hP 0 rfl rfl 3 (by decide) hf15 (fun _ h => h) rfl dX5_nextToken_16 ?_
    refine wk_cald (i := q) hx hb hK hP 1 0 rfl rfl (by omega) (Nat.le_of_ble_eq_true rfl) dX5_nextToken_19 ?_
    refine lv_bipush (v := 32) hx hb dX5_nextToken_20 (by decide) ?_
    refine lv_icmp_ne (tgt := 38) hx hb dX5_nextToken_22 (by decide) (fun c22 => ?_) (fun c22 => ?_)
    · have hsk : skB tx (rLen c.2) (rPl c.2) = q := by rw [← hs]; cases n0 with | zero => rfl | succ k => rw [skF, if_neg (fun z => c22 z.2)]
      refine lv_aload_n hx hb dX5_nextToken_38 rfl (lv_at hl 0 rfl) ?_
      refine lv_aload_n hx hb dX5_nextToken_39 rfl (lv_at hl 0 rfl) ?_
      refine va_get (D := G.1) (v := .int (nI q)) hx hb hts hin5 hown hK hP 0 rfl rfl 3 (by decide) hf15 (fun _ h => h) rfl dX5_nextToken_40 ?_
      refine va_put (D := G.1) (v := .int (nI q)) (ty := .int) hx hb hts hin5 tyX5 tyX5_ok nmX5 hown hK hP hD hS 0 rfl rfl 5 (by decide) hf21 (fun _ h => h) rfl (by decide +kernel) rfl rfl (Nat.le_of_ble_eq_true rfl) dX5_nextToken_43 (fun H locs hP hD hS => ?_)
      refine lv_aload_n hx hb dX5_nextToken_46 rfl (lv_at hl 0 rfl) ?_
      refine va_get (D := G.1) (v := .int (nI q)) hx hb hts hin5 hown hK hP 0 rfl rfl 3 (by decide) hf15 (fun _ h => h) rfl dX5_nextToken_47 ?_
      refine lv_aload_n hx hb dX5_nextToken_50 rfl (lv_at hl 0 rfl) ?_
      refine va_get (D := G.1) (v := .int (nI (rLen c.2))) hx hb hts hin5 hown hK hP 0 rfl rfl 2 (by decide) hf9 (fun _ h => h) rfl dX5_nextToken_51 ?_
      refine wk_lt (x := q) (y := (rLen c.2)) (tgt := 65) hx hb (by omega) (by omega) dX5_nextToken_54 (by decide) (fun c54 => ?_) (fun c54 => ?_)
      · refine lv_aload_n hx hb dX5_nextToken_65 rfl (lv_at hl 0 rfl) ?_
        refine va_get (D := G.1) (v := .ref (a 15)) hx hb hts hin5 hown hK hP 0 rfl rfl 0 (by decide) hf34 (fun _ h => h) rfl dX5_nextToken_66 ?_
        refine lv_aload_n hx hb dX5_nextToken_69 rfl (lv_at hl 0 rfl) ?_
        refine va_get (D := G.1) (v := .int (nI q)) hx hb hts hin5 hown hK hP 0 rfl rfl 3 (by decide) hf15 (fun _ h => h) rfl dX5_nextToken_70 ?_
        refine wk_cald (i := q) hx hb hK hP 1 0 rfl rfl (by omega) (Nat.le_of_ble_eq_true rfl) dX5_nextToken_73 ?_
        refine wk_read (va_runS (As := [.int (tx q)]) (rest := []) ⟨hx, hb, hml, hown, hts⟩ (c_X5_isDigit l (tx q)) (va_cwS 1 hts gX5_nextToken_X5_isDigit rfl rfl rfl hdS_X5_isDigit ⟨Nat.le_of_ble_eq_true rfl, Nat.le_of_ble_eq_true rfl⟩) preEq rfl rfl hl.1 rfl (lv_room (Nat.le_of_ble_eq_true rfl)) dX5_nextToken_74 ⟨hrc, hrs⟩) ?_
        refine lv_if_eq (tgt := 87) hx hb dX5_nextToken_77 (by decide) (fun c77 => ?_) (fun c77 => ?_)
        · have c77 := b2i_f c77
          refine lv_aload_n hx hb dX5_nextToken_87 rfl (lv_at hl 0 rfl) ?_
          refine lv_aload_n hx hb dX5_nextToken_88 rfl (lv_at hl 0 rfl) ?_
          refine va_get (D := G.1) (v := .ref (a 15)) hx hb hts hin5 hown hK hP 0 rfl rfl 0 (by decide) hf34 (fun _ h => h) rfl dX5_nextToken_89 ?_
          refine lv_aload_n hx hb dX5_nextToken_92 rfl (lv_at hl 0 rfl) ?_
          refine va_get (D := G.1) (v := .int (nI q)) hx hb hts hin5 hown hK hP 0 rfl rfl 3 (by decide) hf15 (fun _ h => h) rfl dX5_nextToken_93 ?_
          refine wk_cald (i := q) hx hb hK hP 1 0 rfl rfl (by omega) (Nat.le_of_ble_eq_true rfl) dX5_nextToken_96 ?_
          refine va_put (D := G.1) (v := .int (tx q)) (ty := .int) hx hb hts hin5 tyX5 tyX5_ok nmX5 hown hK hP hD hS 0 rfl rfl 4 (by decide) hf18 (fun _ h => h) rfl (by decide +kernel) rfl rfl (Nat.le_of_ble_eq_true rfl) dX5_nextToken_97 (fun H locs hP hD hS => ?_)
          refine lv_aload_n hx hb dX5_nextToken_100 rfl (lv_at hl 0 rfl) ?_
          refine lv_dup hx hb dX5_nextToken_101 rfl ?_
          refine va_get (D := G.1) (v := .int (nI q)) hx hb hts hin5 hown hK hP 0 rfl rfl 3 (by decide) hf15 (fun _ h => h) rfl dX5_nextToken_102 ?_
          refine lv_iconst (v := 1) hx hb dX5_nextToken_105 (by decide) ?_
          refine wk_iadd (x := q) (y := 1) hx hb dX5_nextToken_106 ?_
          refine va_put (D := G.1) (v := .int (nI (q + 1))) (ty := .int) hx hb hts hin5 tyX5 tyX5_ok nmX5 hown hK hP hD hS 0 rfl rfl 3 (by decide) hf15 (fun _ h => h) rfl (by decide +kernel) rfl rfl (Nat.le_of_ble_eq_true rfl) dX5_nextToken_107 (fun H locs hP hD hS => ?_)
          exact wk_mvret' hx hb hr hlocks dX5_nextToken_110 hP hS (congrArg (WDs G a tx) (show (c.1, nxT tx c.2) = (c.1, (rLen c.2, q + 1, tx q, q, rNum c.2, rFa c.2, rWa c.2)) from by simp only [nxT, hsk, nxP]; rw [if_neg (by omega), if_neg (by rw [c77]; simp)]))
        · have c77 := b2i_t c77
          have hP : va_P G.1 vwCl (WDs G a tx (c.1, (rLen c.2, q, rTok c.2, q, rNum c.2, rFa c.2, rWa c.2))) H := hP
          have hD : va_D A (WDs G a tx (c.1, (rLen c.2, q, rTok c.2, q, rNum c.2, rFa c.2, rWa c.2))) := hD
          refine lv_aload_n hx hb dX5_nextToken_80 rfl (lv_at hl 0 rfl) ?_
          refine wk_callA (va_runV (As := []) (rest := []) ⟨hx, hb, hml, hown, hts⟩ (c_X5_takeDigits l G a tx (c.1, (rLen c.2, q, rTok c.2, q, rNum c.2, rFa c.2, rWa c.2))  hl200 (Nat.le_refl q) (show q < rLen c.2 by omega) H.size) (cwV 0 hts gX5_nextToken_X5_takeDigits rfl rfl rfl hdV_X5_takeDigits ⟨Nat.le_of_ble_eq_true rfl, Nat.le_of_ble_eq_true rfl⟩) ((PreM.mk hP hK hN hD).pre (ci := 5) (q0 := 0) rfl rfl) rfl rfl hl.1 rfl (lv_room (Nat.le_of_ble_eq_true rfl)) dX5_nextToken_81 ⟨hrc, hrs⟩) hD hS hA WDs_fst (fun H locs hP hD hS => ?_)
          refine W.eq (g2 := F0 m 84 ls []) rfl ?_
          refine lv_goto (tgt := 110) hx hb dX5_nextToken_84 (by decide) ?_
          exact wk_mvret' hx hb hr hlocks dX5_nextToken_110 hP hS (congrArg (WDs G a tx) (show (c.1, nxT tx c.2) = (c.1, tkD tx (rLen c.2, q, rTok c.2, q, rNum c.2, rFa c.2, rWa c.2)) from by simp only [nxT, hsk, nxP]; rw [if_neg (by omega), if_pos c77]))
      · refine lv_aload_n hx hb dX5_nextToken_57 rfl (lv_at hl 0 rfl) ?_
        refine lv_iconst (v := -1) hx hb dX5_nextToken_58 (by decide) ?_
        refine va_put (D := G.1) (v := .int (-1)) (ty := .int) hx hb hts hin5 tyX5 tyX5_ok nmX5 hown hK hP hD hS 0 rfl rfl 4 (by decide) hf18 (fun _ h => h) rfl (by decide +kernel) rfl rfl (Nat.le_of_ble_eq_true rfl) dX5_nextToken_59 (fun H locs hP hD hS => ?_)
        refine lv_goto (tgt := 110) hx hb dX5_nextToken_62 (by decide) ?_
        exact wk_mvret' hx hb hr hlocks dX5_nextToken_110 hP hS (congrArg (WDs G a tx) (show (c.1, nxT tx c.2) = (c.1, (rLen c.2, q, -1, q, rNum c.2, rFa c.2, rWa c.2)) from by simp only [nxT, hsk, nxP]; rw [if_pos c54]))
    · refine lv_aload_n hx hb dX5_nextToken_25 rfl (lv_at hl 0 rfl) ?_
      refine lv_dup hx hb dX5_nextToken_26 rfl ?_
      refine va_get (D := G.1) (v := .int (nI q)) hx hb hts hin5 hown hK hP 0 rfl rfl 3 (by decide) hf15 (fun _ h => h) rfl dX5_nextToken_27 ?_
      refine lv_iconst (v := 1) hx hb dX5_nextToken_30 (by decide) ?_
      refine wk_iadd (x := q) (y := 1) hx hb dX5_nextToken_31 ?_
      refine va_put (D := G.1) (v := .int (nI (q + 1))) (ty := .int) hx hb hts hin5 tyX5 tyX5_ok nmX5 hown hK hP hD hS 0 rfl rfl 3 (by decide) hf15 (fun _ h => h) rfl (by decide +kernel) rfl rfl (Nat.le_of_ble_eq_true rfl) dX5_nextToken_32 (fun H locs hP hD hS => ?_)
      refine lv_goto (tgt := 0) hx hb dX5_nextToken_35 (by decide) ?_
      obtain ⟨m0, rfl⟩ : ∃ k, n0 = k + 1 := ⟨n0 - 1, by omega⟩
      exact ih0 (q + 1) m0 ls H _ (by omega) (⟨by rw [← hs, skF, if_pos ⟨c8, c22⟩], by omega, by omega⟩) (lv_sub hl [0] rfl) hP hD hS
theorem hdV_X5_readNumber : yX5_readNumber.cls = RX5 ∧ yX5_readNumber.cls ≠ "java/lang/invoke/MethodHandle" ∧ yX5_readNumber.cls ≠ "java/lang/invoke/VarHandle" ∧ (parseMethodDescriptor yX5_readNumber.desc).map (fun d => d.parameters.length) = some 2 := by decide +kernel
set_option maxHeartbeats 1000000 in
set_option maxRecDepth 100000 in
theorem c_X5_readNumber (l : Launch) (G : GG) (a : Nat → Nat) (tx : Ar) (c : DS) (hc : OkD c) (lo : Nat) (hi : Nat) (hlo : lo ≤ 31) (hhi : hi ≤ 31) (sz : Nat) : Met l yX5_readNumber wsX5_readNumber ({ frames := 3, cells := 0, slots := 0, locals := 63 }) (va_Pc [.ref (a 21), .int (nI lo), .int (nI hi)] (fun U => PreM G (WDs G a tx c) sz U U.heap)) (Qm G.1 vwCl (some (.int (nI ((rdN tx lo hi c.2).1)))) (WDs G a tx (c.1, (rdN tx lo hi c.2).2)) (va_A (WDs G a tx c) sz)) 0 0 (va_A (WDs G a tx c) sz) := by
  refine Met.ofW (cc := cX5_readNumber) (maxL := 3) (ret := (some .int)) (by decide) rfl ?_
  intro p e s m args below meth cd s₁ BB hml hv
  obtain ⟨rfl, ⟨hP, hK, hN⟩, hD0, hsz⟩ := hv
  have hx := BB.exec
  have hb := BB.bytes
  have hr := BB.returns
  have hts := atoms_spec (ws := wsX5_readNumber) BB.pre
  have hown : s.vm.findClass RX5 = some m.cls := findClass_of_methodNamed BB.named
  have hlocks := BB.notSynchronized
  have hrc : 0 + 0 ≤ (headSpec wsX5_readNumber ({ frames := 3, cells := 0, slots := 0, locals := 63 })).room.cells := Nat.le_refl _
  have hrs : 0 + 0 ≤ (headSpec wsX5_readNumber ({ frames := 3, cells := 0, slots := 0, locals := 63 })).room.slots := Nat.le_refl _
  subst hsz
  have hD := hD0.self (sz := s.heap.size)
  generalize hAe : va_A (WDs G a tx c) s.heap.size = A at hD ⊢
  have hA : ∀ q : Nat, s.heap.size ≤ q → A q := fun q h => by rw [← hAe]; exact Or.inr h
  have hS : va_S A s.heap s.heap [] := va_S.rf
  obtain ⟨hk7, ho1, ho5, hl200, hpl, htp, hnu⟩ := id hc
  have hin5 : ∀ w ∈ u_ws RX5 TX5 9, w ∈ wsX5_readNumber := by decide +kernel
  have hf18 := hts (.fieldLink RX5 18 "RegaliaVotes$Reader" "token" "I") (by decide +kernel)
  have hf24 := hts (.fieldLink RX5 24 "RegaliaVotes$Reader" "number" "I") (by decide +kernel)
  refine wk_enter (n := 3) (Nat.le_of_ble_eq_true rfl) (fun ls hl => ?_)
  have hl : lv_has ls 3 [(0, .ref (a 21)), (1, .int (nI lo)), (2, .int (nI hi))] := hl
  refine lv_aload_n hx hb dX5_readNumber_0 rfl (lv_at hl 0 rfl) ?_
  refine wk_callA (va_runV (As := []) (rest := []) ⟨hx, hb, hml, hown, hts⟩ (c_X5_nextToken l G a tx c  ((okD_iff.mp hc).2).1 ((okD_iff.mp hc).2).2.1 s.heap.size) (cwV 0 hts gX5_readNumber_X5_nextToken rfl rfl rfl hdV_X5_nextToken ⟨Nat.le_of_ble_eq_true rfl, Nat.le_of_ble_eq_true rfl⟩) ((PreM.mk hP hK hN hD).pre (ci := 5) (q0 := 0) rfl rfl) rfl rfl hl.1 rfl (lv_room (Nat.le_of_ble_eq_true rfl)) dX5_readNumber_1 ⟨hrc, hrs⟩) hD hS hA WDs_fst (fun H locs hP hD hS => ?_)
  generalize hz1 : (c.1, nxT tx c.2) = z1 at hP hD
  have hc1 : OkD z1 := by rw [← hz1]; exact (okD_iff.mpr ⟨(okD_iff.mp hc).1, (ok_nx (okD_iff.mp hc).2)⟩)
  obtain ⟨⟨ka1, kb1, kc1⟩, ra1, rb1, rc1, rd1⟩ := okD_iff.mp hc1
  refine W.eq (g2 := F0 m 4 ls []) rfl ?_
  refine lv_aload_n hx hb dX5_readNumber_4 rfl (lv_at hl 0 rfl) ?_
  refine va_get (D := G.1) (v := .int (rTok z1.2)) hx hb hts hin5 hown hK hP 0 rfl rfl 4 (by decide) hf18 (fun _ h => h) rfl dX5_readNumber_5 ?_
  refine lv_bipush (v := -2) hx hb dX5_readNumber_8 (by decide) ?_
  refine lv_icmp_ne (tgt := 29) hx hb dX5_readNumber_10 (by decide) (fun c10 => ?_) (fun c10 => ?_)
  · refine lv_aload_n hx hb dX5_readNumber_29 rfl (lv_at hl 0 rfl) ?_
    refine wk_callA (va_runV (As := []) (rest := []) ⟨hx, hb, hml, hown, hts⟩ (c_X5_markFault l G a tx z1 H.size) (cwV 0 hts gX5_readNumber_X5_markFault rfl rfl rfl hdV_X5_markFault ⟨Nat.le_of_ble_eq_true rfl, Nat.le_of_ble_eq_true rfl⟩) ((PreM.mk hP hK hN hD).pre (ci := 5) (q0 := 0) rfl rfl) rfl rfl hl.1 rfl (lv_room (Nat.le_of_ble_eq_true rfl)) dX5_readNumber_30 ⟨hrc, hrs⟩) hD hS hA WDs_fst (fun H locs hP hD hS => ?_)
    generalize hz30 : (z1.1, mkF z1.2) = z30 at hP hD
    have hc30 : OkD z30 := by rw [← hz30]; exact (okD_iff.mpr ⟨(okD_iff.mp hc1).1, (ok_mkF (okD_iff.mp hc1).2)⟩)
    obtain ⟨⟨ka30, kb30, kc30⟩, ra30, rb30, rc30, rd30⟩ := okD_iff.mp hc30
    refine W.eq (g2 := F0 m 33 ls []) rfl ?_
    refine lv_iload_n hx hb dX5_readNumber_33 rfl (lv_at hl 1 rfl) ?_
    exact wk_mret' hx hb hr hlocks dX5_readNumber_34 hP hS (congrArg (fun z => some (Value.int (nI z.1))) (show rdN tx lo hi c.2 = (lo, z30.2) from by subst hz30; subst hz1; simp only [rdN]; rw [if_neg (fun h => by first | exact c10 h.1 | (have := h.2.1; have := h.2.2; dsimp only at *; omega))])) (by rw [show rdN tx lo hi c.2 = (lo, z30.2) from by subst hz30; subst hz1; simp only [rdN]; rw [if_neg (fun h => by first | exact c10 h.1 | (have := h.2.1; have := h.2.2; dsimp only at *; omega))]]; subst hz30; subst hz1; rfl)
  · refine lv_aload_n hx hb dX5_readNumber_13 rfl (lv_at hl 0 rfl) ?_
    refine va_get (D := G.1) (v := .int (nI (rNum z1.2))) hx hb hts hin5 hown hK hP 0 rfl rfl 6 (by decide) hf24 (fun _ h => h) rfl dX5_readNumber_14 ?_
    refine lv_iload_n hx hb dX5_readNumber_17 rfl (lv_at hl 1 rfl) ?_
    refine wk_lt (x := (rNum z1.2)) (y := lo) (tgt := 29) hx hb (by omega) (by omega) dX5_readNumber_18 (by decide) (fun c18 => ?_) (fun c18 => ?_)
    · refine lv_aload_n hx hb dX5_readNumber_29 rfl (lv_at hl 0 rfl) ?_
      refine wk_callA (va_runV (As := []) (rest := []) ⟨hx, hb, hml, hown, hts⟩ (c_X5_markFault l G a tx z1 H.size) (cwV 0 hts gX5_readNumber_X5_markFault rfl rfl rfl hdV_X5_markFault ⟨Nat.le_of_ble_eq_true rfl, Nat.le_of_ble_eq_true rfl⟩) ((PreM.mk hP hK hN hD).pre (ci := 5) (q0 := 0) rfl rfl) rfl rfl hl.1 rfl (lv_room (Nat.le_of_ble_eq_true rfl)) dX5_readNumber_30 ⟨hrc, hrs⟩) hD hS hA WDs_fst (fun H locs hP hD hS => ?_)
      generalize hz30 : (z1.1, mkF z1.2) = z30 at hP hD
      have hc30 : OkD z30 := by rw [← hz30]; exact (okD_iff.mpr ⟨(okD_iff.mp hc1).1, (ok_mkF (okD_iff.mp hc1).2)⟩)
      obtain ⟨⟨ka30, kb30, kc30⟩, ra30, rb30, rc30, rd30⟩ := okD_iff.mp hc30
      refine W.eq (g2 := F0 m 33 ls []) rfl ?_
      refine lv_iload_n hx hb dX5_readNumber_33 rfl (lv_at hl 1 rfl) ?_
      exact wk_mret' hx hb hr hlocks dX5_readNumber_34 hP hS (congrArg (fun z => some (Value.int (nI z.1))) (show rdN tx lo hi c.2 = (lo, z30.2) from by subst hz30; subst hz1; simp only [rdN]; rw [if_neg (fun h => by first | exact c10 h.1 | (have := h.2.1; have := h.2.2; dsimp only at *; omega))])) (by rw [show rdN tx lo hi c.2 = (lo, z30.2) from by subst hz30; subst hz1; simp only [rdN]; rw [if_neg (fun h => by first | exact c10 h.1 | (have := h.2.1; have := h.2.2; dsimp only at *; omega))]]; subst hz30; subst hz1; rfl)
    · refine lv_aload_n hx hb dX5_readNumber_21 rfl (lv_at hl 0 rfl) ?_
      refine va_get (D := G.1) (v := .int (nI (rNum z1.2))) hx hb hts hin5 hown hK hP 0 rfl rfl 6 (by decide) hf24 (fun _ h => h) rfl dX5_readNumber_22 ?_
      refine lv_iload_n hx hb dX5_readNumber_25 rfl (lv_at hl 2 rfl) ?_
      refine wk_le (x := (rNum z1.2)) (y := hi) (tgt := 35) hx hb (by omega) (by omega) dX5_readNumber_26 (by decide) (fun c26 => ?_) (fun c26 => ?_)
      · refine lv_aload_n hx hb dX5_readNumber_35 rfl (lv_at hl 0 rfl) ?_
        refine va_get (D := G.1) (v := .int (nI (rNum z1.2))) hx hb hts hin5 hown hK hP 0 rfl rfl 6 (by decide) hf24 (fun _ h => h) rfl dX5_readNumber_36 ?_
        exact wk_mret' hx hb hr hlocks dX5_readNumber_39 hP hS (congrArg (fun z => some (Value.int (nI z.1))) (show rdN tx lo hi c.2 = (rNum z1.2, z1.2) from by subst hz1; simp only [rdN]; rw [if_pos ⟨c10, c18, c26⟩])) (by rw [show rdN tx lo hi c.2 = (rNum z1.2, z1.2) from by subst hz1; simp only [rdN]; rw [if_pos ⟨c10, c18, c26⟩]]; subst hz1; rfl)
      · refine lv_aload_n hx hb dX5_readNumber_29 rfl (lv_at hl 0 rfl) ?_
        refine wk_callA (va_runV (As := []) (rest := []) ⟨hx, hb, hml, hown, hts⟩ (c_X5_markFault l G a tx z1 H.size) (cwV 0 hts gX5_readNumber_X5_markFault rfl rfl rfl hdV_X5_markFault ⟨Nat.le_of_ble_eq_true rfl, Nat.le_of_ble_eq_true rfl⟩) ((PreM.mk hP hK hN hD).pre (ci := 5) (q0 := 0) rfl rfl) rfl rfl hl.1 rfl (lv_room (Nat.le_of_ble_eq_true rfl)) dX5_readNumber_30 ⟨hrc, hrs⟩) hD hS hA WDs_fst (fun H locs hP hD hS => ?_)
        generalize hz30 : (z1.1, mkF z1.2) = z30 at hP hD
        have hc30 : OkD z30 := by rw [← hz30]; exact (okD_iff.mpr ⟨(okD_iff.mp hc1).1, (ok_mkF (okD_iff.mp hc1).2)⟩)
        obtain ⟨⟨ka30, kb30, kc30⟩, ra30, rb30, rc30, rd30⟩ := okD_iff.mp hc30
        refine W.eq (g2 := F0 m 33 ls []) rfl ?_
        refine lv_iload_n hx hb dX5_readNumber_33 rfl (lv_at hl 1 rfl) ?_
        exact wk_mret' hx hb hr hlocks dX5_readNumber_34 hP hS (congrArg (fun z => some (Value.int (nI z.1))) (show rdN tx lo hi c.2 = (lo, z30.2) from by subst hz30; subst hz1; simp only [rdN]; rw [if_neg (fun h => by first | exact c10 h.1 | (have := h.2.1; have := h.2.2; dsimp only at *; omega))])) (by rw [show rdN tx lo hi c.2 = (lo, z30.2) from by subst hz30; subst hz1; simp only [rdN]; rw [if_neg (fun h => by first | exact c10 h.1 | (have := h.2.1; have := h.2.2; dsimp only at *; omega))]]; subst hz30; subst hz1; rfl)
theorem hdV_X5_readItemEnd : yX5_readItemEnd.cls = RX5 ∧ yX5_readItemEnd.cls ≠ "java/lang/invoke/MethodHandle" ∧ yX5_readItemEnd.cls ≠ "java/lang/invoke/VarHandle" ∧ (parseMethodDescriptor yX5_readItemEnd.desc).map (fun d => d.parameters.length) = some 0 := by decide +kernel
set_option maxHeartbeats 1000000 in
set_option maxRecDepth 100000 in
theorem c_X5_readItemEnd (l : Launch) (G : GG) (a : Nat → Nat) (tx : Ar) (c : DS) (hc : OkD c) (sz : Nat) : Met l yX5_readItemEnd wsX5_readItemEnd ({ frames := 3, cells := 0, slots := 0, locals := 63 }) (va_Pc [.ref (a 21)] (fun U => PreM G (WDs G a tx c) sz U U.heap)) (Qm G.1 vwCl (none) (WDs G a tx (c.1, rdEnd tx c.2)) (va_A (WDs G a tx c) sz)) 0 0 (va_A (WDs G a tx c) sz) := by
  refine Met.ofW (cc := cX5_readItemEnd) (maxL := 1) (ret := none) (by decide) rfl ?_
  intro p e s m args below meth cd s₁ BB hml hv
  obtain ⟨rfl, ⟨hP, hK, hN⟩, hD0, hsz⟩ := hv
  have hx := BB.exec
  have hb := BB.bytes
  have hr := BB.returns
  have hts := atoms_spec (ws := wsX5_readItemEnd) BB.pre
  have hown : s.vm.findClass RX5 = some m.cls := findClass_of_methodNamed BB.named
  have hlocks := BB.notSynchronized
  have hrc : 0 + 0 ≤ (headSpec wsX5_readItemEnd ({ frames := 3, cells := 0, slots := 0, locals := 63 })).room.cells := Nat.le_refl _
  have hrs : 0 + 0 ≤ (headSpec wsX5_readItemEnd ({ frames := 3, cells := 0, slots := 0, locals := 63 })).room.slots := Nat.le_refl _
  subst hsz
  have hD := hD0.self (sz := s.heap.size)
  generalize hAe : va_A (WDs G a tx c) s.heap.size = A at hD ⊢
  have hA : ∀ q : Nat, s.heap.size ≤ q → A q := fun q h => by rw [← hAe]; exact Or.inr h
  have hS : va_S A s.heap s.heap [] := va_S.rf
  obtain ⟨hk7, ho1, ho5, hl200, hpl, htp, hnu⟩ := id hc
  have hin5 : ∀ w ∈ u_ws RX5 TX5 9, w ∈ wsX5_readItemEnd := by decide +kernel
  have hf18 := hts (.fieldLink RX5 18 "RegaliaVotes$Reader" "token" "I") (by decide +kernel)
  refine wk_enter (n := 1) (Nat.le_of_ble_eq_true rfl) (fun ls hl => ?_)
  have hl : lv_has ls 1 [(0, .ref (a 21))] := hl
  refine lv_aload_n hx hb dX5_readItemEnd_0 rfl (lv_at hl 0 rfl) ?_
  refine wk_callA (va_runV (As := []) (rest := []) ⟨hx, hb, hml, hown, hts⟩ (c_X5_nextToken l G a tx c  ((okD_iff.mp hc).2).1 ((okD_iff.mp hc).2).2.1 s.heap.size) (cwV 0 hts gX5_readItemEnd_X5_nextToken rfl rfl rfl hdV_X5_nextToken ⟨Nat.le_of_ble_eq_true rfl, Nat.le_of_ble_eq_true rfl⟩) ((PreM.mk hP hK hN hD).pre (ci := 5) (q0 := 0) rfl rfl) rfl rfl hl.1 rfl (lv_room (Nat.le_of_ble_eq_true rfl)) dX5_readItemEnd_1 ⟨hrc, hrs⟩) hD hS hA WDs_fst (fun H locs hP hD hS => ?_)
  generalize hz1 : (c.1, nxT tx c.2) = z1 at hP hD
  have hc1 : OkD z1 := by rw [← hz1]; exact (okD_iff.mpr ⟨(okD_iff.mp hc).1, (ok_nx (okD_iff.mp hc).2)⟩)
  obtain ⟨⟨ka1, kb1, kc1⟩, ra1, rb1, rc1, rd1⟩ := okD_iff.mp hc1
  refine W.eq (g2 := F0 m 4 ls []) rfl ?_
  refine lv_aload_n hx hb dX5_readItemEnd_4 rfl (lv_at hl 0 rfl) ?_
  refine va_get (D := G.1) (v := .int (rTok z1.2)) hx hb hts hin5 hown hK hP 0 rfl rfl 4 (by decide) hf18 (fun _ h => h) rfl dX5_readItemEnd_5 ?_
  refine lv_bipush (v := 59) hx hb dX5_readItemEnd_8 (by decide) ?_
  refine lv_icmp_eq (tgt := 17) hx hb dX5_readItemEnd_10 (by decide) (fun c10 => ?_) (fun c10 => ?_)
  · exact wk_mvret' hx hb hr hlocks dX5_readItemEnd_17 hP hS (congrArg (WDs G a tx) (show (c.1, rdEnd tx c.2) = z1 from by subst hz1; simp only [rdEnd]; rw [if_pos c10]))
  · refine lv_aload_n hx hb dX5_readItemEnd_13 rfl (lv_at hl 0 rfl) ?_
    refine wk_callA (va_runV (As := []) (rest := []) ⟨hx, hb, hml, hown, hts⟩ (c_X5_markFault l G a tx z1 H.size) (cwV 0 hts gX5_readItemEnd_X5_markFault rfl rfl rfl hdV_X5_markFault ⟨Nat.le_of_ble_eq_true rfl, Nat.le_of_ble_eq_true rfl⟩) ((PreM.mk hP hK hN hD).pre (ci := 5) (q0 := 0) rfl rfl) rfl rfl hl.1 rfl (lv_room (Nat.le_of_ble_eq_true rfl)) dX5_readItemEnd_14 ⟨hrc, hrs⟩) hD hS hA WDs_fst (fun H locs hP hD hS => ?_)
    generalize hz14 : (z1.1, mkF z1.2) = z14 at hP hD
    have hc14 : OkD z14 := by rw [← hz14]; exact (okD_iff.mpr ⟨(okD_iff.mp hc1).1, (ok_mkF (okD_iff.mp hc1).2)⟩)
    obtain ⟨⟨ka14, kb14, kc14⟩, ra14, rb14, rc14, rd14⟩ := okD_iff.mp hc14
    refine W.eq (g2 := F0 m 17 ls []) rfl ?_
    exact wk_mvret' hx hb hr hlocks dX5_readItemEnd_17 hP hS (congrArg (WDs G a tx) (show (c.1, rdEnd tx c.2) = z14 from by subst hz14; subst hz1; simp only [rdEnd]; rw [if_neg c10]))
theorem hdV_X5_readOfficers : yX5_readOfficers.cls = RX5 ∧ yX5_readOfficers.cls ≠ "java/lang/invoke/MethodHandle" ∧ yX5_readOfficers.cls ≠ "java/lang/invoke/VarHandle" ∧ (parseMethodDescriptor yX5_readOfficers.desc).map (fun d => d.parameters.length) = some 1 := by decide +kernel
set_option maxHeartbeats 1000000 in
set_option maxRecDepth 100000 in
theorem c_X5_readOfficers (l : Launch) (G : GG) (a : Nat → Nat) (tx : Ar) (c : DS) (hc : OkD c) (items : Nat) (hit : items ≤ 201) (sz : Nat) : Met l yX5_readOfficers wsX5_readOfficers ({ frames := 4, cells := 0, slots := 0, locals := 85 }) (va_Pc [.ref (a 21), .int (nI items)] (fun U => PreM G (WDs G a tx c) sz U U.heap)) (Qm G.1 vwCl (none) (WDs G a tx (rdOff tx items c)) (va_A (WDs G a tx c) sz)) 0 0 (va_A (WDs G a tx c) sz) := by
  refine Met.ofW (cc := cX5_readOfficers) (maxL := 2) (ret := none) (by decide) rfl ?_
  intro p e s m args below meth cd s₁ BB hml hv
  obtain ⟨rfl, ⟨hP, hK, hN⟩, hD0, hsz⟩ := hv
  have hx := BB.exec
  have hb := BB.bytes
  have hr := BB.returns
  have hts := atoms_spec (ws := wsX5_readOfficers) BB.pre
  have hown : s.vm.findClass RX5 = some m.cls := findClass_of_methodNamed BB.named
  have hlocks := BB.notSynchronized
  have hrc : 0 + 0 ≤ (headSpec wsX5_readOfficers ({ frames := 4, cells := 0, slots := 0, locals := 85 })).room.cells := Nat.le_refl _
  have hrs : 0 + 0 ≤ (headSpec wsX5_readOfficers ({ frames := 4, cells := 0, slots := 0, locals := 85 })).room.slots := Nat.le_refl _
  subst hsz
  have hD := hD0.self (sz := s.heap.size)
  generalize hAe : va_A (WDs G a tx c) s.heap.size = A at hD ⊢
  have hA : ∀ q : Nat, s.heap.size ≤ q → A q := fun q h => by rw [← hAe]; exact Or.inr h
  have hS : va_S A s.heap s.heap [] := va_S.rf
  obtain ⟨hk7, ho1, ho5, hl200, hpl, htp, hnu⟩ := id hc
  have hin0 : ∀ w ∈ u_ws RX0 TX0 7, w ∈ wsX5_readOfficers := by decide +kernel
  have hin5 : ∀ w ∈ u_ws RX5 TX5 9, w ∈ wsX5_readOfficers := by decide +kernel
  have hf38 := hts (.fieldLink RX5 38 "RegaliaVotes$Reader" "draft" "LRegaliaVotes$Council;") (by decide +kernel)
  have hf78 := hts (.fieldLink RX5 78 "RegaliaVotes$Council" "officers" "I") (by decide +kernel)
  refine wk_enter (n := 2) (Nat.le_of_ble_eq_true rfl) (fun ls hl => ?_)
  have hl : lv_has ls 2 [(0, .ref (a 21)), (1, .int (nI items))] := hl
  refine lv_iload_n hx hb dX5_readOfficers_0 rfl (lv_at hl 1 rfl) ?_
  refine lv_if_le (tgt := 8) hx hb dX5_readOfficers_1 (by decide) (fun c1 => ?_) (fun c1 => ?_)
  · have c1 := nI_le0 (by omega) c1
    refine lv_aload_n hx hb dX5_readOfficers_8 rfl (lv_at hl 0 rfl) ?_
    refine va_get (D := G.1) (v := .ref (a 16)) hx hb hts hin5 hown hK hP 0 rfl rfl 1 (by decide) hf38 (fun _ h => h) rfl dX5_readOfficers_9 ?_
    refine lv_aload_n hx hb dX5_readOfficers_12 rfl (lv_at hl 0 rfl) ?_
    refine lv_iconst (v := 1) hx hb dX5_readOfficers_13 (by decide) ?_
    refine lv_iconst (v := 5) hx hb dX5_readOfficers_14 (by decide) ?_
    refine wk_callA (va_runV (As := [.int 1, .int 5]) (rest := [.ref (a 16)]) ⟨hx, hb, hml, hown, hts⟩ (c_X5_readNumber l G a tx c hc 1 5 (by omega) (by omega) s.heap.size) (cwV 2 hts gX5_readOfficers_X5_readNumber rfl rfl rfl hdV_X5_readNumber ⟨Nat.le_of_ble_eq_true rfl, Nat.le_of_ble_eq_true rfl⟩) ((PreM.mk hP hK hN hD).pre (ci := 5) (q0 := 0) rfl rfl) rfl rfl hl.1 rfl (lv_room (Nat.le_of_ble_eq_true rfl)) dX5_readOfficers_15 ⟨hrc, hrs⟩) hD hS hA WDs_fst (fun H locs hP hD hS => ?_)
    generalize hz15 : (c.1, (rdN tx 1 5 c.2).2) = z15 at hP hD
    have hc15 : OkD z15 := by rw [← hz15]; exact (okD_iff.mpr ⟨(okD_iff.mp hc).1, (ok_rdN (okD_iff.mp hc).2)⟩)
    obtain ⟨⟨ka15, kb15, kc15⟩, ra15, rb15, rc15, rd15⟩ := okD_iff.mp hc15
    refine W.eq (g2 := F0 m 18 ls [.int (nI ((rdN tx 1 5 c.2).1)), .ref (a 16)]) rfl ?_
    refine va_put (D := G.1) (v := .int (nI ((rdN tx 1 5 c.2).1))) (ty := .int) hx hb hts hin0 tyX0 tyX0_ok nmX0 hown hK hP hD hS 2 rfl rfl 1 (by decide) hf78 (fun _ h => h) rfl (by decide +kernel) rfl rfl (Nat.le_of_ble_eq_true rfl) dX5_readOfficers_18 (fun H locs hP hD hS => ?_)
    exact wk_mvret' hx hb hr hlocks dX5_readOfficers_21 hP hS (congrArg (WDs G a tx) (show rdOff tx items c = (offT z15.1 (rdN tx 1 5 c.2).1, z15.2) from by subst hz15; simp only [rdOff, offT]; rw [if_neg (by omega)]))
  · have c1 := nI_nle0 c1
    refine lv_aload_n hx hb dX5_readOfficers_4 rfl (lv_at hl 0 rfl) ?_
    refine wk_callA (va_runV (As := []) (rest := []) ⟨hx, hb, hml, hown, hts⟩ (c_X5_markFault l G a tx c s.heap.size) (cwV 0 hts gX5_readOfficers_X5_markFault rfl rfl rfl hdV_X5_markFault ⟨Nat.le_of_ble_eq_true rfl, Nat.le_of_ble_eq_true rfl⟩) ((PreM.mk hP hK hN hD).pre (ci := 5) (q0 := 0) rfl rfl) rfl rfl hl.1 rfl (lv_room (Nat.le_of_ble_eq_true rfl)) dX5_readOfficers_5 ⟨hrc, hrs⟩) hD hS hA WDs_fst (fun H locs hP hD hS => ?_)
    generalize hz5 : (c.1, mkF c.2) = z5 at hP hD
    have hc5 : OkD z5 := by rw [← hz5]; exact (okD_iff.mpr ⟨(okD_iff.mp hc).1, (ok_mkF (okD_iff.mp hc).2)⟩)
    obtain ⟨⟨ka5, kb5, kc5⟩, ra5, rb5, rc5, rd5⟩ := okD_iff.mp hc5
    refine W.eq (g2 := F0 m 8 ls []) rfl ?_
    refine lv_aload_n hx hb dX5_readOfficers_8 rfl (lv_at hl 0 rfl) ?_
    refine va_get (D := G.1) (v := .ref (a 16)) hx hb hts hin5 hown hK hP 0 rfl rfl 1 (by decide) hf38 (fun _ h => h) rfl dX5_readOfficers_9 ?_
    refine lv_aload_n hx hb dX5_readOfficers_12 rfl (lv_at hl 0 rfl) ?_
    refine lv_iconst (v := 1) hx hb dX5_readOfficers_13 (by decide) ?_
    refine lv_iconst (v := 5) hx hb dX5_readOfficers_14 (by decide) ?_
    refine wk_callA (va_runV (As := [.int 1, .int 5]) (rest := [.ref (a 16)]) ⟨hx, hb, hml, hown, hts⟩ (c_X5_readNumber l G a tx z5 hc5 1 5 (by omega) (by omega) H.size) (cwV 2 hts gX5_readOfficers_X5_readNumber rfl rfl rfl hdV_X5_readNumber ⟨Nat.le_of_ble_eq_true rfl, Nat.le_of_ble_eq_true rfl⟩) ((PreM.mk hP hK hN hD).pre (ci := 5) (q0 := 0) rfl rfl) rfl rfl hl.1 rfl (lv_room (Nat.le_of_ble_eq_true rfl)) dX5_readOfficers_15 ⟨hrc, hrs⟩) hD hS hA WDs_fst (fun H locs hP hD hS => ?_)
    generalize hz15 : (z5.1, (rdN tx 1 5 z5.2).2) = z15 at hP hD
    have hc15 : OkD z15 := by rw [← hz15]; exact (okD_iff.mpr ⟨(okD_iff.mp hc5).1, (ok_rdN (okD_iff.mp hc5).2)⟩)
    obtain ⟨⟨ka15, kb15, kc15⟩, ra15, rb15, rc15, rd15⟩ := okD_iff.mp hc15
    refine W.eq (g2 := F0 m 18 ls [.int (nI ((rdN tx 1 5 z5.2).1)), .ref (a 16)]) rfl ?_
    refine va_put (D := G.1) (v := .int (nI ((rdN tx 1 5 z5.2).1))) (ty := .int) hx hb hts hin0 tyX0 tyX0_ok nmX0 hown hK hP hD hS 2 rfl rfl 1 (by decide) hf78 (fun _ h => h) rfl (by decide +kernel) rfl rfl (Nat.le_of_ble_eq_true rfl) dX5_readOfficers_18 (fun H locs hP hD hS => ?_)
    exact wk_mvret' hx hb hr hlocks dX5_readOfficers_21 hP hS (congrArg (WDs G a tx) (show rdOff tx items c = (offT z15.1 (rdN tx 1 5 z5.2).1, z15.2) from by subst hz15; subst hz5; simp only [rdOff, offT]; rw [if_pos (by omega)]))
theorem hdV_X5_readThing : yX5_readThing.cls = RX5 ∧ yX5_readThing.cls ≠ "java/lang/invoke/MethodHandle" ∧ yX5_readThing.cls ≠ "java/lang/invoke/VarHandle" ∧ (parseMethodDescriptor yX5_readThing.desc).map (fun d => d.parameters.length) = some 0 := by decide +kernel
set_option maxHeartbeats 1000000 in
set_option maxRecDepth 100000 in
theorem c_X5_readThing (l : Launch) (G : GG) (a : Nat → Nat) (tx : Ar) (c : DS) (hc : OkD c) (sz : Nat) : Met l yX5_readThing wsX5_readThing ({ frames := 4, cells := 0, slots := 0, locals := 85 }) (va_Pc [.ref (a 21)] (fun U => PreM G (WDs G a tx c) sz U U.heap)) (Qm G.1 vwCl (none) (WDs G a tx (rdThg tx c)) (va_A (WDs G a tx c) sz)) 0 0 (va_A (WDs G a tx c) sz) := by
  refine Met.ofW (cc := cX5_readThing) (maxL := 5) (ret := none) (by decide) rfl ?_
  intro p e s m args below meth cd s₁ BB hml hv
  obtain ⟨rfl, ⟨hP, hK, hN⟩, hD0, hsz⟩ := hv
  have hx := BB.exec
  have hb := BB.bytes
  have hr := BB.returns
  have hts := atoms_spec (ws := wsX5_readThing) BB.pre
  have hown : s.vm.findClass RX5 = some m.cls := findClass_of_methodNamed BB.named
  have hlocks := BB.notSynchronized
  have hrc : 0 + 0 ≤ (headSpec wsX5_readThing ({ frames := 4, cells := 0, slots := 0, locals := 85 })).room.cells := Nat.le_refl _
  have hrs : 0 + 0 ≤ (headSpec wsX5_readThing ({ frames := 4, cells := 0, slots := 0, locals := 85 })).room.slots := Nat.le_refl _
  subst hsz
  have hD := hD0.self (sz := s.heap.size)
  generalize hAe : va_A (WDs G a tx c) s.heap.size = A at hD ⊢
  have hA : ∀ q : Nat, s.heap.size ≤ q → A q := fun q h => by rw [← hAe]; exact Or.inr h
  have hS : va_S A s.heap s.heap [] := va_S.rf
  obtain ⟨hk7, ho1, ho5, hl200, hpl, htp, hnu⟩ := id hc
  have hin0 : ∀ w ∈ u_ws RX0 TX0 7, w ∈ wsX5_readThing := by decide +kernel
  have hin5 : ∀ w ∈ u_ws RX5 TX5 9, w ∈ wsX5_readThing := by decide +kernel
  have hf38 := hts (.fieldLink RX5 38 "RegaliaVotes$Reader" "draft" "LRegaliaVotes$Council;") (by decide +kernel)
  have hf78 := hts (.fieldLink RX5 78 "RegaliaVotes$Council" "officers" "I") (by decide +kernel)
  have hf81 := hts (.fieldLink RX5 81 "RegaliaVotes$Council" "things" "I") (by decide +kernel)
  refine wk_enter (n := 5) (Nat.le_of_ble_eq_true rfl) (fun ls hl => ?_)
  have hl : lv_has ls 5 [(0, .ref (a 21))] := hl
  refine lv_aload_n hx hb dX5_readThing_0 rfl (lv_at hl 0 rfl) ?_
  refine va_get (D := G.1) (v := .ref (a 16)) hx hb hts hin5 hown hK hP 0 rfl rfl 1 (by decide) hf38 (fun _ h => h) rfl dX5_readThing_1 ?_
  refine va_get (D := G.1) (v := .int (nI (kT c.1))) hx hb hts hin0 hown hK hP 2 rfl rfl 0 (by decide) hf81 (fun _ h => h) rfl dX5_readThing_4 ?_
  refine lv_bipush (v := 7) hx hb dX5_readThing_7 (by decide) ?_
  refine wk_lt (x := (kT c.1)) (y := 7) (tgt := 16) hx hb (by omega) (by omega) dX5_readThing_9 (by decide) (fun c9 => ?_) (fun c9 => ?_)
  · refine lv_aload_n hx hb dX5_readThing_16 rfl (lv_at hl 0 rfl) ?_
    refine lv_iconst (v := 0) hx hb dX5_readThing_17 (by decide) ?_
    refine lv_iconst (v := 3) hx hb dX5_readThing_18 (by decide) ?_
    refine wk_callA (va_runV (As := [.int 0, .int 3]) (rest := []) ⟨hx, hb, hml, hown, hts⟩ (c_X5_readNumber l G a tx c hc 0 3 (by omega) (by omega) s.heap.size) (cwV 2 hts gX5_readThing_X5_readNumber rfl rfl rfl hdV_X5_readNumber ⟨Nat.le_of_ble_eq_true rfl, Nat.le_of_ble_eq_true rfl⟩) ((PreM.mk hP hK hN hD).pre (ci := 5) (q0 := 0) rfl rfl) rfl rfl hl.1 rfl (lv_room (Nat.le_of_ble_eq_true rfl)) dX5_readThing_19 ⟨hrc, hrs⟩) hD hS hA WDs_fst (fun H locs hP hD hS => ?_)
    generalize hz19 : (c.1, (rdN tx 0 3 c.2).2) = z19 at hP hD
    have hc19 : OkD z19 := by rw [← hz19]; exact (okD_iff.mpr ⟨(okD_iff.mp hc).1, (ok_rdN (okD_iff.mp hc).2)⟩)
    obtain ⟨⟨ka19, kb19, kc19⟩, ra19, rb19, rc19, rd19⟩ := okD_iff.mp hc19
    refine W.eq (g2 := F0 m 22 ls [.int (nI ((rdN tx 0 3 c.2).1))]) rfl ?_
    refine lv_istore_n (lv' := [(1, .int (nI ((rdN tx 0 3 c.2).1))), (0, .ref (a 21))]) hx hb dX5_readThing_22 rfl hl (by decide) rfl (fun ls hl => ?_)
    refine lv_aload_n hx hb dX5_readThing_23 rfl (lv_at hl 1 rfl) ?_
    refine lv_iconst (v := 1) hx hb dX5_readThing_24 (by decide) ?_
    refine lv_bipush (v := 9) hx hb dX5_readThing_25 (by decide) ?_
    refine wk_callA (va_runV (As := [.int 1, .int 9]) (rest := []) ⟨hx, hb, hml, hown, hts⟩ (c_X5_readNumber l G a tx z19 hc19 1 9 (by omega) (by omega) H.size) (cwV 2 hts gX5_readThing_X5_readNumber rfl rfl rfl hdV_X5_readNumber ⟨Nat.le_of_ble_eq_true rfl, Nat.le_of_ble_eq_true rfl⟩) ((PreM.mk hP hK hN hD).pre (ci := 5) (q0 := 0) rfl rfl) rfl rfl hl.1 rfl (lv_room (Nat.le_of_ble_eq_true rfl)) dX5_readThing_27 ⟨hrc, hrs⟩) hD hS hA WDs_fst (fun H locs hP hD hS => ?_)
    generalize hz27 : (z19.1, (rdN tx 1 9 z19.2).2) = z27 at hP hD
    have hc27 : OkD z27 := by rw [← hz27]; exact (okD_iff.mpr ⟨(okD_iff.mp hc19).1, (ok_rdN (okD_iff.mp hc19).2)⟩)
    obtain ⟨⟨ka27, kb27, kc27⟩, ra27, rb27, rc27, rd27⟩ := okD_iff.mp hc27
    refine W.eq (g2 := F0 m 30 ls [.int (nI ((rdN tx 1 9 z19.2).1))]) rfl ?_
    refine lv_istore_n (lv' := [(2, .int (nI ((rdN tx 1 9 z19.2).1))), (1, .int (nI ((rdN tx 0 3 c.2).1))), (0, .ref (a 21))]) hx hb dX5_readThing_30 rfl hl (by decide) rfl (fun ls hl => ?_)
    refine lv_aload_n hx hb dX5_readThing_31 rfl (lv_at hl 2 rfl) ?_
    refine lv_iconst (v := 0) hx hb dX5_readThing_32 (by decide) ?_
    refine lv_bipush (v := 31) hx hb dX5_readThing_33 (by decide) ?_
    refine wk_callA (va_runV (As := [.int 0, .int 31]) (rest := []) ⟨hx, hb, hml, hown, hts⟩ (c_X5_readNumber l G a tx z27 hc27 0 31 (by omega) (by omega) H.size) (cwV 2 hts gX5_readThing_X5_readNumber rfl rfl rfl hdV_X5_readNumber ⟨Nat.le_of_ble_eq_true rfl, Nat.le_of_ble_eq_true rfl⟩) ((PreM.mk hP hK hN hD).pre (ci := 5) (q0 := 0) rfl rfl) rfl rfl hl.1 rfl (lv_room (Nat.le_of_ble_eq_true rfl)) dX5_readThing_35 ⟨hrc, hrs⟩) hD hS hA WDs_fst (fun H locs hP hD hS => ?_)
    generalize hz35 : (z27.1, (rdN tx 0 31 z27.2).2) = z35 at hP hD
    have hc35 : OkD z35 := by rw [← hz35]; exact (okD_iff.mpr ⟨(okD_iff.mp hc27).1, (ok_rdN (okD_iff.mp hc27).2)⟩)
    obtain ⟨⟨ka35, kb35, kc35⟩, ra35, rb35, rc35, rd35⟩ := okD_iff.mp hc35
    refine W.eq (g2 := F0 m 38 ls [.int (nI ((rdN tx 0 31 z27.2).1))]) rfl ?_
    refine lv_istore_n (lv' := [(3, .int (nI ((rdN tx 0 31 z27.2).1))), (2, .int (nI ((rdN tx 1 9 z19.2).1))), (1, .int (nI ((rdN tx 0 3 c.2).1))), (0, .ref (a 21))]) hx hb dX5_readThing_38 rfl hl (by decide) rfl (fun ls hl => ?_)
    refine lv_aload_n hx hb dX5_readThing_39 rfl (lv_at hl 3 rfl) ?_
    refine lv_iconst (v := 0) hx hb dX5_readThing_40 (by decide) ?_
    refine lv_aload_n hx hb dX5_readThing_41 rfl (lv_at hl 3 rfl) ?_
    refine va_get (D := G.1) (v := .ref (a 16)) hx hb hts hin5 hown hK hP 0 rfl rfl 1 (by decide) hf38 (fun _ h => h) rfl dX5_readThing_42 ?_
    refine va_get (D := G.1) (v := .int (nI (kO z35.1))) hx hb hts hin0 hown hK hP 2 rfl rfl 1 (by decide) hf78 (fun _ h => h) rfl dX5_readThing_45 ?_
    refine lv_iconst (v := 1) hx hb dX5_readThing_48 (by decide) ?_
    refine wk_isub (x := (kO z35.1)) (y := 1) hx hb (by omega) dX5_readThing_49 ?_
    refine wk_callA (va_runV (As := [.int 0, .int (nI ((kO z35.1) - 1))]) (rest := []) ⟨hx, hb, hml, hown, hts⟩ (c_X5_readNumber l G a tx z35 hc35 0 ((kO z35.1) - 1) (by omega) (by omega) H.size) (cwV 2 hts gX5_readThing_X5_readNumber rfl rfl rfl hdV_X5_readNumber ⟨Nat.le_of_ble_eq_true rfl, Nat.le_of_ble_eq_true rfl⟩) ((PreM.mk hP hK hN hD).pre (ci := 5) (q0 := 0) rfl rfl) rfl rfl hl.1 rfl (lv_room (Nat.le_of_ble_eq_true rfl)) dX5_readThing_50 ⟨hrc, hrs⟩) hD hS hA WDs_fst (fun H locs hP hD hS => ?_)
    generalize hz50 : (z35.1, (rdN tx 0 ((kO z35.1) - 1) z35.2).2) = z50 at hP hD
    have hc50 : OkD z50 := by rw [← hz50]; exact (okD_iff.mpr ⟨(okD_iff.mp hc35).1, (ok_rdN (okD_iff.mp hc35).2)⟩)
    obtain ⟨⟨ka50, kb50, kc50⟩, ra50, rb50, rc50, rd50⟩ := okD_iff.mp hc50
    refine W.eq (g2 := F0 m 53 ls [.int (nI ((rdN tx 0 ((kO z35.1) - 1) z35.2).1))]) rfl ?_
    refine lv_istore (lv' := [(4, .int (nI ((rdN tx 0 ((kO z35.1) - 1) z35.2).1))), (3, .int (nI ((rdN tx 0 31 z27.2).1))), (2, .int (nI ((rdN tx 1 9 z19.2).1))), (1, .int (nI ((rdN tx 0 3 c.2).1))), (0, .ref (a 21))]) hx hb dX5_readThing_53 hl (by decide) rfl (fun ls hl => ?_)
    refine lv_aload_n hx hb dX5_readThing_55 rfl (lv_at hl 4 rfl) ?_
    refine va_get (D := G.1) (v := .ref (a 16)) hx hb hts hin5 hown hK hP 0 rfl rfl 1 (by decide) hf38 (fun _ h => h) rfl dX5_readThing_56 ?_
    refine lv_iload_n hx hb dX5_readThing_59 rfl (lv_at hl 3 rfl) ?_
    refine lv_iload_n hx hb dX5_readThing_60 rfl (lv_at hl 2 rfl) ?_
    refine lv_iload_n hx hb dX5_readThing_61 rfl (lv_at hl 1 rfl) ?_
    refine lv_iload hx hb dX5_readThing_62 (lv_at hl 0 rfl) ?_
    refine wk_callA (va_runV (As := [.int (nI ((rdN tx 0 3 c.2).1)), .int (nI ((rdN tx 1 9 z19.2).1)), .int (nI ((rdN tx 0 31 z27.2).1)), .int (nI ((rdN tx 0 ((kO z35.1) - 1) z35.2).1))]) (rest := []) ⟨hx, hb, hml, hown, hts⟩ (c_X0_addThing l G a tx z50 hc50 ((rdN tx 0 3 c.2).1) ((rdN tx 1 9 z19.2).1) ((rdN tx 0 31 z27.2).1) ((rdN tx 0 ((kO z35.1) - 1) z35.2).1) H.size) (cwV 4 hts gX5_readThing_X0_addThing rfl rfl rfl hdV_X0_addThing ⟨Nat.le_of_ble_eq_true rfl, Nat.le_of_ble_eq_true rfl⟩) ((PreM.mk hP hK hN hD).pre (ci := 0) (q0 := 2) rfl rfl) rfl rfl hl.1 rfl (lv_room (Nat.le_of_ble_eq_true rfl)) dX5_readThing_64 ⟨hrc, hrs⟩) hD hS hA WDs_fst (fun H locs hP hD hS => ?_)
    refine W.eq (g2 := F0 m 67 ls []) rfl ?_
    exact wk_mvret' hx hb hr hlocks dX5_readThing_67 hP hS (congrArg (WDs G a tx) (show rdThg tx c = (addT z50.1 ((rdN tx 0 3 c.2).1) ((rdN tx 1 9 z19.2).1) ((rdN tx 0 31 z27.2).1) ((rdN tx 0 ((kO z35.1) - 1) z35.2).1), z50.2) from by subst hz50; subst hz35; subst hz27; subst hz19; simp only [rdThg]; rw [if_pos c9]))
  · refine lv_aload_n hx hb dX5_readThing_12 rfl (lv_at hl 0 rfl) ?_
    refine wk_callA (va_runV (As := []) (rest := []) ⟨hx, hb, hml, hown, hts⟩ (c_X5_markFault l G a tx c s.heap.size) (cwV 0 hts gX5_readThing_X5_markFault rfl rfl rfl hdV_X5_markFault ⟨Nat.le_of_ble_eq_true rfl, Nat.le_of_ble_eq_true rfl⟩) ((PreM.mk hP hK hN hD).pre (ci := 5) (q0 := 0) rfl rfl) rfl rfl hl.1 rfl (lv_room (Nat.le_of_ble_eq_true rfl)) dX5_readThing_13 ⟨hrc, hrs⟩) hD hS hA WDs_fst (fun H locs hP hD hS => ?_)
    generalize hz13 : (c.1, mkF c.2) = z13 at hP hD
    have hc13 : OkD z13 := by rw [← hz13]; exact (okD_iff.mpr ⟨(okD_iff.mp hc).1, (ok_mkF (okD_iff.mp hc).2)⟩)
    obtain ⟨⟨ka13, kb13, kc13⟩, ra13, rb13, rc13, rd13⟩ := okD_iff.mp hc13
    refine W.eq (g2 := F0 m 16 ls []) rfl ?_
    refine lv_aload_n hx hb dX5_readThing_16 rfl (lv_at hl 0 rfl) ?_
    refine lv_iconst (v := 0) hx hb dX5_readThing_17 (by decide) ?_
    refine lv_iconst (v := 3) hx hb dX5_readThing_18 (by decide) ?_
    refine wk_callA (va_runV (As := [.int 0, .int 3]) (rest := []) ⟨hx, hb, hml, hown, hts⟩ (c_X5_readNumber l G a tx z13 hc13 0 3 (by omega) (by omega) H.size) (cwV 2 hts gX5_readThing_X5_readNumber rfl rfl rfl hdV_X5_readNumber ⟨Nat.le_of_ble_eq_true rfl, Nat.le_of_ble_eq_true rfl⟩) ((PreM.mk hP hK hN hD).pre (ci := 5) (q0 := 0) rfl rfl) rfl rfl hl.1 rfl (lv_room (Nat.le_of_ble_eq_true rfl)) dX5_readThing_19 ⟨hrc, hrs⟩) hD hS hA WDs_fst (fun H locs hP hD hS => ?_)
    generalize hz19 : (z13.1, (rdN tx 0 3 z13.2).2) = z19 at hP hD
    have hc19 : OkD z19 := by rw [← hz19]; exact (okD_iff.mpr ⟨(okD_iff.mp hc13).1, (ok_rdN (okD_iff.mp hc13).2)⟩)
    obtain ⟨⟨ka19, kb19, kc19⟩, ra19, rb19, rc19, rd19⟩ := okD_iff.mp hc19
    refine W.eq (g2 := F0 m 22 ls [.int (nI ((rdN tx 0 3 z13.2).1))]) rfl ?_
    refine lv_istore_n (lv' := [(1, .int (nI ((rdN tx 0 3 z13.2).1))), (0, .ref (a 21))]) hx hb dX5_readThing_22 rfl hl (by decide) rfl (fun ls hl => ?_)
    refine lv_aload_n hx hb dX5_readThing_23 rfl (lv_at hl 1 rfl) ?_
    refine lv_iconst (v := 1) hx hb dX5_readThing_24 (by decide) ?_
    refine lv_bipush (v := 9) hx hb dX5_readThing_25 (by decide) ?_
    refine wk_callA (va_runV (As := [.int 1, .int 9]) (rest := []) ⟨hx, hb, hml, hown, hts⟩ (c_X5_readNumber l G a tx z19 hc19 1 9 (by omega) (by omega) H.size) (cwV 2 hts gX5_readThing_X5_readNumber rfl rfl rfl hdV_X5_readNumber ⟨Nat.le_of_ble_eq_true rfl, Nat.le_of_ble_eq_true rfl⟩) ((PreM.mk hP hK hN hD).pre (ci := 5) (q0 := 0) rfl rfl) rfl rfl hl.1 rfl (lv_room (Nat.le_of_ble_eq_true rfl)) dX5_readThing_27 ⟨hrc, hrs⟩) hD hS hA WDs_fst (fun H locs hP hD hS => ?_)
    generalize hz27 : (z19.1, (rdN tx 1 9 z19.2).2) = z27 at hP hD
    have hc27 : OkD z27 := by rw [← hz27]; exact (okD_iff.mpr ⟨(okD_iff.mp hc19).1, (ok_rdN (okD_iff.mp hc19).2)⟩)
    obtain ⟨⟨ka27, kb27, kc27⟩, ra27, rb27, rc27, rd27⟩ := okD_iff.mp hc27
    refine W.eq (g2 := F0 m 30 ls [.int (nI ((rdN tx 1 9 z19.2).1))]) rfl ?_
    refine lv_istore_n (lv' := [(2, .int (nI ((rdN tx 1 9 z19.2).1))), (1, .int (nI ((rdN tx 0 3 z13.2).1))), (0, .ref (a 21))]) hx hb dX5_readThing_30 rfl hl (by decide) rfl (fun ls hl => ?_)
    refine lv_aload_n hx hb dX5_readThing_31 rfl (lv_at hl 2 rfl) ?_
    refine lv_iconst (v := 0) hx hb dX5_readThing_32 (by decide) ?_
    refine lv_bipush (v := 31) hx hb dX5_readThing_33 (by decide) ?_
    refine wk_callA (va_runV (As := [.int 0, .int 31]) (rest := []) ⟨hx, hb, hml, hown, hts⟩ (c_X5_readNumber l G a tx z27 hc27 0 31 (by omega) (by omega) H.size) (cwV 2 hts gX5_readThing_X5_readNumber rfl rfl rfl hdV_X5_readNumber ⟨Nat.le_of_ble_eq_true rfl, Nat.le_of_ble_eq_true rfl⟩) ((PreM.mk hP hK hN hD).pre (ci := 5) (q0 := 0) rfl rfl) rfl rfl hl.1 rfl (lv_room (Nat.le_of_ble_eq_true rfl)) dX5_readThing_35 ⟨hrc, hrs⟩) hD hS hA WDs_fst (fun H locs hP hD hS => ?_)
    generalize hz35 : (z27.1, (rdN tx 0 31 z27.2).2) = z35 at hP hD
    have hc35 : OkD z35 := by rw [← hz35]; exact (okD_iff.mpr ⟨(okD_iff.mp hc27).1, (ok_rdN (okD_iff.mp hc27).2)⟩)
    obtain ⟨⟨ka35, kb35, kc35⟩, ra35, rb35, rc35, rd35⟩ := okD_iff.mp hc35
    refine W.eq (g2 := F0 m 38 ls [.int (nI ((rdN tx 0 31 z27.2).1))]) rfl ?_
    refine lv_istore_n (lv' := [(3, .int (nI ((rdN tx 0 31 z27.2).1))), (2, .int (nI ((rdN tx 1 9 z19.2).1))), (1, .int (nI ((rdN tx 0 3 z13.2).1))), (0, .ref (a 21))]) hx hb dX5_readThing_38 rfl hl (by decide) rfl (fun ls hl => ?_)
    refine lv_aload_n hx hb dX5_readThing_39 rfl (lv_at hl 3 rfl) ?_
    refine lv_iconst (v := 0) hx hb dX5_readThing_40 (by decide) ?_
    refine lv_aload_n hx hb dX5_readThing_41 rfl (lv_at hl 3 rfl) ?_
    refine va_get (D := G.1) (v := .ref (a 16)) hx hb hts hin5 hown hK hP 0 rfl rfl 1 (by decide) hf38 (fun _ h => h) rfl dX5_readThing_42 ?_
    refine va_get (D := G.1) (v := .int (nI (kO z35.1))) hx hb hts hin0 hown hK hP 2 rfl rfl 1 (by decide) hf78 (fun _ h => h) rfl dX5_readThing_45 ?_
    refine lv_iconst (v := 1) hx hb dX5_readThing_48 (by decide) ?_
    refine wk_isub (x := (kO z35.1)) (y := 1) hx hb (by omega) dX5_readThing_49 ?_
    refine wk_callA (va_runV (As := [.int 0, .int (nI ((kO z35.1) - 1))]) (rest := []) ⟨hx, hb, hml, hown, hts⟩ (c_X5_readNumber l G a tx z35 hc35 0 ((kO z35.1) - 1) (by omega) (by omega) H.size) (cwV 2 hts gX5_readThing_X5_readNumber rfl rfl rfl hdV_X5_readNumber ⟨Nat.le_of_ble_eq_true rfl, Nat.le_of_ble_eq_true rfl⟩) ((PreM.mk hP hK hN hD).pre (ci := 5) (q0 := 0) rfl rfl) rfl rfl hl.1 rfl (lv_room (Nat.le_of_ble_eq_true rfl)) dX5_readThing_50 ⟨hrc, hrs⟩) hD hS hA WDs_fst (fun H locs hP hD hS => ?_)
    generalize hz50 : (z35.1, (rdN tx 0 ((kO z35.1) - 1) z35.2).2) = z50 at hP hD
    have hc50 : OkD z50 := by rw [← hz50]; exact (okD_iff.mpr ⟨(okD_iff.mp hc35).1, (ok_rdN (okD_iff.mp hc35).2)⟩)
    obtain ⟨⟨ka50, kb50, kc50⟩, ra50, rb50, rc50, rd50⟩ := okD_iff.mp hc50
    refine W.eq (g2 := F0 m 53 ls [.int (nI ((rdN tx 0 ((kO z35.1) - 1) z35.2).1))]) rfl ?_
    refine lv_istore (lv' := [(4, .int (nI ((rdN tx 0 ((kO z35.1) - 1) z35.2).1))), (3, .int (nI ((rdN tx 0 31 z27.2).1))), (2, .int (nI ((rdN tx 1 9 z19.2).1))), (1, .int (nI ((rdN tx 0 3 z13.2).1))), (0, .ref (a 21))]) hx hb dX5_readThing_53 hl (by decide) rfl (fun ls hl => ?_)
    refine lv_aload_n hx hb dX5_readThing_55 rfl (lv_at hl 4 rfl) ?_
    refine va_get (D := G.1) (v := .ref (a 16)) hx hb hts hin5 hown hK hP 0 rfl rfl 1 (by decide) hf38 (fun _ h => h) rfl dX5_readThing_56 ?_
    refine lv_iload_n hx hb dX5_readThing_59 rfl (lv_at hl 3 rfl) ?_
    refine lv_iload_n hx hb dX5_readThing_60 rfl (lv_at hl 2 rfl) ?_
    refine lv_iload_n hx hb dX5_readThing_61 rfl (lv_at hl 1 rfl) ?_
    refine lv_iload hx hb dX5_readThing_62 (lv_at hl 0 rfl) ?_
    refine wk_callA (va_runV (As := [.int (nI ((rdN tx 0 3 z13.2).1)), .int (nI ((rdN tx 1 9 z19.2).1)), .int (nI ((rdN tx 0 31 z27.2).1)), .int (nI ((rdN tx 0 ((kO z35.1) - 1) z35.2).1))]) (rest := []) ⟨hx, hb, hml, hown, hts⟩ (c_X0_addThing l G a tx z50 hc50 ((rdN tx 0 3 z13.2).1) ((rdN tx 1 9 z19.2).1) ((rdN tx 0 31 z27.2).1) ((rdN tx 0 ((kO z35.1) - 1) z35.2).1) H.size) (cwV 4 hts gX5_readThing_X0_addThing rfl rfl rfl hdV_X0_addThing ⟨Nat.le_of_ble_eq_true rfl, Nat.le_of_ble_eq_true rfl⟩) ((PreM.mk hP hK hN hD).pre (ci := 0) (q0 := 2) rfl rfl) rfl rfl hl.1 rfl (lv_room (Nat.le_of_ble_eq_true rfl)) dX5_readThing_64 ⟨hrc, hrs⟩) hD hS hA WDs_fst (fun H locs hP hD hS => ?_)
    refine W.eq (g2 := F0 m 67 ls []) rfl ?_
    exact wk_mvret' hx hb hr hlocks dX5_readThing_67 hP hS (congrArg (WDs G a tx) (show rdThg tx c = (addT z50.1 ((rdN tx 0 3 z13.2).1) ((rdN tx 1 9 z19.2).1) ((rdN tx 0 31 z27.2).1) ((rdN tx 0 ((kO z35.1) - 1) z35.2).1), z50.2) from by subst hz50; subst hz35; subst hz27; subst hz19; subst hz13; simp only [rdThg]; rw [if_neg (by omega)]))
theorem hdV_X5_readWarmth : yX5_readWarmth.cls = RX5 ∧ yX5_readWarmth.cls ≠ "java/lang/invoke/MethodHandle" ∧ yX5_readWarmth.cls ≠ "java/lang/invoke/VarHandle" ∧ (parseMethodDescriptor yX5_readWarmth.desc).map (fun d => d.parameters.length) = some 0 := by decide +kernel
set_option maxHeartbeats 1000000 in
set_option maxRecDepth 100000 in
theorem c_X5_readWarmth (l : Launch) (G : GG) (a : Nat → Nat) (tx : Ar) (c : DS) (hc : OkD c) (sz : Nat) : Met l yX5_readWarmth wsX5_readWarmth ({ frames := 4, cells := 0, slots := 0, locals := 85 }) (va_Pc [.ref (a 21)] (fun U => PreM G (WDs G a tx c) sz U U.heap)) (Qm G.1 vwCl (none) (WDs G a tx (rdWar tx c)) (va_A (WDs G a tx c) sz)) 0 0 (va_A (WDs G a tx c) sz) := by
  refine Met.ofW (cc := cX5_readWarmth) (maxL := 1) (ret := none) (by decide) rfl ?_
  intro p e s m args below meth cd s₁ BB hml hv
  obtain ⟨rfl, ⟨hP, hK, hN⟩, hD0, hsz⟩ := hv
  have hx := BB.exec
  have hb := BB.bytes
  have hr := BB.returns
  have hts := atoms_spec (ws := wsX5_readWarmth) BB.pre
  have hown : s.vm.findClass RX5 = some m.cls := findClass_of_methodNamed BB.named
  have hlocks := BB.notSynchronized
  have hrc : 0 + 0 ≤ (headSpec wsX5_readWarmth ({ frames := 4, cells := 0, slots := 0, locals := 85 })).room.cells := Nat.le_refl _
  have hrs : 0 + 0 ≤ (headSpec wsX5_readWarmth ({ frames := 4, cells := 0, slots := 0, locals := 85 })).room.slots := Nat.le_refl _
  subst hsz
  have hD := hD0.self (sz := s.heap.size)
  generalize hAe : va_A (WDs G a tx c) s.heap.size = A at hD ⊢
  have hA : ∀ q : Nat, s.heap.size ≤ q → A q := fun q h => by rw [← hAe]; exact Or.inr h
  have hS : va_S A s.heap s.heap [] := va_S.rf
  obtain ⟨hk7, ho1, ho5, hl200, hpl, htp, hnu⟩ := id hc
  have hin0 : ∀ w ∈ u_ws RX0 TX0 7, w ∈ wsX5_readWarmth := by decide +kernel
  have hin5 : ∀ w ∈ u_ws RX5 TX5 9, w ∈ wsX5_readWarmth := by decide +kernel
  have hf30 := hts (.fieldLink RX5 30 "RegaliaVotes$Reader" "warmthTold" "Z") (by decide +kernel)
  have hf38 := hts (.fieldLink RX5 38 "RegaliaVotes$Reader" "draft" "LRegaliaVotes$Council;") (by decide +kernel)
  have hf88 := hts (.fieldLink RX5 88 "RegaliaVotes$Council" "warmth" "I") (by decide +kernel)
  refine wk_enter (n := 1) (Nat.le_of_ble_eq_true rfl) (fun ls hl => ?_)
  have hl : lv_has ls 1 [(0, .ref (a 21))] := hl
  refine lv_aload_n hx hb dX5_readWarmth_0 rfl (lv_at hl 0 rfl) ?_
  refine va_get (D := G.1) (v := .int (b2i (rWa c.2))) hx hb hts hin5 hown hK hP 0 rfl rfl 8 (by decide) hf30 (fun _ h => h) rfl dX5_readWarmth_1 ?_
  refine lv_if_eq (tgt := 11) hx hb dX5_readWarmth_4 (by decide) (fun c4 => ?_) (fun c4 => ?_)
  · have c4 := b2i_f c4
    refine lv_aload_n hx hb dX5_readWarmth_11 rfl (lv_at hl 0 rfl) ?_
    refine lv_iconst (v := 1) hx hb dX5_readWarmth_12 (by decide) ?_
    refine va_put (D := G.1) (v := .int 1) (ty := .boolean) hx hb hts hin5 tyX5 tyX5_ok nmX5 hown hK hP hD hS 0 rfl rfl 8 (by decide) hf30 (fun _ h => h) rfl (by decide +kernel) rfl rfl (Nat.le_of_ble_eq_true rfl) dX5_readWarmth_13 (fun H locs hP hD hS => ?_)
    have hP : va_P G.1 vwCl (WDs G a tx (c.1, wtR c.2)) H := hP
    have hD : va_D A (WDs G a tx (c.1, wtR c.2)) := hD
    have hc16 : OkD (c.1, wtR c.2) := okD_iff.mpr ⟨(okD_iff.mp hc).1, (okD_iff.mp hc).2⟩
    generalize hz16 : (c.1, wtR c.2) = z16 at hP hD hc16
    refine lv_aload_n hx hb dX5_readWarmth_16 rfl (lv_at hl 0 rfl) ?_
    refine va_get (D := G.1) (v := .ref (a 16)) hx hb hts hin5 hown hK hP 0 rfl rfl 1 (by decide) hf38 (fun _ h => h) rfl dX5_readWarmth_17 ?_
    refine lv_aload_n hx hb dX5_readWarmth_20 rfl (lv_at hl 0 rfl) ?_
    refine lv_iconst (v := 0) hx hb dX5_readWarmth_21 (by decide) ?_
    refine lv_bipush (v := 9) hx hb dX5_readWarmth_22 (by decide) ?_
    refine wk_callA (va_runV (As := [.int 0, .int 9]) (rest := [.ref (a 16)]) ⟨hx, hb, hml, hown, hts⟩ (c_X5_readNumber l G a tx z16 hc16 0 9 (by omega) (by omega) H.size) (cwV 2 hts gX5_readWarmth_X5_readNumber rfl rfl rfl hdV_X5_readNumber ⟨Nat.le_of_ble_eq_true rfl, Nat.le_of_ble_eq_true rfl⟩) ((PreM.mk hP hK hN hD).pre (ci := 5) (q0 := 0) rfl rfl) rfl rfl hl.1 rfl (lv_room (Nat.le_of_ble_eq_true rfl)) dX5_readWarmth_24 ⟨hrc, hrs⟩) hD hS hA WDs_fst (fun H locs hP hD hS => ?_)
    generalize hz24 : (z16.1, (rdN tx 0 9 z16.2).2) = z24 at hP hD
    have hc24 : OkD z24 := by rw [← hz24]; exact (okD_iff.mpr ⟨(okD_iff.mp hc16).1, (ok_rdN (okD_iff.mp hc16).2)⟩)
    obtain ⟨⟨ka24, kb24, kc24⟩, ra24, rb24, rc24, rd24⟩ := okD_iff.mp hc24
    refine W.eq (g2 := F0 m 27 ls [.int (nI ((rdN tx 0 9 z16.2).1)), .ref (a 16)]) rfl ?_
    refine va_put (D := G.1) (v := .int (nI ((rdN tx 0 9 z16.2).1))) (ty := .int) hx hb hts hin0 tyX0 tyX0_ok nmX0 hown hK hP hD hS 2 rfl rfl 2 (by decide) hf88 (fun _ h => h) rfl (by decide +kernel) rfl rfl (Nat.le_of_ble_eq_true rfl) dX5_readWarmth_27 (fun H locs hP hD hS => ?_)
    exact wk_mvret' hx hb hr hlocks dX5_readWarmth_30 hP hS (congrArg (WDs G a tx) (show rdWar tx c = (warT z24.1 (rdN tx 0 9 z16.2).1, z24.2) from by subst hz24; subst hz16; simp only [rdWar, warT]; rw [c4]; rfl))
  · have c4 := b2i_t c4
    refine lv_aload_n hx hb dX5_readWarmth_7 rfl (lv_at hl 0 rfl) ?_
    refine wk_callA (va_runV (As := []) (rest := []) ⟨hx, hb, hml, hown, hts⟩ (c_X5_markFault l G a tx c s.heap.size) (cwV 0 hts gX5_readWarmth_X5_markFault rfl rfl rfl hdV_X5_markFault ⟨Nat.le_of_ble_eq_true rfl, Nat.le_of_ble_eq_true rfl⟩) ((PreM.mk hP hK hN hD).pre (ci := 5) (q0 := 0) rfl rfl) rfl rfl hl.1 rfl (lv_room (Nat.le_of_ble_eq_true rfl)) dX5_readWarmth_8 ⟨hrc, hrs⟩) hD hS hA WDs_fst (fun H locs hP hD hS => ?_)
    generalize hz8 : (c.1, mkF c.2) = z8 at hP hD
    have hc8 : OkD z8 := by rw [← hz8]; exact (okD_iff.mpr ⟨(okD_iff.mp hc).1, (ok_mkF (okD_iff.mp hc).2)⟩)
    obtain ⟨⟨ka8, kb8, kc8⟩, ra8, rb8, rc8, rd8⟩ := okD_iff.mp hc8
    refine W.eq (g2 := F0 m 11 ls []) rfl ?_
    refine lv_aload_n hx hb dX5_readWarmth_11 rfl (lv_at hl 0 rfl) ?_
    refine lv_iconst (v := 1) hx hb dX5_readWarmth_12 (by decide) ?_
    refine va_put (D := G.1) (v := .int 1) (ty := .boolean) hx hb hts hin5 tyX5 tyX5_ok nmX5 hown hK hP hD hS 0 rfl rfl 8 (by decide) hf30 (fun _ h => h) rfl (by decide +kernel) rfl rfl (Nat.le_of_ble_eq_true rfl) dX5_readWarmth_13 (fun H locs hP hD hS => ?_)
    have hP : va_P G.1 vwCl (WDs G a tx (z8.1, wtR z8.2)) H := hP
    have hD : va_D A (WDs G a tx (z8.1, wtR z8.2)) := hD
    have hc16 : OkD (z8.1, wtR z8.2) := okD_iff.mpr ⟨(okD_iff.mp hc8).1, (okD_iff.mp hc8).2⟩
    generalize hz16 : (z8.1, wtR z8.2) = z16 at hP hD hc16
    refine lv_aload_n hx hb dX5_readWarmth_16 rfl (lv_at hl 0 rfl) ?_
    refine va_get (D := G.1) (v := .ref (a 16)) hx hb hts hin5 hown hK hP 0 rfl rfl 1 (by decide) hf38 (fun _ h => h) rfl dX5_readWarmth_17 ?_
    refine lv_aload_n hx hb dX5_readWarmth_20 rfl (lv_at hl 0 rfl) ?_
    refine lv_iconst (v := 0) hx hb dX5_readWarmth_21 (by decide) ?_
    refine lv_bipush (v := 9) hx hb dX5_readWarmth_22 (by decide) ?_
    refine wk_callA (va_runV (As := [.int 0, .int 9]) (rest := [.ref (a 16)]) ⟨hx, hb, hml, hown, hts⟩ (c_X5_readNumber l G a tx z16 hc16 0 9 (by omega) (by omega) H.size) (cwV 2 hts gX5_readWarmth_X5_readNumber rfl rfl rfl hdV_X5_readNumber ⟨Nat.le_of_ble_eq_true rfl, Nat.le_of_ble_eq_true rfl⟩) ((PreM.mk hP hK hN hD).pre (ci := 5) (q0 := 0) rfl rfl) rfl rfl hl.1 rfl (lv_room (Nat.le_of_ble_eq_true rfl)) dX5_readWarmth_24 ⟨hrc, hrs⟩) hD hS hA WDs_fst (fun H locs hP hD hS => ?_)
    generalize hz24 : (z16.1, (rdN tx 0 9 z16.2).2) = z24 at hP hD
    have hc24 : OkD z24 := by rw [← hz24]; exact (okD_iff.mpr ⟨(okD_iff.mp hc16).1, (ok_rdN (okD_iff.mp hc16).2)⟩)
    obtain ⟨⟨ka24, kb24, kc24⟩, ra24, rb24, rc24, rd24⟩ := okD_iff.mp hc24
    refine W.eq (g2 := F0 m 27 ls [.int (nI ((rdN tx 0 9 z16.2).1)), .ref (a 16)]) rfl ?_
    refine va_put (D := G.1) (v := .int (nI ((rdN tx 0 9 z16.2).1))) (ty := .int) hx hb hts hin0 tyX0 tyX0_ok nmX0 hown hK hP hD hS 2 rfl rfl 2 (by decide) hf88 (fun _ h => h) rfl (by decide +kernel) rfl rfl (Nat.le_of_ble_eq_true rfl) dX5_readWarmth_27 (fun H locs hP hD hS => ?_)
    exact wk_mvret' hx hb hr hlocks dX5_readWarmth_30 hP hS (congrArg (WDs G a tx) (show rdWar tx c = (warT z24.1 (rdN tx 0 9 z16.2).1, z24.2) from by subst hz24; subst hz16; subst hz8; simp only [rdWar, warT]; rw [c4]; rfl))
theorem hdV_X5_begin : yX5_begin.cls = RX5 ∧ yX5_begin.cls ≠ "java/lang/invoke/MethodHandle" ∧ yX5_begin.cls ≠ "java/lang/invoke/VarHandle" ∧ (parseMethodDescriptor yX5_begin.desc).map (fun d => d.parameters.length) = some 1 := by decide +kernel
set_option maxHeartbeats 1000000 in
set_option maxRecDepth 100000 in
theorem c_X5_begin (l : Launch) (G : GG) (a : Nat → Nat) (tx : Ar) (c : DS) (hc : OkD c) (nl : Nat) (hnl : nl ≤ 200) (sz : Nat) : Met l yX5_begin wsX5_begin ({ frames := 3, cells := 0, slots := 0, locals := 63 }) (va_Pc [.ref (a 21), .int (nI nl)] (fun U => PreM G (WDs G a tx c) sz U U.heap)) (Qm G.1 vwCl (none) (WDs G a tx (rdBeg tx nl c)) (va_A (WDs G a tx c) sz)) 0 0 (va_A (WDs G a tx c) sz) := by
  refine Met.ofW (cc := cX5_begin) (maxL := 2) (ret := none) (by decide) rfl ?_
  intro p e s m args below meth cd s₁ BB hml hv
  obtain ⟨rfl, ⟨hP, hK, hN⟩, hD0, hsz⟩ := hv
  have hx := BB.exec
  have hb := BB.bytes
  have hr := BB.returns
  have hts := atoms_spec (ws := wsX5_begin) BB.pre
  have hown : s.vm.findClass RX5 = some m.cls := findClass_of_methodNamed BB.named
  have hlocks := BB.notSynchronized
  have hrc : 0 + 0 ≤ (headSpec wsX5_begin ({ frames := 3, cells := 0, slots := 0, locals := 63 })).room.cells := Nat.le_refl _
  have hrs : 0 + 0 ≤ (headSpec wsX5_begin ({ frames := 3, cells := 0, slots := 0, locals := 63 })).room.slots := Nat.le_refl _
  subst hsz
  have hD := hD0.self (sz := s.heap.size)
  generalize hAe : va_A (WDs G a tx c) s.heap.size = A at hD ⊢
  have hA : ∀ q : Nat, s.heap.size ≤ q → A q := fun q h => by rw [← hAe]; exact Or.inr h
  have hS : va_S A s.heap s.heap [] := va_S.rf
  obtain ⟨hk7, ho1, ho5, hl200, hpl, htp, hnu⟩ := id hc
  have hin5 : ∀ w ∈ u_ws RX5 TX5 9, w ∈ wsX5_begin := by decide +kernel
  have hf9 := hts (.fieldLink RX5 9 "RegaliaVotes$Reader" "length" "I") (by decide +kernel)
  have hf15 := hts (.fieldLink RX5 15 "RegaliaVotes$Reader" "place" "I") (by decide +kernel)
  have hf27 := hts (.fieldLink RX5 27 "RegaliaVotes$Reader" "fault" "I") (by decide +kernel)
  have hf30 := hts (.fieldLink RX5 30 "RegaliaVotes$Reader" "warmthTold" "Z") (by decide +kernel)
  have hf34 := hts (.fieldLink RX5 34 "RegaliaVotes$Reader" "text" "[C") (by decide +kernel)
  have hf38 := hts (.fieldLink RX5 38 "RegaliaVotes$Reader" "draft" "LRegaliaVotes$Council;") (by decide +kernel)
  refine wk_enter (n := 2) (Nat.le_of_ble_eq_true rfl) (fun ls hl => ?_)
  have hl : lv_has ls 2 [(0, .ref (a 21)), (1, .int (nI nl))] := hl
  refine lv_aload_n hx hb dX5_begin_0 rfl (lv_at hl 0 rfl) ?_
  refine lv_iload_n hx hb dX5_begin_1 rfl (lv_at hl 1 rfl) ?_
  refine lv_aload_n hx hb dX5_begin_2 rfl (lv_at hl 0 rfl) ?_
  refine va_get (D := G.1) (v := .ref (a 15)) hx hb hts hin5 hown hK hP 0 rfl rfl 0 (by decide) hf34 (fun _ h => h) rfl dX5_begin_3 ?_
  refine va_alen (v := 200) hx hb hK hP 1 0 rfl rfl rfl dX5_begin_6 ?_
  refine va_mmin hx hb (hml.trans hl.1.symm) hown (hts (.methodLink RX5 64 Lib.Math.min.name) (by decide +kernel)) (hts (.static Lib.Math.min.name) (by decide +kernel)) (hts (.initialized "java/lang/Math") (by decide +kernel)) (hts (.code Lib.Math.min.name Lib.Math.min.code 2 (some .int)) (by decide +kernel)) (Nat.le_of_ble_eq_true rfl) (Nat.le_of_ble_eq_true rfl) (Nat.zero_le _) (Nat.zero_le _) dX5_begin_7 ?_
  refine W.eq (congrArg (fun z => F0 m 10 ls (.int z :: [.ref (a 21)])) (min_n (x := nl) (y := 200) (by omega) (by omega))) ?_
  refine va_put (D := G.1) (v := .int (nI (min nl 200))) (ty := .int) hx hb hts hin5 tyX5 tyX5_ok nmX5 hown hK hP hD hS 0 rfl rfl 2 (by decide) hf9 (fun _ h => h) rfl (by decide +kernel) rfl rfl (Nat.le_of_ble_eq_true rfl) dX5_begin_10 (fun H locs hP hD hS => ?_)
  refine lv_aload_n hx hb dX5_begin_13 rfl (lv_at hl 0 rfl) ?_
  refine lv_iconst (v := 0) hx hb dX5_begin_14 (by decide) ?_
  refine va_put (D := G.1) (v := .int 0) (ty := .int) hx hb hts hin5 tyX5 tyX5_ok nmX5 hown hK hP hD hS 0 rfl rfl 3 (by decide) hf15 (fun _ h => h) rfl (by decide +kernel) rfl rfl (Nat.le_of_ble_eq_true rfl) dX5_begin_15 (fun H locs hP hD hS => ?_)
  refine lv_aload_n hx hb dX5_begin_18 rfl (lv_at hl 0 rfl) ?_
  refine lv_iconst (v := -1) hx hb dX5_begin_19 (by decide) ?_
  refine va_put (D := G.1) (v := .int (-1)) (ty := .int) hx hb hts hin5 tyX5 tyX5_ok nmX5 hown hK hP hD hS 0 rfl rfl 7 (by decide) hf27 (fun _ h => h) rfl (by decide +kernel) rfl rfl (Nat.le_of_ble_eq_true rfl) dX5_begin_20 (fun H locs hP hD hS => ?_)
  refine lv_aload_n hx hb dX5_begin_23 rfl (lv_at hl 0 rfl) ?_
  refine lv_iconst (v := 0) hx hb dX5_begin_24 (by decide) ?_
  refine va_put (D := G.1) (v := .int 0) (ty := .boolean) hx hb hts hin5 tyX5 tyX5_ok nmX5 hown hK hP hD hS 0 rfl rfl 8 (by decide) hf30 (fun _ h => h) rfl (by decide +kernel) rfl rfl (Nat.le_of_ble_eq_true rfl) dX5_begin_25 (fun H locs hP hD hS => ?_)
  have hP : va_P G.1 vwCl (WDs G a tx (c.1, (min nl 200, 0, rTok c.2, rTP c.2, rNum c.2, -1, false))) H := hP
  have hD : va_D A (WDs G a tx (c.1, (min nl 200, 0, rTok c.2, rTP c.2, rNum c.2, -1, false))) := hD
  refine lv_aload_n hx hb dX5_begin_28 rfl (lv_at hl 0 rfl) ?_
  refine va_get (D := G.1) (v := .ref (a 16)) hx hb hts hin5 hown hK hP 0 rfl rfl 1 (by decide) hf38 (fun _ h => h) rfl dX5_begin_29 ?_
  refine wk_callA (va_runV (As := []) (rest := []) ⟨hx, hb, hml, hown, hts⟩ (c_X0_beginAnew l G a tx (c.1, (min nl 200, 0, rTok c.2, rTP c.2, rNum c.2, -1, false)) H.size) (cwV 0 hts gX5_begin_X0_beginAnew rfl rfl rfl hdV_X0_beginAnew ⟨Nat.le_of_ble_eq_true rfl, Nat.le_of_ble_eq_true rfl⟩) ((PreM.mk hP hK hN hD).pre (ci := 0) (q0 := 2) rfl rfl) rfl rfl hl.1 rfl (lv_room (Nat.le_of_ble_eq_true rfl)) dX5_begin_32 ⟨hrc, hrs⟩) hD hS hA WDs_fst (fun H locs hP hD hS => ?_)
  refine W.eq (g2 := F0 m 35 ls []) rfl ?_
  refine lv_aload_n hx hb dX5_begin_35 rfl (lv_at hl 0 rfl) ?_
  refine wk_callA (va_runV (As := []) (rest := []) ⟨hx, hb, hml, hown, hts⟩ (c_X5_nextToken l G a tx (newT c.1, (min nl 200, 0, rTok c.2, rTP c.2, rNum c.2, -1, false))  (show min nl 200 ≤ 200 by omega) (Nat.zero_le _) H.size) (cwV 0 hts gX5_begin_X5_nextToken rfl rfl rfl hdV_X5_nextToken ⟨Nat.le_of_ble_eq_true rfl, Nat.le_of_ble_eq_true rfl⟩) ((PreM.mk hP hK hN hD).pre (ci := 5) (q0 := 0) rfl rfl) rfl rfl hl.1 rfl (lv_room (Nat.le_of_ble_eq_true rfl)) dX5_begin_36 ⟨hrc, hrs⟩) hD hS hA WDs_fst (fun H locs hP hD hS => ?_)
  refine W.eq (g2 := F0 m 39 ls []) rfl ?_
  exact wk_mvret' hx hb hr hlocks dX5_begin_39 hP hS (rfl)
theorem hdV_X5_readText : yX5_readText.cls = RX5 ∧ yX5_readText.cls ≠ "java/lang/invoke/MethodHandle" ∧ yX5_readText.cls ≠ "java/lang/invoke/VarHandle" ∧ (parseMethodDescriptor yX5_readText.desc).map (fun d => d.parameters.length) = some 1 := by decide +kernel
set_option maxHeartbeats 1000000 in
set_option maxRecDepth 100000 in
theorem c_X5_readText (l : Launch) (G : GG) (a : Nat → Nat) (tx : Ar) (c : DS) (hc : OkD c) (nl : Nat) (hnl : nl ≤ 200) (sz : Nat) : Met l yX5_readText wsX5_readText ({ frames := 5, cells := 0, slots := 0, locals := 109 }) (va_Pc [.ref (a 21), .int (nI nl)] (fun U => PreM G (WDs G a tx c) sz U U.heap)) (Qm G.1 vwCl (some (.int (rdTx tx nl c).1)) (WDs G a tx ((rdTx tx nl c).2)) (va_A (WDs G a tx c) sz)) 0 0 (va_A (WDs G a tx c) sz) := by
  refine Met.ofW (cc := cX5_readText) (maxL := 3) (ret := (some .int)) (by decide) rfl ?_
  intro p e s m args below meth cd s₁ BB hml hv
  obtain ⟨rfl, ⟨hP, hK, hN⟩, hD0, hsz⟩ := hv
  have hx := BB.exec
  have hb := BB.bytes
  have hr := BB.returns
  have hts := atoms_spec (ws := wsX5_readText) BB.pre
  have hown : s.vm.findClass RX5 = some m.cls := findClass_of_methodNamed BB.named
  have hlocks := BB.notSynchronized
  have hrc : 0 + 0 ≤ (headSpec wsX5_readText ({ frames := 5, cells := 0, slots := 0, locals := 109 })).room.cells := Nat.le_refl _
  have hrs : 0 + 0 ≤ (headSpec wsX5_readText ({ frames := 5, cells := 0, slots := 0, locals := 109 })).room.slots := Nat.le_refl _
  subst hsz
  have hD := hD0.self (sz := s.heap.size)
  generalize hAe : va_A (WDs G a tx c) s.heap.size = A at hD ⊢
  have hA : ∀ q : Nat, s.heap.size ≤ q → A q := fun q h => by rw [← hAe]; exact Or.inr h
  have hS : va_S A s.heap s.heap [] := va_S.rf
  obtain ⟨hk7, ho1, ho5, hl200, hpl, htp, hnu⟩ := id hc
  have hin5 : ∀ w ∈ u_ws RX5 TX5 9, w ∈ wsX5_readText := by decide +kernel
  have hf18 := hts (.fieldLink RX5 18 "RegaliaVotes$Reader" "token" "I") (by decide +kernel)
  have hf27 := hts (.fieldLink RX5 27 "RegaliaVotes$Reader" "fault" "I") (by decide +kernel)
  refine wk_enter (n := 3) (Nat.le_of_ble_eq_true rfl) (fun ls hl => ?_)
  have hl : lv_has ls 3 [(0, .ref (a 21)), (1, .int (nI nl))] := hl
  refine lv_aload_n hx hb dX5_readText_0 rfl (lv_at hl 0 rfl) ?_
  refine lv_iload_n hx hb dX5_readText_1 rfl (lv_at hl 1 rfl) ?_
  refine wk_callA (va_runV (As := [.int (nI nl)]) (rest := []) ⟨hx, hb, hml, hown, hts⟩ (c_X5_begin l G a tx c hc nl (by omega) s.heap.size) (cwV 1 hts gX5_readText_X5_begin rfl rfl rfl hdV_X5_begin ⟨Nat.le_of_ble_eq_true rfl, Nat.le_of_ble_eq_true rfl⟩) ((PreM.mk hP hK hN hD).pre (ci := 5) (q0 := 0) rfl rfl) rfl rfl hl.1 rfl (lv_room (Nat.le_of_ble_eq_true rfl)) dX5_readText_2 ⟨hrc, hrs⟩) hD hS hA WDs_fst (fun H locs hP hD hS => ?_)
  refine W.eq (g2 := F0 m 5 ls []) rfl ?_
  refine lv_iconst (v := 0) hx hb dX5_readText_5 (by decide) ?_
  refine lv_istore_n (lv' := [(2, .int 0), (0, .ref (a 21)), (1, .int (nI nl))]) hx hb dX5_readText_6 rfl hl (by decide) rfl (fun ls hl => ?_)
  refine wk_loopM (σ := Nat × DS) (nL := 3) (fun xσ n => match xσ with | (i, z) => rdL tx n i z = rdL tx 201 0 (rdBeg tx nl c) ∧ i + n = 201 ∧ OkD z) (fun xσ => match xσ with | (i, z) => [(2, .int (nI i)), (0, .ref (a 21)), (1, .int (nI nl))]) (fun xσ => match xσ with | (i, z) => WDs G a tx z) (0, rdBeg tx nl c) 201 (⟨rfl, by omega, ok_rdBeg hc⟩) hl hP hD hS ?_
  rintro n7 ⟨i, z⟩ ls H locs hI7 hl hP hD hS ih7
  have hl : lv_has ls 3 [(2, .int (nI i)), (0, .ref (a 21)), (1, .int (nI nl))] := hl
  have hP : va_P G.1 vwCl (WDs G a tx z) H := hP
  have hD : va_D A (WDs G a tx z) := hD
  obtain ⟨hL, hi, hz⟩ := hI7
  refine lv_aload_n hx hb dX5_readText_7 rfl (lv_at hl 1 rfl) ?_
  refine va_get (D := G.1) (v := .int (rTok z.2)) hx hb hts hin5 hown hK hP 0 rfl rfl 4 (by decide) hf18 (fun _ h => h) rfl dX5_readText_8 ?_
  refine lv_iconst (v := -1) hx hb dX5_readText_11 (by decide) ?_
  refine lv_icmp_eq (tgt := 108) hx hb dX5_readText_12 (by decide) (fun c12 => ?_) (fun c12 => ?_)
  · have hE : rdL tx n7 i z = (i, z) := by cases n7 with | zero => rfl | succ k => rw [rdL, if_pos (Or.inl c12)]
    refine lv_aload_n hx hb dX5_readText_108 rfl (lv_at hl 1 rfl) ?_
    refine va_get (D := G.1) (v := .int (rFa z.2)) hx hb hts hin5 hown hK hP 0 rfl rfl 7 (by decide) hf27 (fun _ h => h) rfl dX5_readText_109 ?_
    refine lv_iconst (v := -1) hx hb dX5_readText_112 (by decide) ?_
    refine lv_icmp_ne (tgt := 120) hx hb dX5_readText_113 (by decide) (fun c113 => ?_) (fun c113 => ?_)
    · refine lv_bipush (v := -10) hx hb dX5_readText_120 (by decide) ?_
      refine lv_aload_n hx hb dX5_readText_122 rfl (lv_at hl 1 rfl) ?_
      refine va_get (D := G.1) (v := .int (rFa z.2)) hx hb hts hin5 hown hK hP 0 rfl rfl 7 (by decide) hf27 (fun _ h => h) rfl dX5_readText_123 ?_
      refine lv_isub hx hb dX5_readText_126 ?_
      have hq : rdTx tx nl c = (((-10) - (rFa z.2)), z) := by simp only [rdTx, ← hL, hE]; rw [if_neg c113]
      exact wk_mret' hx hb hr hlocks dX5_readText_127 hP hS (congrArg (fun z => some (Value.int z.1)) hq) (congrArg (fun z => WDs G a tx z.2) hq)
    · refine lv_iload_n hx hb dX5_readText_116 rfl (lv_at hl 0 rfl) ?_
      refine lv_goto (tgt := 127) hx hb dX5_readText_117 (by decide) ?_
      have hq : rdTx tx nl c = ((nI i), z) := by simp only [rdTx, ← hL, hE]; rw [if_pos c113]
      exact wk_mret' hx hb hr hlocks dX5_readText_127 hP hS (congrArg (fun z => some (Value.int z.1)) hq) (congrArg (fun z => WDs G a tx z.2) hq)
  · refine lv_aload_n hx hb dX5_readText_15 rfl (lv_at hl 1 rfl) ?_
    refine va_get (D := G.1) (v := .int (rFa z.2)) hx hb hts hin5 hown hK hP 0 rfl rfl 7 (by decide) hf27 (fun _ h => h) rfl dX5_readText_16 ?_
    refine lv_iconst (v := -1) hx hb dX5_readText_19 (by decide) ?_
    refine lv_icmp_ne (tgt := 108) hx hb dX5_readText_20 (by decide) (fun c20 => ?_) (fun c20 => ?_)
    · have hE : rdL tx n7 i z = (i, z) := by cases n7 with | zero => rfl | succ k => rw [rdL, if_pos (Or.inr c20)]
      refine lv_aload_n hx hb dX5_readText_108 rfl (lv_at hl 1 rfl) ?_
      refine va_get (D := G.1) (v := .int (rFa z.2)) hx hb hts hin5 hown hK hP 0 rfl rfl 7 (by decide) hf27 (fun _ h => h) rfl dX5_readText_109 ?_
      refine lv_iconst (v := -1) hx hb dX5_readText_112 (by decide) ?_
      refine lv_icmp_ne (tgt := 120) hx hb dX5_readText_113 (by decide) (fun c113 => ?_) (fun c113 => ?_)
      · refine lv_bipush (v := -10) hx hb dX5_readText_120 (by decide) ?_
        refine lv_aload_n hx hb dX5_readText_122 rfl (lv_at hl 1 rfl) ?_
        refine va_get (D := G.1) (v := .int (rFa z.2)) hx hb hts hin5 hown hK hP 0 rfl rfl 7 (by decide) hf27 (fun _ h => h) rfl dX5_readText_123 ?_
        refine lv_isub hx hb dX5_readText_126 ?_
        have hq : rdTx tx nl c = (((-10) - (rFa z.2)), z) := by simp only [rdTx, ← hL, hE]; rw [if_neg c113]
        exact wk_mret' hx hb hr hlocks dX5_readText_127 hP hS (congrArg (fun z => some (Value.int z.1)) hq) (congrArg (fun z => WDs G a tx z.2) hq)
      · refine lv_iload_n hx hb dX5_readText_116 rfl (lv_at hl 0 rfl) ?_
        refine lv_goto (tgt := 127) hx hb dX5_readText_117 (by decide) ?_
        have hq : rdTx tx nl c = ((nI i), z) := by simp only [rdTx, ← hL, hE]; rw [if_pos c113]
        exact wk_mret' hx hb hr hlocks dX5_readText_127 hP hS (congrArg (fun z => some (Value.int z.1)) hq) (congrArg (fun z => WDs G a tx z.2) hq)
    · refine lv_iload_n hx hb dX5_readText_23 rfl (lv_at hl 0 rfl) ?_
      refine lv_sipush (v := 200) hx hb dX5_readText_24 (by decide) ?_
      refine wk_gt (x := i) (y := 200) (tgt := 108) hx hb (by omega) (by omega) dX5_readText_27 (by decide) (fun c27 => ?_) (fun c27 => ?_)
      · have hE : rdL tx n7 i z = (i, z) := by rw [show n7 = 0 by omega]; rfl
        refine lv_aload_n hx hb dX5_readText_108 rfl (lv_at hl 1 rfl) ?_
        refine va_get (D := G.1) (v := .int (rFa z.2)) hx hb hts hin5 hown hK hP 0 rfl rfl 7 (by decide) hf27 (fun _ h => h) rfl dX5_readText_109 ?_
        refine lv_iconst (v := -1) hx hb dX5_readText_112 (by decide) ?_
        refine lv_icmp_ne (tgt := 120) hx hb dX5_readText_113 (by decide) (fun c113 => ?_) (fun c113 => ?_)
        · refine lv_bipush (v := -10) hx hb dX5_readText_120 (by decide) ?_
          refine lv_aload_n hx hb dX5_readText_122 rfl (lv_at hl 1 rfl) ?_
          refine va_get (D := G.1) (v := .int (rFa z.2)) hx hb hts hin5 hown hK hP 0 rfl rfl 7 (by decide) hf27 (fun _ h => h) rfl dX5_readText_123 ?_
          refine lv_isub hx hb dX5_readText_126 ?_
          have hq : rdTx tx nl c = (((-10) - (rFa z.2)), z) := by simp only [rdTx, ← hL, hE]; rw [if_neg c113]
          exact wk_mret' hx hb hr hlocks dX5_readText_127 hP hS (congrArg (fun z => some (Value.int z.1)) hq) (congrArg (fun z => WDs G a tx z.2) hq)
        · refine lv_iload_n hx hb dX5_readText_116 rfl (lv_at hl 0 rfl) ?_
          refine lv_goto (tgt := 127) hx hb dX5_readText_117 (by decide) ?_
          have hq : rdTx tx nl c = ((nI i), z) := by simp only [rdTx, ← hL, hE]; rw [if_pos c113]
          exact wk_mret' hx hb hr hlocks dX5_readText_127 hP hS (congrArg (fun z => some (Value.int z.1)) hq) (congrArg (fun z => WDs G a tx z.2) hq)
      · refine lv_aload_n hx hb dX5_readText_30 rfl (lv_at hl 1 rfl) ?_
        refine va_get (D := G.1) (v := .int (rTok z.2)) hx hb hts hin5 hown hK hP 0 rfl rfl 4 (by decide) hf18 (fun _ h => h) rfl dX5_readText_31 ?_
        by_cases k34_111 : (rTok z.2) = 111
        · refine lv_lookup (off := 34) (tgt := 68) hx hb dX5_readText_34 (by decide) (by rw [k34_111]; rfl) (by decide) ?_
          refine lv_aload_n hx hb dX5_readText_68 rfl (lv_at hl 1 rfl) ?_
          refine lv_iload_n hx hb dX5_readText_69 rfl (lv_at hl 0 rfl) ?_
          refine wk_callA (va_runV (As := [.int (nI i)]) (rest := []) ⟨hx, hb, hml, hown, hts⟩ (c_X5_readOfficers l G a tx z hz i (by omega) H.size) (cwV 1 hts gX5_readText_X5_readOfficers rfl rfl rfl hdV_X5_readOfficers ⟨Nat.le_of_ble_eq_true rfl, Nat.le_of_ble_eq_true rfl⟩) ((PreM.mk hP hK hN hD).pre (ci := 5) (q0 := 0) rfl rfl) rfl rfl hl.1 rfl (lv_room (Nat.le_of_ble_eq_true rfl)) dX5_readText_70 ⟨hrc, hrs⟩) hD hS hA WDs_fst (fun H locs hP hD hS => ?_)
          generalize hz70 : rdOff tx i z = z70 at hP hD
          have hc70 : OkD z70 := by rw [← hz70]; exact (ok_rdOff (tx := tx) hz)
          obtain ⟨⟨ka70, kb70, kc70⟩, ra70, rb70, rc70, rd70⟩ := okD_iff.mp hc70
          refine W.eq (g2 := F0 m 73 ls []) rfl ?_
          refine lv_goto (tgt := 94) hx hb dX5_readText_73 (by decide) ?_
          refine lv_aload_n hx hb dX5_readText_94 rfl (lv_at hl 1 rfl) ?_
          refine wk_callA (va_runV (As := []) (rest := []) ⟨hx, hb, hml, hown, hts⟩ (c_X5_readItemEnd l G a tx z70 hc70 H.size) (cwV 0 hts gX5_readText_X5_readItemEnd rfl rfl rfl hdV_X5_readItemEnd ⟨Nat.le_of_ble_eq_true rfl, Nat.le_of_ble_eq_true rfl⟩) ((PreM.mk hP hK hN hD).pre (ci := 5) (q0 := 0) rfl rfl) rfl rfl hl.1 rfl (lv_room (Nat.le_of_ble_eq_true rfl)) dX5_readText_95 ⟨hrc, hrs⟩) hD hS hA WDs_fst (fun H locs hP hD hS => ?_)
          generalize hz95 : (z70.1, rdEnd tx z70.2) = z95 at hP hD
          have hc95 : OkD z95 := by rw [← hz95]; exact (okD_iff.mpr ⟨(okD_iff.mp hc70).1, (ok_rdEnd (okD_iff.mp hc70).2)⟩)
          obtain ⟨⟨ka95, kb95, kc95⟩, ra95, rb95, rc95, rd95⟩ := okD_iff.mp hc95
          refine W.eq (g2 := F0 m 98 ls []) rfl ?_
          refine lv_iinc (v := (nI (i + 1))) (lv' := [(2, .int (nI (i + 1))), (0, .ref (a 21)), (1, .int (nI nl))]) hx hb dX5_readText_98 hl (k := 0) rfl (wk_i1 i) (by decide) rfl (fun ls hl => ?_)
          refine lv_aload_n hx hb dX5_readText_101 rfl (lv_at hl 1 rfl) ?_
          refine wk_callA (va_runV (As := []) (rest := []) ⟨hx, hb, hml, hown, hts⟩ (c_X5_nextToken l G a tx z95  ((okD_iff.mp hc95).2).1 ((okD_iff.mp hc95).2).2.1 H.size) (cwV 0 hts gX5_readText_X5_nextToken rfl rfl rfl hdV_X5_nextToken ⟨Nat.le_of_ble_eq_true rfl, Nat.le_of_ble_eq_true rfl⟩) ((PreM.mk hP hK hN hD).pre (ci := 5) (q0 := 0) rfl rfl) rfl rfl hl.1 rfl (lv_room (Nat.le_of_ble_eq_true rfl)) dX5_readText_102 ⟨hrc, hrs⟩) hD hS hA WDs_fst (fun H locs hP hD hS => ?_)
          generalize hz102 : (z95.1, nxT tx z95.2) = z102 at hP hD
          have hc102 : OkD z102 := by rw [← hz102]; exact (okD_iff.mpr ⟨(okD_iff.mp hc95).1, (ok_nx (okD_iff.mp hc95).2)⟩)
          obtain ⟨⟨ka102, kb102, kc102⟩, ra102, rb102, rc102, rd102⟩ := okD_iff.mp hc102
          refine W.eq (g2 := F0 m 105 ls []) rfl ?_
          refine lv_goto (tgt := 7) hx hb dX5_readText_105 (by decide) ?_
          obtain ⟨m7, rfl⟩ : ∃ k, n7 = k + 1 := ⟨n7 - 1, by omega⟩
          have he : z102 = rdIt tx i z := by subst hz102; subst hz95; subst hz70; simp only [rdIt, rdSw, if_pos k34_111]
          rw [he] at hP hD
          exact ih7 (i + 1, rdIt tx i z) m7 ls H _ (by omega) (⟨by rw [← hL, rdL, if_neg (fun h => h.elim c12 (fun q => q c20))], by omega, ok_rdIt hz⟩) (lv_sub hl [0, 1, 2] rfl) hP hD hS
        · by_cases k34_116 : (rTok z.2) = 116
          · refine lv_lookup (off := 42) (tgt := 76) hx hb dX5_readText_34 (by decide) (by rw [k34_116]; rfl) (by decide) ?_
            refine lv_aload_n hx hb dX5_readText_76 rfl (lv_at hl 1 rfl) ?_
            refine wk_callA (va_runV (As := []) (rest := []) ⟨hx, hb, hml, hown, hts⟩ (c_X5_readThing l G a tx z hz H.size) (cwV 0 hts gX5_readText_X5_readThing rfl rfl rfl hdV_X5_readThing ⟨Nat.le_of_ble_eq_true rfl, Nat.le_of_ble_eq_true rfl⟩) ((PreM.mk hP hK hN hD).pre (ci := 5) (q0 := 0) rfl rfl) rfl rfl hl.1 rfl (lv_room (Nat.le_of_ble_eq_true rfl)) dX5_readText_77 ⟨hrc, hrs⟩) hD hS hA WDs_fst (fun H locs hP hD hS => ?_)
            generalize hz77 : rdThg tx z = z77 at hP hD
            have hc77 : OkD z77 := by rw [← hz77]; exact (ok_rdThg (tx := tx) hz)
            obtain ⟨⟨ka77, kb77, kc77⟩, ra77, rb77, rc77, rd77⟩ := okD_iff.mp hc77
            refine W.eq (g2 := F0 m 80 ls []) rfl ?_
            refine lv_goto (tgt := 94) hx hb dX5_readText_80 (by decide) ?_
            refine lv_aload_n hx hb dX5_readText_94 rfl (lv_at hl 1 rfl) ?_
            refine wk_callA (va_runV (As := []) (rest := []) ⟨hx, hb, hml, hown, hts⟩ (c_X5_readItemEnd l G a tx z77 hc77 H.size) (cwV 0 hts gX5_readText_X5_readItemEnd rfl rfl rfl hdV_X5_readItemEnd ⟨Nat.le_of_ble_eq_true rfl, Nat.le_of_ble_eq_true rfl⟩) ((PreM.mk hP hK hN hD).pre (ci := 5) (q0 := 0) rfl rfl) rfl rfl hl.1 rfl (lv_room (Nat.le_of_ble_eq_true rfl)) dX5_readText_95 ⟨hrc, hrs⟩) hD hS hA WDs_fst (fun H locs hP hD hS => ?_)
            generalize hz95 : (z77.1, rdEnd tx z77.2) = z95 at hP hD
            have hc95 : OkD z95 := by rw [← hz95]; exact (okD_iff.mpr ⟨(okD_iff.mp hc77).1, (ok_rdEnd (okD_iff.mp hc77).2)⟩)
            obtain ⟨⟨ka95, kb95, kc95⟩, ra95, rb95, rc95, rd95⟩ := okD_iff.mp hc95
            refine W.eq (g2 := F0 m 98 ls []) rfl ?_
            refine lv_iinc (v := (nI (i + 1))) (lv' := [(2, .int (nI (i + 1))), (0, .ref (a 21)), (1, .int (nI nl))]) hx hb dX5_readText_98 hl (k := 0) rfl (wk_i1 i) (by decide) rfl (fun ls hl => ?_)
            refine lv_aload_n hx hb dX5_readText_101 rfl (lv_at hl 1 rfl) ?_
            refine wk_callA (va_runV (As := []) (rest := []) ⟨hx, hb, hml, hown, hts⟩ (c_X5_nextToken l G a tx z95  ((okD_iff.mp hc95).2).1 ((okD_iff.mp hc95).2).2.1 H.size) (cwV 0 hts gX5_readText_X5_nextToken rfl rfl rfl hdV_X5_nextToken ⟨Nat.le_of_ble_eq_true rfl, Nat.le_of_ble_eq_true rfl⟩) ((PreM.mk hP hK hN hD).pre (ci := 5) (q0 := 0) rfl rfl) rfl rfl hl.1 rfl (lv_room (Nat.le_of_ble_eq_true rfl)) dX5_readText_102 ⟨hrc, hrs⟩) hD hS hA WDs_fst (fun H locs hP hD hS => ?_)
            generalize hz102 : (z95.1, nxT tx z95.2) = z102 at hP hD
            have hc102 : OkD z102 := by rw [← hz102]; exact (okD_iff.mpr ⟨(okD_iff.mp hc95).1, (ok_nx (okD_iff.mp hc95).2)⟩)
            obtain ⟨⟨ka102, kb102, kc102⟩, ra102, rb102, rc102, rd102⟩ := okD_iff.mp hc102
            refine W.eq (g2 := F0 m 105 ls []) rfl ?_
            refine lv_goto (tgt := 7) hx hb dX5_readText_105 (by decide) ?_
            obtain ⟨m7, rfl⟩ : ∃ k, n7 = k + 1 := ⟨n7 - 1, by omega⟩
            have he : z102 = rdIt tx i z := by subst hz102; subst hz95; subst hz77; simp only [rdIt, rdSw, if_neg k34_111, if_pos k34_116]
            rw [he] at hP hD
            exact ih7 (i + 1, rdIt tx i z) m7 ls H _ (by omega) (⟨by rw [← hL, rdL, if_neg (fun h => h.elim c12 (fun q => q c20))], by omega, ok_rdIt hz⟩) (lv_sub hl [0, 1, 2] rfl) hP hD hS
          · by_cases k34_119 : (rTok z.2) = 119
            · refine lv_lookup (off := 49) (tgt := 83) hx hb dX5_readText_34 (by decide) (by rw [k34_119]; rfl) (by decide) ?_
              refine lv_aload_n hx hb dX5_readText_83 rfl (lv_at hl 1 rfl) ?_
              refine wk_callA (va_runV (As := []) (rest := []) ⟨hx, hb, hml, hown, hts⟩ (c_X5_readWarmth l G a tx z hz H.size) (cwV 0 hts gX5_readText_X5_readWarmth rfl rfl rfl hdV_X5_readWarmth ⟨Nat.le_of_ble_eq_true rfl, Nat.le_of_ble_eq_true rfl⟩) ((PreM.mk hP hK hN hD).pre (ci := 5) (q0 := 0) rfl rfl) rfl rfl hl.1 rfl (lv_room (Nat.le_of_ble_eq_true rfl)) dX5_readText_84 ⟨hrc, hrs⟩) hD hS hA WDs_fst (fun H locs hP hD hS => ?_)
              generalize hz84 : rdWar tx z = z84 at hP hD
              have hc84 : OkD z84 := by rw [← hz84]; exact (ok_rdWar (tx := tx) hz)
              obtain ⟨⟨ka84, kb84, kc84⟩, ra84, rb84, rc84, rd84⟩ := okD_iff.mp hc84
              refine W.eq (g2 := F0 m 87 ls []) rfl ?_
              refine lv_goto (tgt := 94) hx hb dX5_readText_87 (by decide) ?_
              refine lv_aload_n hx hb dX5_readText_94 rfl (lv_at hl 1 rfl) ?_
              refine wk_callA (va_runV (As := []) (rest := []) ⟨hx, hb, hml, hown, hts⟩ (c_X5_readItemEnd l G a tx z84 hc84 H.size) (cwV 0 hts gX5_readText_X5_readItemEnd rfl rfl rfl hdV_X5_readItemEnd ⟨Nat.le_of_ble_eq_true rfl, Nat.le_of_ble_eq_true rfl⟩) ((PreM.mk hP hK hN hD).pre (ci := 5) (q0 := 0) rfl rfl) rfl rfl hl.1 rfl (lv_room (Nat.le_of_ble_eq_true rfl)) dX5_readText_95 ⟨hrc, hrs⟩) hD hS hA WDs_fst (fun H locs hP hD hS => ?_)
              generalize hz95 : (z84.1, rdEnd tx z84.2) = z95 at hP hD
              have hc95 : OkD z95 := by rw [← hz95]; exact (okD_iff.mpr ⟨(okD_iff.mp hc84).1, (ok_rdEnd (okD_iff.mp hc84).2)⟩)
              obtain ⟨⟨ka95, kb95, kc95⟩, ra95, rb95, rc95, rd95⟩ := okD_iff.mp hc95
              refine W.eq (g2 := F0 m 98 ls []) rfl ?_
              refine lv_iinc (v := (nI (i + 1))) (lv' := [(2, .int (nI (i + 1))), (0, .ref (a 21)), (1, .int (nI nl))]) hx hb dX5_readText_98 hl (k := 0) rfl (wk_i1 i) (by decide) rfl (fun ls hl => ?_)
              refine lv_aload_n hx hb dX5_readText_101 rfl (lv_at hl 1 rfl) ?_
              refine wk_callA (va_runV (As := []) (rest := []) ⟨hx, hb, hml, hown, hts⟩ (c_X5_nextToken l G a tx z95  ((okD_iff.mp hc95).2).1 ((okD_iff.mp hc95).2).2.1 H.size) (cwV 0 hts gX5_readText_X5_nextToken rfl rfl rfl hdV_X5_nextToken ⟨Nat.le_of_ble_eq_true rfl, Nat.le_of_ble_eq_true rfl⟩) ((PreM.mk hP hK hN hD).pre (ci := 5) (q0 := 0) rfl rfl) rfl rfl hl.1 rfl (lv_room (Nat.le_of_ble_eq_true rfl)) dX5_readText_102 ⟨hrc, hrs⟩) hD hS hA WDs_fst (fun H locs hP hD hS => ?_)
              generalize hz102 : (z95.1, nxT tx z95.2) = z102 at hP hD
              have hc102 : OkD z102 := by rw [← hz102]; exact (okD_iff.mpr ⟨(okD_iff.mp hc95).1, (ok_nx (okD_iff.mp hc95).2)⟩)
              obtain ⟨⟨ka102, kb102, kc102⟩, ra102, rb102, rc102, rd102⟩ := okD_iff.mp hc102
              refine W.eq (g2 := F0 m 105 ls []) rfl ?_
              refine lv_goto (tgt := 7) hx hb dX5_readText_105 (by decide) ?_
              obtain ⟨m7, rfl⟩ : ∃ k, n7 = k + 1 := ⟨n7 - 1, by omega⟩
              have he : z102 = rdIt tx i z := by subst hz102; subst hz95; subst hz84; simp only [rdIt, rdSw, if_neg k34_111, if_neg k34_116, if_pos k34_119]
              rw [he] at hP hD
              exact ih7 (i + 1, rdIt tx i z) m7 ls H _ (by omega) (⟨by rw [← hL, rdL, if_neg (fun h => h.elim c12 (fun q => q c20))], by omega, ok_rdIt hz⟩) (lv_sub hl [0, 1, 2] rfl) hP hD hS
            · refine lv_lookup (off := 56) (tgt := 90) hx hb dX5_readText_34 (by decide) (by simp only [Op.lookupswitch.offset_cons, Op.lookupswitch.offset_nil]; rw [if_neg (lk_ne k34_111)]; rw [if_neg (lk_ne k34_116)]; rw [if_neg (lk_ne k34_119)]) (by decide) ?_
              refine lv_aload_n hx hb dX5_readText_90 rfl (lv_at hl 1 rfl) ?_
              refine wk_callA (va_runV (As := []) (rest := []) ⟨hx, hb, hml, hown, hts⟩ (c_X5_markFault l G a tx z H.size) (cwV 0 hts gX5_readText_X5_markFault rfl rfl rfl hdV_X5_markFault ⟨Nat.le_of_ble_eq_true rfl, Nat.le_of_ble_eq_true rfl⟩) ((PreM.mk hP hK hN hD).pre (ci := 5) (q0 := 0) rfl rfl) rfl rfl hl.1 rfl (lv_room (Nat.le_of_ble_eq_true rfl)) dX5_readText_91 ⟨hrc, hrs⟩) hD hS hA WDs_fst (fun H locs hP hD hS => ?_)
              generalize hz91 : (z.1, mkF z.2) = z91 at hP hD
              have hc91 : OkD z91 := by rw [← hz91]; exact (okD_iff.mpr ⟨(okD_iff.mp hz).1, (ok_mkF (okD_iff.mp hz).2)⟩)
              obtain ⟨⟨ka91, kb91, kc91⟩, ra91, rb91, rc91, rd91⟩ := okD_iff.mp hc91
              refine W.eq (g2 := F0 m 94 ls []) rfl ?_
              refine lv_aload_n hx hb dX5_readText_94 rfl (lv_at hl 1 rfl) ?_
              refine wk_callA (va_runV (As := []) (rest := []) ⟨hx, hb, hml, hown, hts⟩ (c_X5_readItemEnd l G a tx z91 hc91 H.size) (cwV 0 hts gX5_readText_X5_readItemEnd rfl rfl rfl hdV_X5_readItemEnd ⟨Nat.le_of_ble_eq_true rfl, Nat.le_of_ble_eq_true rfl⟩) ((PreM.mk hP hK hN hD).pre (ci := 5) (q0 := 0) rfl rfl) rfl rfl hl.1 rfl (lv_room (Nat.le_of_ble_eq_true rfl)) dX5_readText_95 ⟨hrc, hrs⟩) hD hS hA WDs_fst (fun H locs hP hD hS => ?_)
              generalize hz95 : (z91.1, rdEnd tx z91.2) = z95 at hP hD
              have hc95 : OkD z95 := by rw [← hz95]; exact (okD_iff.mpr ⟨(okD_iff.mp hc91).1, (ok_rdEnd (okD_iff.mp hc91).2)⟩)
              obtain ⟨⟨ka95, kb95, kc95⟩, ra95, rb95, rc95, rd95⟩ := okD_iff.mp hc95
              refine W.eq (g2 := F0 m 98 ls []) rfl ?_
              refine lv_iinc (v := (nI (i + 1))) (lv' := [(2, .int (nI (i + 1))), (0, .ref (a 21)), (1, .int (nI nl))]) hx hb dX5_readText_98 hl (k := 0) rfl (wk_i1 i) (by decide) rfl (fun ls hl => ?_)
              refine lv_aload_n hx hb dX5_readText_101 rfl (lv_at hl 1 rfl) ?_
              refine wk_callA (va_runV (As := []) (rest := []) ⟨hx, hb, hml, hown, hts⟩ (c_X5_nextToken l G a tx z95  ((okD_iff.mp hc95).2).1 ((okD_iff.mp hc95).2).2.1 H.size) (cwV 0 hts gX5_readText_X5_nextToken rfl rfl rfl hdV_X5_nextToken ⟨Nat.le_of_ble_eq_true rfl, Nat.le_of_ble_eq_true rfl⟩) ((PreM.mk hP hK hN hD).pre (ci := 5) (q0 := 0) rfl rfl) rfl rfl hl.1 rfl (lv_room (Nat.le_of_ble_eq_true rfl)) dX5_readText_102 ⟨hrc, hrs⟩) hD hS hA WDs_fst (fun H locs hP hD hS => ?_)
              generalize hz102 : (z95.1, nxT tx z95.2) = z102 at hP hD
              have hc102 : OkD z102 := by rw [← hz102]; exact (okD_iff.mpr ⟨(okD_iff.mp hc95).1, (ok_nx (okD_iff.mp hc95).2)⟩)
              obtain ⟨⟨ka102, kb102, kc102⟩, ra102, rb102, rc102, rd102⟩ := okD_iff.mp hc102
              refine W.eq (g2 := F0 m 105 ls []) rfl ?_
              refine lv_goto (tgt := 7) hx hb dX5_readText_105 (by decide) ?_
              obtain ⟨m7, rfl⟩ : ∃ k, n7 = k + 1 := ⟨n7 - 1, by omega⟩
              have he : z102 = rdIt tx i z := by subst hz102; subst hz95; subst hz91; simp only [rdIt, rdSw, if_neg k34_111, if_neg k34_116, if_neg k34_119]
              rw [he] at hP hD
              exact ih7 (i + 1, rdIt tx i z) m7 ls H _ (by omega) (⟨by rw [← hL, rdL, if_neg (fun h => h.elim c12 (fun q => q c20))], by omega, ok_rdIt hz⟩) (lv_sub hl [0, 1, 2] rfl) hP hD hS

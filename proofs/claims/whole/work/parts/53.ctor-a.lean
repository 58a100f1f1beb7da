set_option maxHeartbeats 4000000 in
set_option maxRecDepth 100000 in
theorem c_X2_init (l : Launch) (G : GG) (h : Nat) (sz : Nat) : Met l yX2_init wsX2_init ({ frames := 1, cells := 2, slots := 14, locals := 20 }) (va_Pc [.ref h] (fun U => PreK G [(h, .inr (2, [.null, .null, .int 0, .int 0, .int 0, .int 0, .int 0]))] sz U U.heap)) (Qk G.1 vwCl (fun f => [(h, .inr (2, [.ref (f 0), .ref (f 1), .int 0, .int 0, .int 0, .int 0, .int 0])), (f 0, .inl (gI G, 7, .inl z0)), (f 1, .inl (gI G, 7, .inl z0))]) (va_A [(h, .inr (2, [.null, .null, .int 0, .int 0, .int 0, .int 0, .int 0]))] sz)) 2 14 (va_A [(h, .inr (2, [.null, .null, .int 0, .int 0, .int 0, .int 0, .int 0]))] sz) := by
  refine Met.ofW (cc := cX2_init) (maxL := 1) (ret := none) (by decide) rfl ?_
  intro p e s m args below meth cd s₁ BB hml hv
  obtain ⟨rfl, ⟨⟨hP, hK, hN⟩, hD0, hsz⟩, hO⟩ := hv
  have hx := BB.exec
  have hb := BB.bytes
  have hr := BB.returns
  have hts := atoms_spec (ws := wsX2_init) BB.pre
  have hown : s.vm.findClass RX2 = some m.cls := findClass_of_methodNamed BB.named
  have hlocks := BB.notSynchronized
  have hini : meth.name = "<init>" := (name_of_methodNamed BB.named BB.method).1
  subst hsz
  have hD := hD0.self (sz := s.heap.size)
  generalize hAe : va_A [(h, .inr (2, [.null, .null, .int 0, .int 0, .int 0, .int 0, .int 0]))] s.heap.size = A at hD ⊢
  have hA : ∀ q : Nat, s.heap.size ≤ q → A q := fun q h => by rw [← hAe]; exact Or.inr h
  have hS : va_S A s.heap s.heap [] := va_S.rf
  have hin2 : ∀ w ∈ u_ws RX2 TX2 7, w ∈ wsX2_init := by decide +kernel
  have hf9 := hts (.fieldLink RX2 9 "RegaliaVotes$Moment" "holder" "[I") (by decide +kernel)
  have hf15 := hts (.fieldLink RX2 15 "RegaliaVotes$Moment" "warmth" "[I") (by decide +kernel)
  have hf18 := hts (.fieldLink RX2 18 "RegaliaVotes$Moment" "wash" "I") (by decide +kernel)
  have hf22 := hts (.fieldLink RX2 22 "RegaliaVotes$Moment" "turned" "I") (by decide +kernel)
  have hf25 := hts (.fieldLink RX2 25 "RegaliaVotes$Moment" "sick" "I") (by decide +kernel)
  have hf28 := hts (.fieldLink RX2 28 "RegaliaVotes$Moment" "put" "I") (by decide +kernel)
  have hf31 := hts (.fieldLink RX2 31 "RegaliaVotes$Moment" "passed" "I") (by decide +kernel)
  refine wk_enter (n := 1) (Nat.le_of_ble_eq_true rfl) (fun ls hl => ?_)
  have hl : lv_has ls 1 [(0, .ref h)] := hl
  refine lv_aload_n hx hb dX2_init_0 rfl (lv_at hl 0 rfl) ?_
  refine W.objInit hx hb hown (hts (.methodLink RX2 3 objectInit) (by decide +kernel)) (hts (.instanceMethod objectInit) (by decide +kernel)) (hts (.code objectInit ⟨#[0xb1]⟩ 1 none) (by decide +kernel)) rfl (by rw [hml]; exact hl.1) rfl dX2_init_1 (Nat.le_of_ble_eq_true rfl) (Nat.le_of_ble_eq_true rfl) ?_
  refine W.eq (g2 := F0 m 4 ls []) rfl ?_
  refine lv_aload_n hx hb dX2_init_4 rfl (lv_at hl 0 rfl) ?_
  refine lv_bipush (v := 7) hx hb dX2_init_5 (by decide) ?_
  refine wk_newa (atype := .int) (ty := .int) 1 rfl ra_int hx hb (hts (.arrayClass .int) (by decide +kernel)) rfl hK hP hD hS hA (a0 := (7, .inl z0)) (fun _ => rfl) (by decide) (by decide) (Nat.le_of_ble_eq_true rfl) (Nat.le_of_ble_eq_true rfl) (Nat.le_of_ble_eq_true rfl) dX2_init_7 (fun q7 H hP hD hS => ?_)
  have hP : va_P G.1 vwCl [(h, .inr (2, [.null, .null, .int 0, .int 0, .int 0, .int 0, .int 0])), (q7, .inl (gI G, 7, .inl z0))] H := hP
  have hD : va_D A [(h, .inr (2, [.null, .null, .int 0, .int 0, .int 0, .int 0, .int 0])), (q7, .inl (gI G, 7, .inl z0))] := hD
  refine W.widen (k := 1) (n := 7) (Nat.le_of_ble_eq_true rfl) (Nat.le_of_ble_eq_true rfl) ?_
  refine va_putF (D := G.1) (v := .ref q7) (ty := .array .int) hx hb hts hin2 tyX2 tyX2_ok nmX2 hown hK hP hD hS 0 rfl rfl 0 (by decide) hf9 (fun _ h => h) rfl hini rfl (by decide +kernel) rfl rfl (Nat.le_of_ble_eq_true rfl) dX2_init_9 (fun H locs hP hD hS => ?_)
  have hP : va_P G.1 vwCl [(h, .inr (2, [.ref q7, .null, .int 0, .int 0, .int 0, .int 0, .int 0])), (q7, .inl (gI G, 7, .inl z0))] H := hP
  have hD : va_D A [(h, .inr (2, [.ref q7, .null, .int 0, .int 0, .int 0, .int 0, .int 0])), (q7, .inl (gI G, 7, .inl z0))] := hD
  refine lv_aload_n hx hb dX2_init_12 rfl (lv_at hl 0 rfl) ?_
  refine lv_bipush (v := 7) hx hb dX2_init_13 (by decide) ?_
  refine wk_newa (atype := .int) (ty := .int) 1 rfl ra_int hx hb (hts (.arrayClass .int) (by decide +kernel)) rfl hK hP hD hS hA (a0 := (7, .inl z0)) (fun _ => rfl) (by decide) (by decide) (Nat.le_of_ble_eq_true rfl) (Nat.le_of_ble_eq_true rfl) (Nat.le_of_ble_eq_true rfl) dX2_init_15 (fun q15 H hP hD hS => ?_)
  have hP : va_P G.1 vwCl [(h, .inr (2, [.ref q7, .null, .int 0, .int 0, .int 0, .int 0, .int 0])), (q7, .inl (gI G, 7, .inl z0)), (q15, .inl (gI G, 7, .inl z0))] H := hP
  have hD : va_D A [(h, .inr (2, [.ref q7, .null, .int 0, .int 0, .int 0, .int 0, .int 0])), (q7, .inl (gI G, 7, .inl z0)), (q15, .inl (gI G, 7, .inl z0))] := hD
  refine W.widen (k := 2) (n := 14) (Nat.le_of_ble_eq_true rfl) (Nat.le_of_ble_eq_true rfl) ?_
  refine va_putF (D := G.1) (v := .ref q15) (ty := .array .int) hx hb hts hin2 tyX2 tyX2_ok nmX2 hown hK hP hD hS 0 rfl rfl 1 (by decide) hf15 (fun _ h => h) rfl hini rfl (by decide +kernel) rfl rfl (Nat.le_of_ble_eq_true rfl) dX2_init_17 (fun H locs hP hD hS => ?_)
  have hP : va_P G.1 vwCl [(h, .inr (2, [.ref q7, .ref q15, .int 0, .int 0, .int 0, .int 0, .int 0])), (q7, .inl (gI G, 7, .inl z0)), (q15, .inl (gI G, 7, .inl z0))] H := hP
  have hD : va_D A [(h, .inr (2, [.ref q7, .ref q15, .int 0, .int 0, .int 0, .int 0, .int 0])), (q7, .inl (gI G, 7, .inl z0)), (q15, .inl (gI G, 7, .inl z0))] := hD
  refine lv_aload_n hx hb dX2_init_20 rfl (lv_at hl 0 rfl) ?_
  refine lv_iconst (v := 0) hx hb dX2_init_21 (by decide) ?_
  refine va_put (D := G.1) (v := .int 0) (ty := .int) hx hb hts hin2 tyX2 tyX2_ok nmX2 hown hK hP hD hS 0 rfl rfl 2 (by decide) hf18 (fun _ h => h) rfl (by decide +kernel) rfl rfl (Nat.le_of_ble_eq_true rfl) dX2_init_22 (fun H locs hP hD hS => ?_)
  have hP : va_P G.1 vwCl [(h, .inr (2, [.ref q7, .ref q15, .int 0, .int 0, .int 0, .int 0, .int 0])), (q7, .inl (gI G, 7, .inl z0)), (q15, .inl (gI G, 7, .inl z0))] H := hP
  have hD : va_D A [(h, .inr (2, [.ref q7, .ref q15, .int 0, .int 0, .int 0, .int 0, .int 0])), (q7, .inl (gI G, 7, .inl z0)), (q15, .inl (gI G, 7, .inl z0))] := hD
  refine lv_aload_n hx hb dX2_init_25 rfl (lv_at hl 0 rfl) ?_
  refine lv_iconst (v := 0) hx hb dX2_init_26 (by decide) ?_
  refine va_put (D := G.1) (v := .int 0) (ty := .int) hx hb hts hin2 tyX2 tyX2_ok nmX2 hown hK hP hD hS 0 rfl rfl 3 (by decide) hf22 (fun _ h => h) rfl (by decide +kernel) rfl rfl (Nat.le_of_ble_eq_true rfl) dX2_init_27 (fun H locs hP hD hS => ?_)
  have hP : va_P G.1 vwCl [(h, .inr (2, [.ref q7, .ref q15, .int 0, .int 0, .int 0, .int 0, .int 0])), (q7, .inl (gI G, 7, .inl z0)), (q15, .inl (gI G, 7, .inl z0))] H := hP
  have hD : va_D A [(h, .inr (2, [.ref q7, .ref q15, .int 0, .int 0, .int 0, .int 0, .int 0])), (q7, .inl (gI G, 7, .inl z0)), (q15, .inl (gI G, 7, .inl z0))] := hD
  refine lv_aload_n hx hb dX2_init_30 rfl (lv_at hl 0 rfl) ?_
  refine lv_iconst (v := 0) hx hb dX2_init_31 (by decide) ?_
  refine va_put (D := G.1) (v := .int 0) (ty := .int) hx hb hts hin2 tyX2 tyX2_ok nmX2 hown hK hP hD hS 0 rfl rfl 4 (by decide) hf25 (fun _ h => h) rfl (by decide +kernel) rfl rfl (Nat.le_of_ble_eq_true rfl) dX2_init_32 (fun H locs hP hD hS => ?_)
  have hP : va_P G.1 vwCl [(h, .inr (2, [.ref q7, .ref q15, .int 0, .int 0, .int 0, .int 0, .int 0])), (q7, .inl (gI G, 7, .inl z0)), (q15, .inl (gI G, 7, .inl z0))] H := hP
  have hD : va_D A [(h, .inr (2, [.ref q7, .ref q15, .int 0, .int 0, .int 0, .int 0, .int 0])), (q7, .inl (gI G, 7, .inl z0)), (q15, .inl (gI G, 7, .inl z0))] := hD
  refine lv_aload_n hx hb dX2_init_35 rfl (lv_at hl 0 rfl) ?_
  refine lv_iconst (v := 0) hx hb dX2_init_36 (by decide) ?_
  refine va_put (D := G.1) (v := .int 0) (ty := .int) hx hb hts hin2 tyX2 tyX2_ok nmX2 hown hK hP hD hS 0 rfl rfl 5 (by decide) hf28 (fun _ h => h) rfl (by decide +kernel) rfl rfl (Nat.le_of_ble_eq_true rfl) dX2_init_37 (fun H locs hP hD hS => ?_)
  have hP : va_P G.1 vwCl [(h, .inr (2, [.ref q7, .ref q15, .int 0, .int 0, .int 0, .int 0, .int 0])), (q7, .inl (gI G, 7, .inl z0)), (q15, .inl (gI G, 7, .inl z0))] H := hP
  have hD : va_D A [(h, .inr (2, [.ref q7, .ref q15, .int 0, .int 0, .int 0, .int 0, .int 0])), (q7, .inl (gI G, 7, .inl z0)), (q15, .inl (gI G, 7, .inl z0))] := hD
  refine lv_aload_n hx hb dX2_init_40 rfl (lv_at hl 0 rfl) ?_
  refine lv_iconst (v := 0) hx hb dX2_init_41 (by decide) ?_
  refine va_put (D := G.1) (v := .int 0) (ty := .int) hx hb hts hin2 tyX2 tyX2_ok nmX2 hown hK hP hD hS 0 rfl rfl 6 (by decide) hf31 (fun _ h => h) rfl (by decide +kernel) rfl rfl (Nat.le_of_ble_eq_true rfl) dX2_init_42 (fun H locs hP hD hS => ?_)
  have hP : va_P G.1 vwCl [(h, .inr (2, [.ref q7, .ref q15, .int 0, .int 0, .int 0, .int 0, .int 0])), (q7, .inl (gI G, 7, .inl z0)), (q15, .inl (gI G, 7, .inl z0))] H := hP
  have hD : va_D A [(h, .inr (2, [.ref q7, .ref q15, .int 0, .int 0, .int 0, .int 0, .int 0])), (q7, .inl (gI G, 7, .inl z0)), (q15, .inl (gI G, 7, .inl z0))] := hD
  exact wk_kret (fun i => ([q7, q15] : List Nat).getD i 0) hx hb hr hlocks dX2_init_45 hP hD hS rfl
set_option maxHeartbeats 4000000 in
set_option maxRecDepth 100000 in
theorem c_X0_init (l : Launch) (G : GG) (h : Nat) (sz : Nat) : Met l yX0_init wsX0_init ({ frames := 1, cells := 4, slots := 28, locals := 20 }) (va_Pc [.ref h] (fun U => PreK G [(h, .inr (0, [.int 0, .int 0, .int 0, .null, .null, .null, .null]))] sz U U.heap)) (Qk G.1 vwCl (fun f => [(h, .inr (0, [.int 0, .int 3, .int 2, .ref (f 0), .ref (f 1), .ref (f 2), .ref (f 3)])), (f 0, .inl (gI G, 7, .inl z0)), (f 1, .inl (gI G, 7, .inl z0)), (f 2, .inl (gI G, 7, .inl z0)), (f 3, .inl (gI G, 7, .inl z0))]) (va_A [(h, .inr (0, [.int 0, .int 0, .int 0, .null, .null, .null, .null]))] sz)) 4 28 (va_A [(h, .inr (0, [.int 0, .int 0, .int 0, .null, .null, .null, .null]))] sz) := by
  refine Met.ofW (cc := cX0_init) (maxL := 1) (ret := none) (by decide) rfl ?_
  intro p e s m args below meth cd s₁ BB hml hv
  obtain ⟨rfl, ⟨⟨hP, hK, hN⟩, hD0, hsz⟩, hO⟩ := hv
  have hx := BB.exec
  have hb := BB.bytes
  have hr := BB.returns
  have hts := atoms_spec (ws := wsX0_init) BB.pre
  have hown : s.vm.findClass RX0 = some m.cls := findClass_of_methodNamed BB.named
  have hlocks := BB.notSynchronized
  have hini : meth.name = "<init>" := (name_of_methodNamed BB.named BB.method).1
  subst hsz
  have hD := hD0.self (sz := s.heap.size)
  generalize hAe : va_A [(h, .inr (0, [.int 0, .int 0, .int 0, .null, .null, .null, .null]))] s.heap.size = A at hD ⊢
  have hA : ∀ q : Nat, s.heap.size ≤ q → A q := fun q h => by rw [← hAe]; exact Or.inr h
  have hS : va_S A s.heap s.heap [] := va_S.rf
  have hin0 : ∀ w ∈ u_ws RX0 TX0 7, w ∈ wsX0_init := by decide +kernel
  have hf9 := hts (.fieldLink RX0 9 "RegaliaVotes$Council" "things" "I") (by decide +kernel)
  have hf15 := hts (.fieldLink RX0 15 "RegaliaVotes$Council" "officers" "I") (by decide +kernel)
  have hf18 := hts (.fieldLink RX0 18 "RegaliaVotes$Council" "warmth" "I") (by decide +kernel)
  have hf21 := hts (.fieldLink RX0 21 "RegaliaVotes$Council" "sort" "[I") (by decide +kernel)
  have hf25 := hts (.fieldLink RX0 25 "RegaliaVotes$Council" "votes" "[I") (by decide +kernel)
  have hf28 := hts (.fieldLink RX0 28 "RegaliaVotes$Council" "forBills" "[I") (by decide +kernel)
  have hf31 := hts (.fieldLink RX0 31 "RegaliaVotes$Council" "firstHolder" "[I") (by decide +kernel)
  refine wk_enter (n := 1) (Nat.le_of_ble_eq_true rfl) (fun ls hl => ?_)
  have hl : lv_has ls 1 [(0, .ref h)] := hl
  refine lv_aload_n hx hb dX0_init_0 rfl (lv_at hl 0 rfl) ?_
  refine W.objInit hx hb hown (hts (.methodLink RX0 3 objectInit) (by decide +kernel)) (hts (.instanceMethod objectInit) (by decide +kernel)) (hts (.code objectInit ⟨#[0xb1]⟩ 1 none) (by decide +kernel)) rfl (by rw [hml]; exact hl.1) rfl dX0_init_1 (Nat.le_of_ble_eq_true rfl) (Nat.le_of_ble_eq_true rfl) ?_
  refine W.eq (g2 := F0 m 4 ls []) rfl ?_
  refine lv_aload_n hx hb dX0_init_4 rfl (lv_at hl 0 rfl) ?_
  refine lv_iconst (v := 0) hx hb dX0_init_5 (by decide) ?_
  refine va_put (D := G.1) (v := .int 0) (ty := .int) hx hb hts hin0 tyX0 tyX0_ok nmX0 hown hK hP hD hS 0 rfl rfl 0 (by decide) hf9 (fun _ h => h) rfl (by decide +kernel) rfl rfl (Nat.le_of_ble_eq_true rfl) dX0_init_6 (fun H locs hP hD hS => ?_)
  have hP : va_P G.1 vwCl [(h, .inr (0, [.int 0, .int 0, .int 0, .null, .null, .null, .null]))] H := hP
  have hD : va_D A [(h, .inr (0, [.int 0, .int 0, .int 0, .null, .null, .null, .null]))] := hD
  refine lv_aload_n hx hb dX0_init_9 rfl (lv_at hl 0 rfl) ?_
  refine lv_iconst (v := 3) hx hb dX0_init_10 (by decide) ?_
  refine va_put (D := G.1) (v := .int 3) (ty := .int) hx hb hts hin0 tyX0 tyX0_ok nmX0 hown hK hP hD hS 0 rfl rfl 1 (by decide) hf15 (fun _ h => h) rfl (by decide +kernel) rfl rfl (Nat.le_of_ble_eq_true rfl) dX0_init_11 (fun H locs hP hD hS => ?_)
  have hP : va_P G.1 vwCl [(h, .inr (0, [.int 0, .int 3, .int 0, .null, .null, .null, .null]))] H := hP
  have hD : va_D A [(h, .inr (0, [.int 0, .int 3, .int 0, .null, .null, .null, .null]))] := hD
  refine lv_aload_n hx hb dX0_init_14 rfl (lv_at hl 0 rfl) ?_
  refine lv_iconst (v := 2) hx hb dX0_init_15 (by decide) ?_
  refine va_put (D := G.1) (v := .int 2) (ty := .int) hx hb hts hin0 tyX0 tyX0_ok nmX0 hown hK hP hD hS 0 rfl rfl 2 (by decide) hf18 (fun _ h => h) rfl (by decide +kernel) rfl rfl (Nat.le_of_ble_eq_true rfl) dX0_init_16 (fun H locs hP hD hS => ?_)
  have hP : va_P G.1 vwCl [(h, .inr (0, [.int 0, .int 3, .int 2, .null, .null, .null, .null]))] H := hP
  have hD : va_D A [(h, .inr (0, [.int 0, .int 3, .int 2, .null, .null, .null, .null]))] := hD
  refine lv_aload_n hx hb dX0_init_19 rfl (lv_at hl 0 rfl) ?_
  refine lv_bipush (v := 7) hx hb dX0_init_20 (by decide) ?_
  refine wk_newa (atype := .int) (ty := .int) 1 rfl ra_int hx hb (hts (.arrayClass .int) (by decide +kernel)) rfl hK hP hD hS hA (a0 := (7, .inl z0)) (fun _ => rfl) (by decide) (by decide) (Nat.le_of_ble_eq_true rfl) (Nat.le_of_ble_eq_true rfl) (Nat.le_of_ble_eq_true rfl) dX0_init_22 (fun q22 H hP hD hS => ?_)
  have hP : va_P G.1 vwCl [(h, .inr (0, [.int 0, .int 3, .int 2, .null, .null, .null, .null])), (q22, .inl (gI G, 7, .inl z0))] H := hP
  have hD : va_D A [(h, .inr (0, [.int 0, .int 3, .int 2, .null, .null, .null, .null])), (q22, .inl (gI G, 7, .inl z0))] := hD
  refine W.widen (k := 1) (n := 7) (Nat.le_of_ble_eq_true rfl) (Nat.le_of_ble_eq_true rfl) ?_
  refine va_putF (D := G.1) (v := .ref q22) (ty := .array .int) hx hb hts hin0 tyX0 tyX0_ok nmX0 hown hK hP hD hS 0 rfl rfl 3 (by decide) hf21 (fun _ h => h) rfl hini rfl (by decide +kernel) rfl rfl (Nat.le_of_ble_eq_true rfl) dX0_init_24 (fun H locs hP hD hS => ?_)
  have hP : va_P G.1 vwCl [(h, .inr (0, [.int 0, .int 3, .int 2, .ref q22, .null, .null, .null])), (q22, .inl (gI G, 7, .inl z0))] H := hP
  have hD : va_D A [(h, .inr (0, [.int 0, .int 3, .int 2, .ref q22, .null, .null, .null])), (q22, .inl (gI G, 7, .inl z0))] := hD
  refine lv_aload_n hx hb dX0_init_27 rfl (lv_at hl 0 rfl) ?_
  refine lv_bipush (v := 7) hx hb dX0_init_28 (by decide) ?_
  refine wk_newa (atype := .int) (ty := .int) 1 rfl ra_int hx hb (hts (.arrayClass .int) (by decide +kernel)) rfl hK hP hD hS hA (a0 := (7, .inl z0)) (fun _ => rfl) (by decide) (by decide) (Nat.le_of_ble_eq_true rfl) (Nat.le_of_ble_eq_true rfl) (Nat.le_of_ble_eq_true rfl) dX0_init_30 (fun q30 H hP hD hS => ?_)
  have hP : va_P G.1 vwCl [(h, .inr (0, [.int 0, .int 3, .int 2, .ref q22, .null, .null, .null])), (q22, .inl (gI G, 7, .inl z0)), (q30, .inl (gI G, 7, .inl z0))] H := hP
  have hD : va_D A [(h, .inr (0, [.int 0, .int 3, .int 2, .ref q22, .null, .null, .null])), (q22, .inl (gI G, 7, .inl z0)), (q30, .inl (gI G, 7, .inl z0))] := hD
  refine W.widen (k := 2) (n := 14) (Nat.le_of_ble_eq_true rfl) (Nat.le_of_ble_eq_true rfl) ?_
  refine va_putF (D := G.1) (v := .ref q30) (ty := .array .int) hx hb hts hin0 tyX0 tyX0_ok nmX0 hown hK hP hD hS 0 rfl rfl 4 (by decide) hf25 (fun _ h => h) rfl hini rfl (by decide +kernel) rfl rfl (Nat.le_of_ble_eq_true rfl) dX0_init_32 (fun H locs hP hD hS => ?_)
  have hP : va_P G.1 vwCl [(h, .inr (0, [.int 0, .int 3, .int 2, .ref q22, .ref q30, .null, .null])), (q22, .inl (gI G, 7, .inl z0)), (q30, .inl (gI G, 7, .inl z0))] H := hP
  have hD : va_D A [(h, .inr (0, [.int 0, .int 3, .int 2, .ref q22, .ref q30, .null, .null])), (q22, .inl (gI G, 7, .inl z0)), (q30, .inl (gI G, 7, .inl z0))] := hD
  refine lv_aload_n hx hb dX0_init_35 rfl (lv_at hl 0 rfl) ?_
  refine lv_bipush (v := 7) hx hb dX0_init_36 (by decide) ?_
  refine wk_newa (atype := .int) (ty := .int) 1 rfl ra_int hx hb (hts (.arrayClass .int) (by decide +kernel)) rfl hK hP hD hS hA (a0 := (7, .inl z0)) (fun _ => rfl) (by decide) (by decide) (Nat.le_of_ble_eq_true rfl) (Nat.le_of_ble_eq_true rfl) (Nat.le_of_ble_eq_true rfl) dX0_init_38 (fun q38 H hP hD hS => ?_)
  have hP : va_P G.1 vwCl [(h, .inr (0, [.int 0, .int 3, .int 2, .ref q22, .ref q30, .null, .null])), (q22, .inl (gI G, 7, .inl z0)), (q30, .inl (gI G, 7, .inl z0)), (q38, .inl (gI G, 7, .inl z0))] H := hP
  have hD : va_D A [(h, .inr (0, [.int 0, .int 3, .int 2, .ref q22, .ref q30, .null, .null])), (q22, .inl (gI G, 7, .inl z0)), (q30, .inl (gI G, 7, .inl z0)), (q38, .inl (gI G, 7, .inl z0))] := hD
  refine W.widen (k := 3) (n := 21) (Nat.le_of_ble_eq_true rfl) (Nat.le_of_ble_eq_true rfl) ?_
  refine va_putF (D := G.1) (v := .ref q38) (ty := .array .int) hx hb hts hin0 tyX0 tyX0_ok nmX0 hown hK hP hD hS 0 rfl rfl 5 (by decide) hf28 (fun _ h => h) rfl hini rfl (by decide +kernel) rfl rfl (Nat.le_of_ble_eq_true rfl) dX0_init_40 (fun H locs hP hD hS => ?_)
  have hP : va_P G.1 vwCl [(h, .inr (0, [.int 0, .int 3, .int 2, .ref q22, .ref q30, .ref q38, .null])), (q22, .inl (gI G, 7, .inl z0)), (q30, .inl (gI G, 7, .inl z0)), (q38, .inl (gI G, 7, .inl z0))] H := hP
  have hD : va_D A [(h, .inr (0, [.int 0, .int 3, .int 2, .ref q22, .ref q30, .ref q38, .null])), (q22, .inl (gI G, 7, .inl z0)), (q30, .inl (gI G, 7, .inl z0)), (q38, .inl (gI G, 7, .inl z0))] := hD
  refine lv_aload_n hx hb dX0_init_43 rfl (lv_at hl 0 rfl) ?_
  refine lv_bipush (v := 7) hx hb dX0_init_44 (by decide) ?_
  refine wk_newa (atype := .int) (ty := .int) 1 rfl ra_int hx hb (hts (.arrayClass .int) (by decide +kernel)) rfl hK hP hD hS hA (a0 := (7, .inl z0)) (fun _ => rfl) (by decide) (by decide) (Nat.le_of_ble_eq_true rfl) (Nat.le_of_ble_eq_true rfl) (Nat.le_of_ble_eq_true rfl) dX0_init_46 (fun q46 H hP hD hS => ?_)
  have hP : va_P G.1 vwCl [(h, .inr (0, [.int 0, .int 3, .int 2, .ref q22, .ref q30, .ref q38, .null])), (q22, .inl (gI G, 7, .inl z0)), (q30, .inl (gI G, 7, .inl z0)), (q38, .inl (gI G, 7, .inl z0)), (q46, .inl (gI G, 7, .inl z0))] H := hP
  have hD : va_D A [(h, .inr (0, [.int 0, .int 3, .int 2, .ref q22, .ref q30, .ref q38, .null])), (q22, .inl (gI G, 7, .inl z0)), (q30, .inl (gI G, 7, .inl z0)), (q38, .inl (gI G, 7, .inl z0)), (q46, .inl (gI G, 7, .inl z0))] := hD
  refine W.widen (k := 4) (n := 28) (Nat.le_of_ble_eq_true rfl) (Nat.le_of_ble_eq_true rfl) ?_
  refine va_putF (D := G.1) (v := .ref q46) (ty := .array .int) hx hb hts hin0 tyX0 tyX0_ok nmX0 hown hK hP hD hS 0 rfl rfl 6 (by decide) hf31 (fun _ h => h) rfl hini rfl (by decide +kernel) rfl rfl (Nat.le_of_ble_eq_true rfl) dX0_init_48 (fun H locs hP hD hS => ?_)
  have hP : va_P G.1 vwCl [(h, .inr (0, [.int 0, .int 3, .int 2, .ref q22, .ref q30, .ref q38, .ref q46])), (q22, .inl (gI G, 7, .inl z0)), (q30, .inl (gI G, 7, .inl z0)), (q38, .inl (gI G, 7, .inl z0)), (q46, .inl (gI G, 7, .inl z0))] H := hP
  have hD : va_D A [(h, .inr (0, [.int 0, .int 3, .int 2, .ref q22, .ref q30, .ref q38, .ref q46])), (q22, .inl (gI G, 7, .inl z0)), (q30, .inl (gI G, 7, .inl z0)), (q38, .inl (gI G, 7, .inl z0)), (q46, .inl (gI G, 7, .inl z0))] := hD
  exact wk_kret (fun i => ([q22, q30, q38, q46] : List Nat).getD i 0) hx hb hr hlocks dX0_init_51 hP hD hS rfl
set_option maxHeartbeats 4000000 in
set_option maxRecDepth 100000 in
theorem c_X1_init (l : Launch) (G : GG) (h : Nat) (v : Nat) (sz : Nat) : Met l yX1_init wsX1_init ({ frames := 1, cells := 2, slots := 12, locals := 20 }) (va_Pc [.ref h, .ref v] (fun U => PreK G [(h, .inr (1, [.null, .null, .null, .int 0]))] sz U U.heap)) (Qk G.1 vwCl (fun f => [(h, .inr (1, [.ref v, .ref (f 0), .ref (f 1), .int 0])), (f 0, .inl (gI G, 6, .inl z0)), (f 1, .inl (gZ G, 6, .inl z0))]) (va_A [(h, .inr (1, [.null, .null, .null, .int 0]))] sz)) 2 12 (va_A [(h, .inr (1, [.null, .null, .null, .int 0]))] sz) := by
  refine Met.ofW (cc := cX1_init) (maxL := 2) (ret := none) (by decide) rfl ?_
  intro p e s m args below meth cd s₁ BB hml hv
  obtain ⟨rfl, ⟨⟨hP, hK, hN⟩, hD0, hsz⟩, hO⟩ := hv
  have hx := BB.exec
  have hb := BB.bytes
  have hr := BB.returns
  have hts := atoms_spec (ws := wsX1_init) BB.pre
  have hown : s.vm.findClass RX1 = some m.cls := findClass_of_methodNamed BB.named
  have hlocks := BB.notSynchronized
  have hini : meth.name = "<init>" := (name_of_methodNamed BB.named BB.method).1
  subst hsz
  have hD := hD0.self (sz := s.heap.size)
  generalize hAe : va_A [(h, .inr (1, [.null, .null, .null, .int 0]))] s.heap.size = A at hD ⊢
  have hA : ∀ q : Nat, s.heap.size ≤ q → A q := fun q h => by rw [← hAe]; exact Or.inr h
  have hS : va_S A s.heap s.heap [] := va_S.rf
  have hin1 : ∀ w ∈ u_ws RX1 TX1 4, w ∈ wsX1_init := by decide +kernel
  have hf9 := hts (.fieldLink RX1 9 "RegaliaVotes$Minutes" "bills" "[I") (by decide +kernel)
  have hf15 := hts (.fieldLink RX1 15 "RegaliaVotes$Minutes" "outcomes" "[Z") (by decide +kernel)
  have hf19 := hts (.fieldLink RX1 19 "RegaliaVotes$Minutes" "lines" "I") (by decide +kernel)
  have hf23 := hts (.fieldLink RX1 23 "RegaliaVotes$Minutes" "vote" "LRegaliaVotes$Vote;") (by decide +kernel)
  refine wk_enter (n := 2) (Nat.le_of_ble_eq_true rfl) (fun ls hl => ?_)
  have hl : lv_has ls 2 [(0, .ref h), (1, .ref v)] := hl
  refine lv_aload_n hx hb dX1_init_0 rfl (lv_at hl 0 rfl) ?_
  refine W.objInit hx hb hown (hts (.methodLink RX1 3 objectInit) (by decide +kernel)) (hts (.instanceMethod objectInit) (by decide +kernel)) (hts (.code objectInit ⟨#[0xb1]⟩ 1 none) (by decide +kernel)) rfl (by rw [hml]; exact hl.1) rfl dX1_init_1 (Nat.le_of_ble_eq_true rfl) (Nat.le_of_ble_eq_true rfl) ?_
  refine W.eq (g2 := F0 m 4 ls []) rfl ?_
  refine lv_aload_n hx hb dX1_init_4 rfl (lv_at hl 0 rfl) ?_
  refine lv_bipush (v := 6) hx hb dX1_init_5 (by decide) ?_
  refine wk_newa (atype := .int) (ty := .int) 1 rfl ra_int hx hb (hts (.arrayClass .int) (by decide +kernel)) rfl hK hP hD hS hA (a0 := (6, .inl z0)) (fun _ => rfl) (by decide) (by decide) (Nat.le_of_ble_eq_true rfl) (Nat.le_of_ble_eq_true rfl) (Nat.le_of_ble_eq_true rfl) dX1_init_7 (fun q7 H hP hD hS => ?_)
  have hP : va_P G.1 vwCl [(h, .inr (1, [.null, .null, .null, .int 0])), (q7, .inl (gI G, 6, .inl z0))] H := hP
  have hD : va_D A [(h, .inr (1, [.null, .null, .null, .int 0])), (q7, .inl (gI G, 6, .inl z0))] := hD
  refine W.widen (k := 1) (n := 6) (Nat.le_of_ble_eq_true rfl) (Nat.le_of_ble_eq_true rfl) ?_
  refine va_putF (D := G.1) (v := .ref q7) (ty := .array .int) hx hb hts hin1 tyX1 tyX1_ok nmX1 hown hK hP hD hS 0 rfl rfl 1 (by decide) hf9 (fun _ h => h) rfl hini rfl (by decide +kernel) rfl rfl (Nat.le_of_ble_eq_true rfl) dX1_init_9 (fun H locs hP hD hS => ?_)
  have hP : va_P G.1 vwCl [(h, .inr (1, [.null, .ref q7, .null, .int 0])), (q7, .inl (gI G, 6, .inl z0))] H := hP
  have hD : va_D A [(h, .inr (1, [.null, .ref q7, .null, .int 0])), (q7, .inl (gI G, 6, .inl z0))] := hD
  refine lv_aload_n hx hb dX1_init_12 rfl (lv_at hl 0 rfl) ?_
  refine lv_bipush (v := 6) hx hb dX1_init_13 (by decide) ?_
  refine wk_newa (atype := .boolean) (ty := .boolean) 2 rfl ra_bool hx hb (hts (.arrayClass .boolean) (by decide +kernel)) rfl hK hP hD hS hA (a0 := (6, .inl z0)) (fun _ => rfl) (by decide) (by decide) (Nat.le_of_ble_eq_true rfl) (Nat.le_of_ble_eq_true rfl) (Nat.le_of_ble_eq_true rfl) dX1_init_15 (fun q15 H hP hD hS => ?_)
  have hP : va_P G.1 vwCl [(h, .inr (1, [.null, .ref q7, .null, .int 0])), (q7, .inl (gI G, 6, .inl z0)), (q15, .inl (gZ G, 6, .inl z0))] H := hP
  have hD : va_D A [(h, .inr (1, [.null, .ref q7, .null, .int 0])), (q7, .inl (gI G, 6, .inl z0)), (q15, .inl (gZ G, 6, .inl z0))] := hD
  refine W.widen (k := 2) (n := 12) (Nat.le_of_ble_eq_true rfl) (Nat.le_of_ble_eq_true rfl) ?_
  refine va_putF (D := G.1) (v := .ref q15) (ty := .array .boolean) hx hb hts hin1 tyX1 tyX1_ok nmX1 hown hK hP hD hS 0 rfl rfl 2 (by decide) hf15 (fun _ h => h) rfl hini rfl (by decide +kernel) rfl rfl (Nat.le_of_ble_eq_true rfl) dX1_init_17 (fun H locs hP hD hS => ?_)
  have hP : va_P G.1 vwCl [(h, .inr (1, [.null, .ref q7, .ref q15, .int 0])), (q7, .inl (gI G, 6, .inl z0)), (q15, .inl (gZ G, 6, .inl z0))] H := hP
  have hD : va_D A [(h, .inr (1, [.null, .ref q7, .ref q15, .int 0])), (q7, .inl (gI G, 6, .inl z0)), (q15, .inl (gZ G, 6, .inl z0))] := hD
  refine lv_aload_n hx hb dX1_init_20 rfl (lv_at hl 0 rfl) ?_
  refine lv_iconst (v := 0) hx hb dX1_init_21 (by decide) ?_
  refine va_put (D := G.1) (v := .int 0) (ty := .int) hx hb hts hin1 tyX1 tyX1_ok nmX1 hown hK hP hD hS 0 rfl rfl 3 (by decide) hf19 (fun _ h => h) rfl (by decide +kernel) rfl rfl (Nat.le_of_ble_eq_true rfl) dX1_init_22 (fun H locs hP hD hS => ?_)
  have hP : va_P G.1 vwCl [(h, .inr (1, [.null, .ref q7, .ref q15, .int 0])), (q7, .inl (gI G, 6, .inl z0)), (q15, .inl (gZ G, 6, .inl z0))] H := hP
  have hD : va_D A [(h, .inr (1, [.null, .ref q7, .ref q15, .int 0])), (q7, .inl (gI G, 6, .inl z0)), (q15, .inl (gZ G, 6, .inl z0))] := hD
  refine lv_aload_n hx hb dX1_init_25 rfl (lv_at hl 0 rfl) ?_
  refine lv_aload_n hx hb dX1_init_26 rfl (lv_at hl 1 rfl) ?_
  refine va_putF (D := G.1) (v := .ref v) (ty := .object "RegaliaVotes$Vote") hx hb hts hin1 tyX1 tyX1_ok nmX1 hown hK hP hD hS 0 rfl rfl 0 (by decide) hf23 (fun _ h => h) rfl hini rfl (by decide +kernel) rfl rfl (Nat.le_of_ble_eq_true rfl) dX1_init_27 (fun H locs hP hD hS => ?_)
  have hP : va_P G.1 vwCl [(h, .inr (1, [.ref v, .ref q7, .ref q15, .int 0])), (q7, .inl (gI G, 6, .inl z0)), (q15, .inl (gZ G, 6, .inl z0))] H := hP
  have hD : va_D A [(h, .inr (1, [.ref v, .ref q7, .ref q15, .int 0])), (q7, .inl (gI G, 6, .inl z0)), (q15, .inl (gZ G, 6, .inl z0))] := hD
  exact wk_kret (fun i => ([q7, q15] : List Nat).getD i 0) hx hb hr hlocks dX1_init_30 hP hD hS rfl
set_option maxHeartbeats 4000000 in
set_option maxRecDepth 100000 in
theorem c_X4_init (l : Launch) (G : GG) (h : Nat) (v : Nat) (sz : Nat) : Met l yX4_init wsX4_init ({ frames := 1, cells := 0, slots := 0, locals := 20 }) (va_Pc [.ref h, .ref v] (fun U => PreK G [(h, .inr (4, [.null]))] sz U U.heap)) (Qk G.1 vwCl (fun f => [(h, .inr (4, [.ref v]))]) (va_A [(h, .inr (4, [.null]))] sz)) 0 0 (va_A [(h, .inr (4, [.null]))] sz) := by
  refine Met.ofW (cc := cX4_init) (maxL := 2) (ret := none) (by decide) rfl ?_
  intro p e s m args below meth cd s₁ BB hml hv
  obtain ⟨rfl, ⟨⟨hP, hK, hN⟩, hD0, hsz⟩, hO⟩ := hv
  have hx := BB.exec
  have hb := BB.bytes
  have hr := BB.returns
  have hts := atoms_spec (ws := wsX4_init) BB.pre
  have hown : s.vm.findClass RX4 = some m.cls := findClass_of_methodNamed BB.named
  have hlocks := BB.notSynchronized
  have hini : meth.name = "<init>" := (name_of_methodNamed BB.named BB.method).1
  subst hsz
  have hD := hD0.self (sz := s.heap.size)
  generalize hAe : va_A [(h, .inr (4, [.null]))] s.heap.size = A at hD ⊢
  have hA : ∀ q : Nat, s.heap.size ≤ q → A q := fun q h => by rw [← hAe]; exact Or.inr h
  have hS : va_S A s.heap s.heap [] := va_S.rf
  have hin4 : ∀ w ∈ u_ws RX4 TX4 1, w ∈ wsX4_init := by decide +kernel
  have hf9 := hts (.fieldLink RX4 9 "RegaliaVotes$Power" "vote" "LRegaliaVotes$Vote;") (by decide +kernel)
  refine wk_enter (n := 2) (Nat.le_of_ble_eq_true rfl) (fun ls hl => ?_)
  have hl : lv_has ls 2 [(0, .ref h), (1, .ref v)] := hl
  refine lv_aload_n hx hb dX4_init_0 rfl (lv_at hl 0 rfl) ?_
  refine W.objInit hx hb hown (hts (.methodLink RX4 3 objectInit) (by decide +kernel)) (hts (.instanceMethod objectInit) (by decide +kernel)) (hts (.code objectInit ⟨#[0xb1]⟩ 1 none) (by decide +kernel)) rfl (by rw [hml]; exact hl.1) rfl dX4_init_1 (Nat.le_of_ble_eq_true rfl) (Nat.le_of_ble_eq_true rfl) ?_
  refine W.eq (g2 := F0 m 4 ls []) rfl ?_
  refine lv_aload_n hx hb dX4_init_4 rfl (lv_at hl 0 rfl) ?_
  refine lv_aload_n hx hb dX4_init_5 rfl (lv_at hl 1 rfl) ?_
  refine va_putF (D := G.1) (v := .ref v) (ty := .object "RegaliaVotes$Vote") hx hb hts hin4 tyX4 tyX4_ok nmX4 hown hK hP hD hS 0 rfl rfl 0 (by decide) hf9 (fun _ h => h) rfl hini rfl (by decide +kernel) rfl rfl (Nat.le_of_ble_eq_true rfl) dX4_init_6 (fun H locs hP hD hS => ?_)
  have hP : va_P G.1 vwCl [(h, .inr (4, [.ref v]))] H := hP
  have hD : va_D A [(h, .inr (4, [.ref v]))] := hD
  exact wk_kret (fun i => ([] : List Nat).getD i 0) hx hb hr hlocks dX4_init_9 hP hD hS rfl
set_option maxHeartbeats 4000000 in
set_option maxRecDepth 100000 in
theorem c_X5_init (l : Launch) (G : GG) (h : Nat) (v : Nat) (w : Nat) (sz : Nat) : Met l yX5_init wsX5_init ({ frames := 1, cells := 0, slots := 0, locals := 20 }) (va_Pc [.ref h, .ref v, .ref w] (fun U => PreK G [(h, .inr (5, [.null, .null, .int 0, .int 0, .int 0, .int 0, .int 0, .int 0, .int 0]))] sz U U.heap)) (Qk G.1 vwCl (fun f => [(h, .inr (5, [.ref v, .ref w, .int 0, .int 0, .int (-1), .int 0, .int 0, .int (-1), .int 0]))]) (va_A [(h, .inr (5, [.null, .null, .int 0, .int 0, .int 0, .int 0, .int 0, .int 0, .int 0]))] sz)) 0 0 (va_A [(h, .inr (5, [.null, .null, .int 0, .int 0, .int 0, .int 0, .int 0, .int 0, .int 0]))] sz) := by
  refine Met.ofW (cc := cX5_init) (maxL := 3) (ret := none) (by decide) rfl ?_
  intro p e s m args below meth cd s₁ BB hml hv
  obtain ⟨rfl, ⟨⟨hP, hK, hN⟩, hD0, hsz⟩, hO⟩ := hv
  have hx := BB.exec
  have hb := BB.bytes
  have hr := BB.returns
  have hts := atoms_spec (ws := wsX5_init) BB.pre
  have hown : s.vm.findClass RX5 = some m.cls := findClass_of_methodNamed BB.named
  have hlocks := BB.notSynchronized
  have hini : meth.name = "<init>" := (name_of_methodNamed BB.named BB.method).1
  subst hsz
  have hD := hD0.self (sz := s.heap.size)
  generalize hAe : va_A [(h, .inr (5, [.null, .null, .int 0, .int 0, .int 0, .int 0, .int 0, .int 0, .int 0]))] s.heap.size = A at hD ⊢
  have hA : ∀ q : Nat, s.heap.size ≤ q → A q := fun q h => by rw [← hAe]; exact Or.inr h
  have hS : va_S A s.heap s.heap [] := va_S.rf
  have hin5 : ∀ w ∈ u_ws RX5 TX5 9, w ∈ wsX5_init := by decide +kernel
  have hf9 := hts (.fieldLink RX5 9 "RegaliaVotes$Reader" "length" "I") (by decide +kernel)
  have hf15 := hts (.fieldLink RX5 15 "RegaliaVotes$Reader" "place" "I") (by decide +kernel)
  have hf18 := hts (.fieldLink RX5 18 "RegaliaVotes$Reader" "token" "I") (by decide +kernel)
  have hf21 := hts (.fieldLink RX5 21 "RegaliaVotes$Reader" "tokenPlace" "I") (by decide +kernel)
  have hf24 := hts (.fieldLink RX5 24 "RegaliaVotes$Reader" "number" "I") (by decide +kernel)
  have hf27 := hts (.fieldLink RX5 27 "RegaliaVotes$Reader" "fault" "I") (by decide +kernel)
  have hf30 := hts (.fieldLink RX5 30 "RegaliaVotes$Reader" "warmthTold" "Z") (by decide +kernel)
  have hf34 := hts (.fieldLink RX5 34 "RegaliaVotes$Reader" "text" "[C") (by decide +kernel)
  have hf38 := hts (.fieldLink RX5 38 "RegaliaVotes$Reader" "draft" "LRegaliaVotes$Council;") (by decide +kernel)
  refine wk_enter (n := 3) (Nat.le_of_ble_eq_true rfl) (fun ls hl => ?_)
  have hl : lv_has ls 3 [(0, .ref h), (1, .ref v), (2, .ref w)] := hl
  refine lv_aload_n hx hb dX5_init_0 rfl (lv_at hl 0 rfl) ?_
  refine W.objInit hx hb hown (hts (.methodLink RX5 3 objectInit) (by decide +kernel)) (hts (.instanceMethod objectInit) (by decide +kernel)) (hts (.code objectInit ⟨#[0xb1]⟩ 1 none) (by decide +kernel)) rfl (by rw [hml]; exact hl.1) rfl dX5_init_1 (Nat.le_of_ble_eq_true rfl) (Nat.le_of_ble_eq_true rfl) ?_
  refine W.eq (g2 := F0 m 4 ls []) rfl ?_
  refine lv_aload_n hx hb dX5_init_4 rfl (lv_at hl 0 rfl) ?_
  refine lv_iconst (v := 0) hx hb dX5_init_5 (by decide) ?_
  refine va_put (D := G.1) (v := .int 0) (ty := .int) hx hb hts hin5 tyX5 tyX5_ok nmX5 hown hK hP hD hS 0 rfl rfl 2 (by decide) hf9 (fun _ h => h) rfl (by decide +kernel) rfl rfl (Nat.le_of_ble_eq_true rfl) dX5_init_6 (fun H locs hP hD hS => ?_)
  have hP : va_P G.1 vwCl [(h, .inr (5, [.null, .null, .int 0, .int 0, .int 0, .int 0, .int 0, .int 0, .int 0]))] H := hP
  have hD : va_D A [(h, .inr (5, [.null, .null, .int 0, .int 0, .int 0, .int 0, .int 0, .int 0, .int 0]))] := hD
  refine lv_aload_n hx hb dX5_init_9 rfl (lv_at hl 0 rfl) ?_
  refine lv_iconst (v := 0) hx hb dX5_init_10 (by decide) ?_
  refine va_put (D := G.1) (v := .int 0) (ty := .int) hx hb hts hin5 tyX5 tyX5_ok nmX5 hown hK hP hD hS 0 rfl rfl 3 (by decide) hf15 (fun _ h => h) rfl (by decide +kernel) rfl rfl (Nat.le_of_ble_eq_true rfl) dX5_init_11 (fun H locs hP hD hS => ?_)
  have hP : va_P G.1 vwCl [(h, .inr (5, [.null, .null, .int 0, .int 0, .int 0, .int 0, .int 0, .int 0, .int 0]))] H := hP
  have hD : va_D A [(h, .inr (5, [.null, .null, .int 0, .int 0, .int 0, .int 0, .int 0, .int 0, .int 0]))] := hD
  refine lv_aload_n hx hb dX5_init_14 rfl (lv_at hl 0 rfl) ?_
  refine lv_iconst (v := -1) hx hb dX5_init_15 (by decide) ?_
  refine va_put (D := G.1) (v := .int (-1)) (ty := .int) hx hb hts hin5 tyX5 tyX5_ok nmX5 hown hK hP hD hS 0 rfl rfl 4 (by decide) hf18 (fun _ h => h) rfl (by decide +kernel) rfl rfl (Nat.le_of_ble_eq_true rfl) dX5_init_16 (fun H locs hP hD hS => ?_)
  have hP : va_P G.1 vwCl [(h, .inr (5, [.null, .null, .int 0, .int 0, .int (-1), .int 0, .int 0, .int 0, .int 0]))] H := hP
  have hD : va_D A [(h, .inr (5, [.null, .null, .int 0, .int 0, .int (-1), .int 0, .int 0, .int 0, .int 0]))] := hD
  refine lv_aload_n hx hb dX5_init_19 rfl (lv_at hl 0 rfl) ?_
  refine lv_iconst (v := 0) hx hb dX5_init_20 (by decide) ?_
  refine va_put (D := G.1) (v := .int 0) (ty := .int) hx hb hts hin5 tyX5 tyX5_ok nmX5 hown hK hP hD hS 0 rfl rfl 5 (by decide) hf21 (fun _ h => h) rfl (by decide +kernel) rfl rfl (Nat.le_of_ble_eq_true rfl) dX5_init_21 (fun H locs hP hD hS => ?_)
  have hP : va_P G.1 vwCl [(h, .inr (5, [.null, .null, .int 0, .int 0, .int (-1), .int 0, .int 0, .int 0, .int 0]))] H := hP
  have hD : va_D A [(h, .inr (5, [.null, .null, .int 0, .int 0, .int (-1), .int 0, .int 0, .int 0, .int 0]))] := hD
  refine lv_aload_n hx hb dX5_init_24 rfl (lv_at hl 0 rfl) ?_
  refine lv_iconst (v := 0) hx hb dX5_init_25 (by decide) ?_
  refine va_put (D := G.1) (v := .int 0) (ty := .int) hx hb hts hin5 tyX5 tyX5_ok nmX5 hown hK hP hD hS 0 rfl rfl 6 (by decide) hf24 (fun _ h => h) rfl (by decide +kernel) rfl rfl (Nat.le_of_ble_eq_true rfl) dX5_init_26 (fun H locs hP hD hS => ?_)
  have hP : va_P G.1 vwCl [(h, .inr (5, [.null, .null, .int 0, .int 0, .int (-1), .int 0, .int 0, .int 0, .int 0]))] H := hP
  have hD : va_D A [(h, .inr (5, [.null, .null, .int 0, .int 0, .int (-1), .int 0, .int 0, .int 0, .int 0]))] := hD
  refine lv_aload_n hx hb dX5_init_29 rfl (lv_at hl 0 rfl) ?_
  refine lv_iconst (v := -1) hx hb dX5_init_30 (by decide) ?_
  refine va_put (D := G.1) (v := .int (-1)) (ty := .int) hx hb hts hin5 tyX5 tyX5_ok nmX5 hown hK hP hD hS 0 rfl rfl 7 (by decide) hf27 (fun _ h => h) rfl (by decide +kernel) rfl rfl (Nat.le_of_ble_eq_true rfl) dX5_init_31 (fun H locs hP hD hS => ?_)
  have hP : va_P G.1 vwCl [(h, .inr (5, [.null, .null, .int 0, .int 0, .int (-1), .int 0, .int 0, .int (-1), .int 0]))] H := hP
  have hD : va_D A [(h, .inr (5, [.null, .null, .int 0, .int 0, .int (-1), .int 0, .int 0, .int (-1), .int 0]))] := hD
  refine lv_aload_n hx hb dX5_init_34 rfl (lv_at hl 0 rfl) ?_
  refine lv_iconst (v := 0) hx hb dX5_init_35 (by decide) ?_
  refine va_put (D := G.1) (v := .int 0) (ty := .boolean) hx hb hts hin5 tyX5 tyX5_ok nmX5 hown hK hP hD hS 0 rfl rfl 8 (by decide) hf30 (fun _ h => h) rfl (by decide +kernel) rfl rfl (Nat.le_of_ble_eq_true rfl) dX5_init_36 (fun H locs hP hD hS => ?_)
  have hP : va_P G.1 vwCl [(h, .inr (5, [.null, .null, .int 0, .int 0, .int (-1), .int 0, .int 0, .int (-1), .int 0]))] H := hP
  have hD : va_D A [(h, .inr (5, [.null, .null, .int 0, .int 0, .int (-1), .int 0, .int 0, .int (-1), .int 0]))] := hD
  refine lv_aload_n hx hb dX5_init_39 rfl (lv_at hl 0 rfl) ?_
  refine lv_aload_n hx hb dX5_init_40 rfl (lv_at hl 1 rfl) ?_
  refine va_putF (D := G.1) (v := .ref v) (ty := .array .char) hx hb hts hin5 tyX5 tyX5_ok nmX5 hown hK hP hD hS 0 rfl rfl 0 (by decide) hf34 (fun _ h => h) rfl hini rfl (by decide +kernel) rfl rfl (Nat.le_of_ble_eq_true rfl) dX5_init_41 (fun H locs hP hD hS => ?_)
  have hP : va_P G.1 vwCl [(h, .inr (5, [.ref v, .null, .int 0, .int 0, .int (-1), .int 0, .int 0, .int (-1), .int 0]))] H := hP
  have hD : va_D A [(h, .inr (5, [.ref v, .null, .int 0, .int 0, .int (-1), .int 0, .int 0, .int (-1), .int 0]))] := hD
  refine lv_aload_n hx hb dX5_init_44 rfl (lv_at hl 0 rfl) ?_
  refine lv_aload_n hx hb dX5_init_45 rfl (lv_at hl 2 rfl) ?_
  refine va_putF (D := G.1) (v := .ref w) (ty := .object "RegaliaVotes$Council") hx hb hts hin5 tyX5 tyX5_ok nmX5 hown hK hP hD hS 0 rfl rfl 1 (by decide) hf38 (fun _ h => h) rfl hini rfl (by decide +kernel) rfl rfl (Nat.le_of_ble_eq_true rfl) dX5_init_46 (fun H locs hP hD hS => ?_)
  have hP : va_P G.1 vwCl [(h, .inr (5, [.ref v, .ref w, .int 0, .int 0, .int (-1), .int 0, .int 0, .int (-1), .int 0]))] H := hP
  have hD : va_D A [(h, .inr (5, [.ref v, .ref w, .int 0, .int 0, .int (-1), .int 0, .int 0, .int (-1), .int 0]))] := hD
  exact wk_kret (fun i => ([] : List Nat).getD i 0) hx hb hr hlocks dX5_init_49 hP hD hS rfl
set_option maxHeartbeats 4000000 in
set_option maxRecDepth 100000 in
theorem c_X6_init (l : Launch) (G : GG) (h : Nat) (v : Nat) (w : Nat) (sz : Nat) : Met l yX6_init wsX6_init ({ frames := 1, cells := 0, slots := 0, locals := 20 }) (va_Pc [.ref h, .ref v, .ref w] (fun U => PreK G [(h, .inr (6, [.null, .null]))] sz U U.heap)) (Qk G.1 vwCl (fun f => [(h, .inr (6, [.ref v, .ref w]))]) (va_A [(h, .inr (6, [.null, .null]))] sz)) 0 0 (va_A [(h, .inr (6, [.null, .null]))] sz) := by
  refine Met.ofW (cc := cX6_init) (maxL := 3) (ret := none) (by decide) rfl ?_
  intro p e s m args below meth cd s₁ BB hml hv
  obtain ⟨rfl, ⟨⟨hP, hK, hN⟩, hD0, hsz⟩, hO⟩ := hv
  have hx := BB.exec
  have hb := BB.bytes
  have hr := BB.returns
  have hts := atoms_spec (ws := wsX6_init) BB.pre
  have hown : s.vm.findClass RX6 = some m.cls := findClass_of_methodNamed BB.named
  have hlocks := BB.notSynchronized
  have hini : meth.name = "<init>" := (name_of_methodNamed BB.named BB.method).1
  subst hsz
  have hD := hD0.self (sz := s.heap.size)
  generalize hAe : va_A [(h, .inr (6, [.null, .null]))] s.heap.size = A at hD ⊢
  have hA : ∀ q : Nat, s.heap.size ≤ q → A q := fun q h => by rw [← hAe]; exact Or.inr h
  have hS : va_S A s.heap s.heap [] := va_S.rf
  have hin6 : ∀ w ∈ u_ws RX6 TX6 2, w ∈ wsX6_init := by decide +kernel
  have hf9 := hts (.fieldLink RX6 9 "RegaliaVotes$Vote" "told" "LRegaliaVotes$Council;") (by decide +kernel)
  have hf15 := hts (.fieldLink RX6 15 "RegaliaVotes$Vote" "moment" "LRegaliaVotes$Moment;") (by decide +kernel)
  refine wk_enter (n := 3) (Nat.le_of_ble_eq_true rfl) (fun ls hl => ?_)
  have hl : lv_has ls 3 [(0, .ref h), (1, .ref v), (2, .ref w)] := hl
  refine lv_aload_n hx hb dX6_init_0 rfl (lv_at hl 0 rfl) ?_
  refine W.objInit hx hb hown (hts (.methodLink RX6 3 objectInit) (by decide +kernel)) (hts (.instanceMethod objectInit) (by decide +kernel)) (hts (.code objectInit ⟨#[0xb1]⟩ 1 none) (by decide +kernel)) rfl (by rw [hml]; exact hl.1) rfl dX6_init_1 (Nat.le_of_ble_eq_true rfl) (Nat.le_of_ble_eq_true rfl) ?_
  refine W.eq (g2 := F0 m 4 ls []) rfl ?_
  refine lv_aload_n hx hb dX6_init_4 rfl (lv_at hl 0 rfl) ?_
  refine lv_aload_n hx hb dX6_init_5 rfl (lv_at hl 1 rfl) ?_
  refine va_putF (D := G.1) (v := .ref v) (ty := .object "RegaliaVotes$Council") hx hb hts hin6 tyX6 tyX6_ok nmX6 hown hK hP hD hS 0 rfl rfl 0 (by decide) hf9 (fun _ h => h) rfl hini rfl (by decide +kernel) rfl rfl (Nat.le_of_ble_eq_true rfl) dX6_init_6 (fun H locs hP hD hS => ?_)
  have hP : va_P G.1 vwCl [(h, .inr (6, [.ref v, .null]))] H := hP
  have hD : va_D A [(h, .inr (6, [.ref v, .null]))] := hD
  refine lv_aload_n hx hb dX6_init_9 rfl (lv_at hl 0 rfl) ?_
  refine lv_aload_n hx hb dX6_init_10 rfl (lv_at hl 2 rfl) ?_
  refine va_putF (D := G.1) (v := .ref w) (ty := .object "RegaliaVotes$Moment") hx hb hts hin6 tyX6 tyX6_ok nmX6 hown hK hP hD hS 0 rfl rfl 1 (by decide) hf15 (fun _ h => h) rfl hini rfl (by decide +kernel) rfl rfl (Nat.le_of_ble_eq_true rfl) dX6_init_11 (fun H locs hP hD hS => ?_)
  have hP : va_P G.1 vwCl [(h, .inr (6, [.ref v, .ref w]))] H := hP
  have hD : va_D A [(h, .inr (6, [.ref v, .ref w]))] := hD
  exact wk_kret (fun i => ([] : List Nat).getD i 0) hx hb hr hlocks dX6_init_14 hP hD hS rfl

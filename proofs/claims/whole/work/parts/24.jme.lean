theorem hdV_X8_trace : yX8_trace.cls = RX8 ∧ yX8_trace.cls ≠ "java/lang/invoke/MethodHandle" ∧ yX8_trace.cls ≠ "java/lang/invoke/VarHandle" ∧ (parseMethodDescriptor yX8_trace.desc).map (fun d => d.parameters.length) = some 0 := by decide +kernel
set_option maxHeartbeats 600000 in
set_option maxRecDepth 100000 in
theorem c_X8_trace (l : Launch) (G : GG) (a : Nat → Nat) (c : JX) (hc : OkJ c) (sz : Nat) : Met l yX8_trace wsX8_trace ({ frames := 0, cells := 0, slots := 0, locals := 0 }) (va_Pc [.ref (a 0)] (fun U => PreM G (WM G a c) sz U U.heap)) (Qm G.1 vwCl (some (.long (qTr c))) (WM G a c) (va_A (WM G a c) sz)) 0 0 (va_A (WM G a c) sz) := by
  refine Met.ofW (cc := cX8_trace) (maxL := 1) (ret := (some .long)) (by decide) rfl ?_
  intro p e s m args below meth cd s₁ BB hml hv
  obtain ⟨rfl, ⟨hP, hK, hN⟩, hD0, hsz⟩ := hv
  have hx := BB.exec
  have hb := BB.bytes
  have hr := BB.returns
  have hts := atoms_spec (ws := wsX8_trace) BB.pre
  have hown : s.vm.findClass RX8 = some m.cls := findClass_of_methodNamed BB.named
  have hlocks := BB.notSynchronized
  have hrc : 0 + 0 ≤ (headSpec wsX8_trace ({ frames := 0, cells := 0, slots := 0, locals := 0 })).room.cells := Nat.le_refl _
  have hrs : 0 + 0 ≤ (headSpec wsX8_trace ({ frames := 0, cells := 0, slots := 0, locals := 0 })).room.slots := Nat.le_refl _
  subst hsz
  have hD := hD0.self (sz := s.heap.size)
  generalize hAe : va_A (WM G a c) s.heap.size = A at hD ⊢
  have hA : ∀ q : Nat, s.heap.size ≤ q → A q := fun q h => by rw [← hAe]; exact Or.inr h
  have hS : va_S A s.heap s.heap [] := va_S.rf
  obtain ⟨hk7, ho1, ho5, hl200, hr6, hu10⟩ := id hc
  have hin8 : ∀ w ∈ u_ws RX8 TX8 24, w ∈ wsX8_trace := by decide +kernel
  have hf50 := hts (.fieldLink RX8 50 "RegaliaVotesModel" "thrown" "I") (by decide +kernel)
  have hf183 := hts (.fieldLink RX8 183 "RegaliaVotesModel" "trace" "J") (by decide +kernel)
  refine wk_enter (n := 1) (Nat.le_of_ble_eq_true rfl) (fun ls hl => ?_)
  have hl : lv_has ls 1 [(0, .ref (a 0))] := hl
  refine lv_aload_n hx hb dX8_trace_0 rfl (lv_at hl 0 rfl) ?_
  refine lv_iconst (v := 0) hx hb dX8_trace_1 (by decide) ?_
  refine va_put (D := G.1) (v := .int 0) (ty := .int) hx hb hts hin8 tyX8 tyX8_ok nmX8 hown hK hP hD hS 0 (WM_0 G a c) rfl 0 (by decide) hf50 (fun _ h => h) rfl (by decide +kernel) rfl rfl (Nat.le_of_ble_eq_true rfl) dX8_trace_2 (fun H locs hP hD hS => ?_)
  rw [WM_p0_0] at hP hD
  refine lv_aload_n hx hb dX8_trace_5 rfl (lv_at hl 0 rfl) ?_
  refine va_get (D := G.1) (v := .long (qTr c)) hx hb hts hin8 hown hK hP 0 (WM_0 G a c) rfl 1 (by decide) hf183 (fun _ h => h) rfl dX8_trace_6 ?_
  exact wk_mlret hx hb hr hlocks dX8_trace_9 hP hS rfl
theorem hdV_X7_trace : yX7_trace.cls = RX7 ∧ yX7_trace.cls ≠ "java/lang/invoke/MethodHandle" ∧ yX7_trace.cls ≠ "java/lang/invoke/VarHandle" ∧ (parseMethodDescriptor yX7_trace.desc).map (fun d => d.parameters.length) = some 0 := by decide +kernel
set_option maxHeartbeats 600000 in
set_option maxRecDepth 100000 in
theorem c_X7_trace (l : Launch) (G : GG) (a : Nat → Nat) (c : CX) (hc : OkR c) (sz : Nat) : Met l yX7_trace wsX7_trace ({ frames := 0, cells := 0, slots := 0, locals := 0 }) (va_Pc [.ref (a 0)] (fun U => PreM G (WX G a c) sz U U.heap)) (Qm G.1 vwCl (some (.long (cTr c))) (WX G a c) (va_A (WX G a c) sz)) 0 0 (va_A (WX G a c) sz) := by
  refine Met.ofW (cc := cX7_trace) (maxL := 1) (ret := (some .long)) (by decide) rfl ?_
  intro p e s m args below meth cd s₁ BB hml hv
  obtain ⟨rfl, ⟨hP, hK, hN⟩, hD0, hsz⟩ := hv
  have hx := BB.exec
  have hb := BB.bytes
  have hr := BB.returns
  have hts := atoms_spec (ws := wsX7_trace) BB.pre
  have hown : s.vm.findClass RX7 = some m.cls := findClass_of_methodNamed BB.named
  have hlocks := BB.notSynchronized
  have hrc : 0 + 0 ≤ (headSpec wsX7_trace ({ frames := 0, cells := 0, slots := 0, locals := 0 })).room.cells := Nat.le_refl _
  have hrs : 0 + 0 ≤ (headSpec wsX7_trace ({ frames := 0, cells := 0, slots := 0, locals := 0 })).room.slots := Nat.le_refl _
  subst hsz
  have hD := hD0.self (sz := s.heap.size)
  generalize hAe : va_A (WX G a c) s.heap.size = A at hD ⊢
  have hA : ∀ q : Nat, s.heap.size ≤ q → A q := fun q h => by rw [← hAe]; exact Or.inr h
  have hS : va_S A s.heap s.heap [] := va_S.rf
  obtain ⟨hk7, ho1, ho5, hi6, hl200, hnx, hkn⟩ := id hc
  have hin7 : ∀ w ∈ u_ws RX7 TX7 13, w ∈ wsX7_trace := by decide +kernel
  have hf82 := hts (.fieldLink RX7 82 "RegaliaVotes" "traced" "J") (by decide +kernel)
  refine wk_enter (n := 1) (Nat.le_of_ble_eq_true rfl) (fun ls hl => ?_)
  have hl : lv_has ls 1 [(0, .ref (a 0))] := hl
  refine lv_aload_n hx hb dX7_trace_0 rfl (lv_at hl 0 rfl) ?_
  refine va_get (D := G.1) (v := .long (cTr c)) hx hb hts hin7 hown hK hP 0 (WX_0 G a c) rfl 12 (by decide) hf82 (fun _ h => h) rfl dX7_trace_1 ?_
  exact wk_mlret hx hb hr hlocks dX7_trace_4 hP hS rfl

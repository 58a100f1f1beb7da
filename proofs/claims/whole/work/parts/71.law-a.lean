set_option maxHeartbeats 1000000 in
set_option maxRecDepth 100000 in
theorem law_type {p : Program} {l : Launch} {e : Env} {s : State} {m : MethodId} {below : List Frame} {meth : Method} {cd : Code} {b L : Nat} {xs : Nat → Int32} {G : GG} {a d : Nat → Nat} {Q : State → Prop} {ls : Array Slot} {i : Nat} {c : CX} {M : JX} {H : Heap} {locs : List Loc} (C : LW p s m cd G b L xs) (hR : Rel c M) (hi : i + 4 ≤ L) (hl : lv_has ls 4 [(3, .int (nI i)), (2, .ref (d 0)), (1, .ref (a 0)), (0, .ref b)]) (hP : va_P G.1 vwCl (WL G a d c M) H) (hD : va_D (fun q => s.heap.size ≤ q) (WL G a d c M)) (hS : va_S (fun q => s.heap.size ≤ q) s.heap H locs) (kk : ∀ (c : CX) (M : JX) (H : Heap) (locs : List Loc), Rel c M → va_P G.1 vwCl (WL G a d c M) H → va_D (fun q => s.heap.size ≤ q) (WL G a d c M) → va_S (fun q => s.heap.size ≤ q) s.heap H locs → W p l e room_1 s m #[Value.ref b] below meth cd H locs 74 1158 Q (F0 m 943 ls [])) : W p l e room_1 s m #[Value.ref b] below meth cd H locs 74 1158 Q (F0 m 176 ls []) := by
  obtain ⟨hx, hb, hml, hown, hts, hX, hbl, hK, hN, hF, hL⟩ := C
  have hA : ∀ q : Nat, s.heap.size ≤ q → (fun q => s.heap.size ≤ q) q := fun _ h => h
  have hbA : ¬ (fun q => s.heap.size ≤ q) b := Nat.not_le.mpr hbl
  refine lv_aload_n hx hb dL_law_176 rfl (lv_at hl 2 rfl) ?_
  refine lv_aload_n hx hb dL_law_177 rfl (lv_at hl 3 rfl) ?_
  refine lv_iload_n hx hb dL_law_178 rfl (lv_at hl 0 rfl) ?_
  refine lv_iconst (v := 1) hx hb dL_law_179 (by decide) ?_
  refine wk_iadd (x := i) (y := 1) hx hb dL_law_180 ?_
  refine wk_sld (i := i + 1) hx hb hX hbl hbA hS (by omega) (by omega) dL_law_181 ?_
  refine wk_callL (va_runV (As := [.int (xs (i + 1))]) (rest := []) ⟨hx, hb, hml, hown, hts⟩ (c_X7_type l G a c hR.R (xs (i + 1))  H.size) (cwV 1 hts gL_law_X7_type rfl rfl rfl hdV_X7_type ⟨Nat.le_of_ble_eq_true rfl, Nat.le_of_ble_eq_true rfl⟩) ((PreM.mk (va_P_left hP) hK hN (va_D_left hD)).pre (ci := 7) (q0 := 0) rfl (WX_0 G a c)) rfl rfl hl.1 rfl (lv_room (Nat.le_of_ble_eq_true rfl)) dL_law_182 ⟨Nat.le_of_ble_eq_true rfl, Nat.le_of_ble_eq_true rfl⟩) hP hD hS hA WX_fst (fun H locs hP hD hS => ?_)
  refine W.eq (g2 := F0 m 185 ls [.int ((xType c (xs (i + 1))).1)]) rfl ?_
  refine lv_aload_n hx hb dL_law_185 rfl (lv_at hl 1 rfl) ?_
  refine lv_aload_n hx hb dL_law_186 rfl (lv_at hl 3 rfl) ?_
  refine lv_iload_n hx hb dL_law_187 rfl (lv_at hl 0 rfl) ?_
  refine lv_iconst (v := 1) hx hb dL_law_188 (by decide) ?_
  refine wk_iadd (x := i) (y := 1) hx hb dL_law_189 ?_
  refine wk_sld (i := i + 1) hx hb hX hbl hbA hS (by omega) (by omega) dL_law_190 ?_
  refine wk_callR (va_runV (As := [.int (xs (i + 1))]) (rest := [.int ((xType c (xs (i + 1))).1)]) ⟨hx, hb, hml, hown, hts⟩ (c_X8_type l G d M hR.J (xs (i + 1))  H.size) (cwV 1 hts gL_law_X8_type rfl rfl rfl hdV_X8_type ⟨Nat.le_of_ble_eq_true rfl, Nat.le_of_ble_eq_true rfl⟩) ((PreM.mk (va_P_right hP) hK hN (va_D_right hD)).pre (ci := 8) (q0 := 0) rfl (WM_0 G d M)) rfl rfl hl.1 rfl (lv_room (Nat.le_of_ble_eq_true rfl)) dL_law_191 ⟨Nat.le_of_ble_eq_true rfl, Nat.le_of_ble_eq_true rfl⟩) hP hD hS hA WM_fst (fun H locs hP hD hS => ?_)
  refine W.eq (g2 := F0 m 194 ls [.int ((yType M (xs (i + 1))).1), .int ((xType c (xs (i + 1))).1)]) rfl ?_
  have h9 := e_type hR (xs (i + 1))
  refine lv_icmp_eq (tgt := 943) hx hb dL_law_194 (by decide) (fun _ => ?_) (fun h => absurd h9.1 h)
  exact kk _ _ H locs h9.2 hP hD hS
set_option maxHeartbeats 1000000 in
set_option maxRecDepth 100000 in
theorem law_clear {p : Program} {l : Launch} {e : Env} {s : State} {m : MethodId} {below : List Frame} {meth : Method} {cd : Code} {b L : Nat} {xs : Nat → Int32} {G : GG} {a d : Nat → Nat} {Q : State → Prop} {ls : Array Slot} {i : Nat} {c : CX} {M : JX} {H : Heap} {locs : List Loc} (C : LW p s m cd G b L xs) (hR : Rel c M) (hi : i + 4 ≤ L) (hl : lv_has ls 4 [(3, .int (nI i)), (2, .ref (d 0)), (1, .ref (a 0)), (0, .ref b)]) (hP : va_P G.1 vwCl (WL G a d c M) H) (hD : va_D (fun q => s.heap.size ≤ q) (WL G a d c M)) (hS : va_S (fun q => s.heap.size ≤ q) s.heap H locs) (kk : ∀ (c : CX) (M : JX) (H : Heap) (locs : List Loc), Rel c M → va_P G.1 vwCl (WL G a d c M) H → va_D (fun q => s.heap.size ≤ q) (WL G a d c M) → va_S (fun q => s.heap.size ≤ q) s.heap H locs → W p l e room_1 s m #[Value.ref b] below meth cd H locs 74 1158 Q (F0 m 943 ls [])) : W p l e room_1 s m #[Value.ref b] below meth cd H locs 74 1158 Q (F0 m 199 ls []) := by
  obtain ⟨hx, hb, hml, hown, hts, hX, hbl, hK, hN, hF, hL⟩ := C
  have hA : ∀ q : Nat, s.heap.size ≤ q → (fun q => s.heap.size ≤ q) q := fun _ h => h
  have hbA : ¬ (fun q => s.heap.size ≤ q) b := Nat.not_le.mpr hbl
  refine lv_aload_n hx hb dL_law_199 rfl (lv_at hl 2 rfl) ?_
  refine wk_callL (va_runV (As := []) (rest := []) ⟨hx, hb, hml, hown, hts⟩ (c_X7_clear l G a c hR.R   H.size) (cwV 0 hts gL_law_X7_clear rfl rfl rfl hdV_X7_clear ⟨Nat.le_of_ble_eq_true rfl, Nat.le_of_ble_eq_true rfl⟩) ((PreM.mk (va_P_left hP) hK hN (va_D_left hD)).pre (ci := 7) (q0 := 0) rfl (WX_0 G a c)) rfl rfl hl.1 rfl (lv_room (Nat.le_of_ble_eq_true rfl)) dL_law_200 ⟨Nat.le_of_ble_eq_true rfl, Nat.le_of_ble_eq_true rfl⟩) hP hD hS hA WX_fst (fun H locs hP hD hS => ?_)
  refine W.eq (g2 := F0 m 203 ls [.int ((xClear c).1)]) rfl ?_
  refine lv_aload_n hx hb dL_law_203 rfl (lv_at hl 1 rfl) ?_
  refine wk_callR (va_runV (As := []) (rest := [.int ((xClear c).1)]) ⟨hx, hb, hml, hown, hts⟩ (c_X8_clear l G d M hR.J   H.size) (cwV 0 hts gL_law_X8_clear rfl rfl rfl hdV_X8_clear ⟨Nat.le_of_ble_eq_true rfl, Nat.le_of_ble_eq_true rfl⟩) ((PreM.mk (va_P_right hP) hK hN (va_D_right hD)).pre (ci := 8) (q0 := 0) rfl (WM_0 G d M)) rfl rfl hl.1 rfl (lv_room (Nat.le_of_ble_eq_true rfl)) dL_law_204 ⟨Nat.le_of_ble_eq_true rfl, Nat.le_of_ble_eq_true rfl⟩) hP hD hS hA WM_fst (fun H locs hP hD hS => ?_)
  refine W.eq (g2 := F0 m 207 ls [.int ((yClear M).1), .int ((xClear c).1)]) rfl ?_
  have h9 := e_clear hR 
  refine lv_icmp_eq (tgt := 943) hx hb dL_law_207 (by decide) (fun _ => ?_) (fun h => absurd h9.1 h)
  exact kk _ _ H locs h9.2 hP hD hS
set_option maxHeartbeats 1000000 in
set_option maxRecDepth 100000 in
theorem law_council {p : Program} {l : Launch} {e : Env} {s : State} {m : MethodId} {below : List Frame} {meth : Method} {cd : Code} {b L : Nat} {xs : Nat → Int32} {G : GG} {a d : Nat → Nat} {Q : State → Prop} {ls : Array Slot} {i : Nat} {c : CX} {M : JX} {H : Heap} {locs : List Loc} (C : LW p s m cd G b L xs) (hR : Rel c M) (hi : i + 4 ≤ L) (hl : lv_has ls 4 [(3, .int (nI i)), (2, .ref (d 0)), (1, .ref (a 0)), (0, .ref b)]) (hP : va_P G.1 vwCl (WL G a d c M) H) (hD : va_D (fun q => s.heap.size ≤ q) (WL G a d c M)) (hS : va_S (fun q => s.heap.size ≤ q) s.heap H locs) (kk : ∀ (c : CX) (M : JX) (H : Heap) (locs : List Loc), Rel c M → va_P G.1 vwCl (WL G a d c M) H → va_D (fun q => s.heap.size ≤ q) (WL G a d c M) → va_S (fun q => s.heap.size ≤ q) s.heap H locs → W p l e room_1 s m #[Value.ref b] below meth cd H locs 74 1158 Q (F0 m 943 ls [])) : W p l e room_1 s m #[Value.ref b] below meth cd H locs 74 1158 Q (F0 m 212 ls []) := by
  obtain ⟨hx, hb, hml, hown, hts, hX, hbl, hK, hN, hF, hL⟩ := C
  have hA : ∀ q : Nat, s.heap.size ≤ q → (fun q => s.heap.size ≤ q) q := fun _ h => h
  have hbA : ¬ (fun q => s.heap.size ≤ q) b := Nat.not_le.mpr hbl
  refine lv_aload_n hx hb dL_law_212 rfl (lv_at hl 2 rfl) ?_
  refine wk_callL (va_runV (As := []) (rest := []) ⟨hx, hb, hml, hown, hts⟩ (c_X7_council l G a c hR.R  hR.D H.size) (cwV 0 hts gL_law_X7_council rfl rfl rfl hdV_X7_council ⟨Nat.le_of_ble_eq_true rfl, Nat.le_of_ble_eq_true rfl⟩) ((PreM.mk (va_P_left hP) hK hN (va_D_left hD)).pre (ci := 7) (q0 := 0) rfl (WX_0 G a c)) rfl rfl hl.1 rfl (lv_room (Nat.le_of_ble_eq_true rfl)) dL_law_213 ⟨Nat.le_of_ble_eq_true rfl, Nat.le_of_ble_eq_true rfl⟩) hP hD hS hA WX_fst (fun H locs hP hD hS => ?_)
  refine W.eq (g2 := F0 m 216 ls [.int ((xCouncil c).1)]) rfl ?_
  refine lv_aload_n hx hb dL_law_216 rfl (lv_at hl 1 rfl) ?_
  refine wk_callR (va_runV (As := []) (rest := [.int ((xCouncil c).1)]) ⟨hx, hb, hml, hown, hts⟩ (c_X8_council l G d M hR.J  hR.2.2.2.2.2.2.2.2 H.size) (cwV 0 hts gL_law_X8_council rfl rfl rfl hdV_X8_council ⟨Nat.le_of_ble_eq_true rfl, Nat.le_of_ble_eq_true rfl⟩) ((PreM.mk (va_P_right hP) hK hN (va_D_right hD)).pre (ci := 8) (q0 := 0) rfl (WM_0 G d M)) rfl rfl hl.1 rfl (lv_room (Nat.le_of_ble_eq_true rfl)) dL_law_217 ⟨Nat.le_of_ble_eq_true rfl, Nat.le_of_ble_eq_true rfl⟩) hP hD hS hA WM_fst (fun H locs hP hD hS => ?_)
  refine W.eq (g2 := F0 m 220 ls [.int ((yCouncil M).1), .int ((xCouncil c).1)]) rfl ?_
  have h9 := e_council hR 
  refine lv_icmp_eq (tgt := 943) hx hb dL_law_220 (by decide) (fun _ => ?_) (fun h => absurd h9.1 h)
  exact kk _ _ H locs h9.2 hP hD hS
set_option maxHeartbeats 1000000 in
set_option maxRecDepth 100000 in
theorem law_thing {p : Program} {l : Launch} {e : Env} {s : State} {m : MethodId} {below : List Frame} {meth : Method} {cd : Code} {b L : Nat} {xs : Nat → Int32} {G : GG} {a d : Nat → Nat} {Q : State → Prop} {ls : Array Slot} {i : Nat} {c : CX} {M : JX} {H : Heap} {locs : List Loc} (C : LW p s m cd G b L xs) (hR : Rel c M) (hi : i + 4 ≤ L) (hl : lv_has ls 4 [(3, .int (nI i)), (2, .ref (d 0)), (1, .ref (a 0)), (0, .ref b)]) (hP : va_P G.1 vwCl (WL G a d c M) H) (hD : va_D (fun q => s.heap.size ≤ q) (WL G a d c M)) (hS : va_S (fun q => s.heap.size ≤ q) s.heap H locs) (kk : ∀ (c : CX) (M : JX) (H : Heap) (locs : List Loc), Rel c M → va_P G.1 vwCl (WL G a d c M) H → va_D (fun q => s.heap.size ≤ q) (WL G a d c M) → va_S (fun q => s.heap.size ≤ q) s.heap H locs → W p l e room_1 s m #[Value.ref b] below meth cd H locs 74 1158 Q (F0 m 943 ls [])) : W p l e room_1 s m #[Value.ref b] below meth cd H locs 74 1158 Q (F0 m 225 ls []) := by
  obtain ⟨hx, hb, hml, hown, hts, hX, hbl, hK, hN, hF, hL⟩ := C
  have hA : ∀ q : Nat, s.heap.size ≤ q → (fun q => s.heap.size ≤ q) q := fun _ h => h
  have hbA : ¬ (fun q => s.heap.size ≤ q) b := Nat.not_le.mpr hbl
  refine lv_aload_n hx hb dL_law_225 rfl (lv_at hl 2 rfl) ?_
  refine lv_aload_n hx hb dL_law_226 rfl (lv_at hl 3 rfl) ?_
  refine lv_iload_n hx hb dL_law_227 rfl (lv_at hl 0 rfl) ?_
  refine lv_iconst (v := 1) hx hb dL_law_228 (by decide) ?_
  refine wk_iadd (x := i) (y := 1) hx hb dL_law_229 ?_
  refine wk_sld (i := i + 1) hx hb hX hbl hbA hS (by omega) (by omega) dL_law_230 ?_
  refine lv_aload_n hx hb dL_law_231 rfl (lv_at hl 3 rfl) ?_
  refine lv_iload_n hx hb dL_law_232 rfl (lv_at hl 0 rfl) ?_
  refine lv_iconst (v := 2) hx hb dL_law_233 (by decide) ?_
  refine wk_iadd (x := i) (y := 2) hx hb dL_law_234 ?_
  refine wk_sld (i := i + 2) hx hb hX hbl hbA hS (by omega) (by omega) dL_law_235 ?_
  refine wk_read (va_runV (As := [.int (xs (i + 1)), .int (xs (i + 2))]) (rest := []) ⟨hx, hb, hml, hown, hts⟩ (c_X7_thing l G a c hR.R (xs (i + 1)) (xs (i + 2))) (cwV 2 hts gL_law_X7_thing rfl rfl rfl hdV_X7_thing ⟨Nat.le_of_ble_eq_true rfl, Nat.le_of_ble_eq_true rfl⟩) (PreW.pre (W0 := WR G a c) ⟨wr_left hP, hK, hN⟩ (ci := 7) (q0 := 0) rfl rfl) rfl rfl hl.1 rfl (lv_room (Nat.le_of_ble_eq_true rfl)) dL_law_236 ⟨Nat.le_of_ble_eq_true rfl, Nat.le_of_ble_eq_true rfl⟩) ?_
  refine W.eq (g2 := F0 m 239 ls [.int (xThing c (xs (i + 1)) (xs (i + 2)))]) rfl ?_
  refine lv_aload_n hx hb dL_law_239 rfl (lv_at hl 1 rfl) ?_
  refine lv_aload_n hx hb dL_law_240 rfl (lv_at hl 3 rfl) ?_
  refine lv_iload_n hx hb dL_law_241 rfl (lv_at hl 0 rfl) ?_
  refine lv_iconst (v := 1) hx hb dL_law_242 (by decide) ?_
  refine wk_iadd (x := i) (y := 1) hx hb dL_law_243 ?_
  refine wk_sld (i := i + 1) hx hb hX hbl hbA hS (by omega) (by omega) dL_law_244 ?_
  refine lv_aload_n hx hb dL_law_245 rfl (lv_at hl 3 rfl) ?_
  refine lv_iload_n hx hb dL_law_246 rfl (lv_at hl 0 rfl) ?_
  refine lv_iconst (v := 2) hx hb dL_law_247 (by decide) ?_
  refine wk_iadd (x := i) (y := 2) hx hb dL_law_248 ?_
  refine wk_sld (i := i + 2) hx hb hX hbl hbA hS (by omega) (by omega) dL_law_249 ?_
  refine wk_callR (va_runV (As := [.int (xs (i + 1)), .int (xs (i + 2))]) (rest := [.int (xThing c (xs (i + 1)) (xs (i + 2)))]) ⟨hx, hb, hml, hown, hts⟩ (c_X8_thing l G d M hR.J (xs (i + 1)) (xs (i + 2))  H.size) (cwV 2 hts gL_law_X8_thing rfl rfl rfl hdV_X8_thing ⟨Nat.le_of_ble_eq_true rfl, Nat.le_of_ble_eq_true rfl⟩) ((PreM.mk (va_P_right hP) hK hN (va_D_right hD)).pre (ci := 8) (q0 := 0) rfl (WM_0 G d M)) rfl rfl hl.1 rfl (lv_room (Nat.le_of_ble_eq_true rfl)) dL_law_250 ⟨Nat.le_of_ble_eq_true rfl, Nat.le_of_ble_eq_true rfl⟩) hP hD hS hA WM_fst (fun H locs hP hD hS => ?_)
  refine W.eq (g2 := F0 m 253 ls [.int ((yThing M (xs (i + 1)) (xs (i + 2)))), .int (xThing c (xs (i + 1)) (xs (i + 2)))]) rfl ?_
  refine lv_icmp_eq (tgt := 943) hx hb dL_law_253 (by decide) (fun _ => ?_) (fun h => absurd (e_thing hR (xs (i + 1)) (xs (i + 2))) h)
  exact kk c M H locs hR hP hD hS
set_option maxHeartbeats 1000000 in
set_option maxRecDepth 100000 in
theorem law_officer {p : Program} {l : Launch} {e : Env} {s : State} {m : MethodId} {below : List Frame} {meth : Method} {cd : Code} {b L : Nat} {xs : Nat → Int32} {G : GG} {a d : Nat → Nat} {Q : State → Prop} {ls : Array Slot} {i : Nat} {c : CX} {M : JX} {H : Heap} {locs : List Loc} (C : LW p s m cd G b L xs) (hR : Rel c M) (hi : i + 4 ≤ L) (hl : lv_has ls 4 [(3, .int (nI i)), (2, .ref (d 0)), (1, .ref (a 0)), (0, .ref b)]) (hP : va_P G.1 vwCl (WL G a d c M) H) (hD : va_D (fun q => s.heap.size ≤ q) (WL G a d c M)) (hS : va_S (fun q => s.heap.size ≤ q) s.heap H locs) (kk : ∀ (c : CX) (M : JX) (H : Heap) (locs : List Loc), Rel c M → va_P G.1 vwCl (WL G a d c M) H → va_D (fun q => s.heap.size ≤ q) (WL G a d c M) → va_S (fun q => s.heap.size ≤ q) s.heap H locs → W p l e room_1 s m #[Value.ref b] below meth cd H locs 74 1158 Q (F0 m 943 ls [])) : W p l e room_1 s m #[Value.ref b] below meth cd H locs 74 1158 Q (F0 m 258 ls []) := by
  obtain ⟨hx, hb, hml, hown, hts, hX, hbl, hK, hN, hF, hL⟩ := C
  have hA : ∀ q : Nat, s.heap.size ≤ q → (fun q => s.heap.size ≤ q) q := fun _ h => h
  have hbA : ¬ (fun q => s.heap.size ≤ q) b := Nat.not_le.mpr hbl
  refine lv_aload_n hx hb dL_law_258 rfl (lv_at hl 2 rfl) ?_
  refine lv_aload_n hx hb dL_law_259 rfl (lv_at hl 3 rfl) ?_
  refine lv_iload_n hx hb dL_law_260 rfl (lv_at hl 0 rfl) ?_
  refine lv_iconst (v := 1) hx hb dL_law_261 (by decide) ?_
  refine wk_iadd (x := i) (y := 1) hx hb dL_law_262 ?_
  refine wk_sld (i := i + 1) hx hb hX hbl hbA hS (by omega) (by omega) dL_law_263 ?_
  refine lv_aload_n hx hb dL_law_264 rfl (lv_at hl 3 rfl) ?_
  refine lv_iload_n hx hb dL_law_265 rfl (lv_at hl 0 rfl) ?_
  refine lv_iconst (v := 2) hx hb dL_law_266 (by decide) ?_
  refine wk_iadd (x := i) (y := 2) hx hb dL_law_267 ?_
  refine wk_sld (i := i + 2) hx hb hX hbl hbA hS (by omega) (by omega) dL_law_268 ?_
  refine wk_read (va_runV (As := [.int (xs (i + 1)), .int (xs (i + 2))]) (rest := []) ⟨hx, hb, hml, hown, hts⟩ (c_X7_officer l G a c hR.R (xs (i + 1)) (xs (i + 2))) (cwV 2 hts gL_law_X7_officer rfl rfl rfl hdV_X7_officer ⟨Nat.le_of_ble_eq_true rfl, Nat.le_of_ble_eq_true rfl⟩) (PreW.pre (W0 := WR G a c) ⟨wr_left hP, hK, hN⟩ (ci := 7) (q0 := 0) rfl rfl) rfl rfl hl.1 rfl (lv_room (Nat.le_of_ble_eq_true rfl)) dL_law_269 ⟨Nat.le_of_ble_eq_true rfl, Nat.le_of_ble_eq_true rfl⟩) ?_
  refine W.eq (g2 := F0 m 272 ls [.int (xOff c (xs (i + 1)) (xs (i + 2)))]) rfl ?_
  refine lv_aload_n hx hb dL_law_272 rfl (lv_at hl 1 rfl) ?_
  refine lv_aload_n hx hb dL_law_273 rfl (lv_at hl 3 rfl) ?_
  refine lv_iload_n hx hb dL_law_274 rfl (lv_at hl 0 rfl) ?_
  refine lv_iconst (v := 1) hx hb dL_law_275 (by decide) ?_
  refine wk_iadd (x := i) (y := 1) hx hb dL_law_276 ?_
  refine wk_sld (i := i + 1) hx hb hX hbl hbA hS (by omega) (by omega) dL_law_277 ?_
  refine lv_aload_n hx hb dL_law_278 rfl (lv_at hl 3 rfl) ?_
  refine lv_iload_n hx hb dL_law_279 rfl (lv_at hl 0 rfl) ?_
  refine lv_iconst (v := 2) hx hb dL_law_280 (by decide) ?_
  refine wk_iadd (x := i) (y := 2) hx hb dL_law_281 ?_
  refine wk_sld (i := i + 2) hx hb hX hbl hbA hS (by omega) (by omega) dL_law_282 ?_
  refine wk_callR (va_runV (As := [.int (xs (i + 1)), .int (xs (i + 2))]) (rest := [.int (xOff c (xs (i + 1)) (xs (i + 2)))]) ⟨hx, hb, hml, hown, hts⟩ (c_X8_officer l G d M hR.J (xs (i + 1)) (xs (i + 2))  H.size) (cwV 2 hts gL_law_X8_officer rfl rfl rfl hdV_X8_officer ⟨Nat.le_of_ble_eq_true rfl, Nat.le_of_ble_eq_true rfl⟩) ((PreM.mk (va_P_right hP) hK hN (va_D_right hD)).pre (ci := 8) (q0 := 0) rfl (WM_0 G d M)) rfl rfl hl.1 rfl (lv_room (Nat.le_of_ble_eq_true rfl)) dL_law_283 ⟨Nat.le_of_ble_eq_true rfl, Nat.le_of_ble_eq_true rfl⟩) hP hD hS hA WM_fst (fun H locs hP hD hS => ?_)
  refine W.eq (g2 := F0 m 286 ls [.int ((yOff M (xs (i + 1)) (xs (i + 2)))), .int (xOff c (xs (i + 1)) (xs (i + 2)))]) rfl ?_
  refine lv_icmp_eq (tgt := 943) hx hb dL_law_286 (by decide) (fun _ => ?_) (fun h => absurd (e_off hR (xs (i + 1)) (xs (i + 2))) h)
  exact kk c M H locs hR hP hD hS
set_option maxHeartbeats 1000000 in
set_option maxRecDepth 100000 in
theorem law_bill {p : Program} {l : Launch} {e : Env} {s : State} {m : MethodId} {below : List Frame} {meth : Method} {cd : Code} {b L : Nat} {xs : Nat → Int32} {G : GG} {a d : Nat → Nat} {Q : State → Prop} {ls : Array Slot} {i : Nat} {c : CX} {M : JX} {H : Heap} {locs : List Loc} (C : LW p s m cd G b L xs) (hR : Rel c M) (hi : i + 4 ≤ L) (hl : lv_has ls 4 [(3, .int (nI i)), (2, .ref (d 0)), (1, .ref (a 0)), (0, .ref b)]) (hP : va_P G.1 vwCl (WL G a d c M) H) (hD : va_D (fun q => s.heap.size ≤ q) (WL G a d c M)) (hS : va_S (fun q => s.heap.size ≤ q) s.heap H locs) (kk : ∀ (c : CX) (M : JX) (H : Heap) (locs : List Loc), Rel c M → va_P G.1 vwCl (WL G a d c M) H → va_D (fun q => s.heap.size ≤ q) (WL G a d c M) → va_S (fun q => s.heap.size ≤ q) s.heap H locs → W p l e room_1 s m #[Value.ref b] below meth cd H locs 74 1158 Q (F0 m 943 ls [])) : W p l e room_1 s m #[Value.ref b] below meth cd H locs 74 1158 Q (F0 m 291 ls []) := by
  obtain ⟨hx, hb, hml, hown, hts, hX, hbl, hK, hN, hF, hL⟩ := C
  have hA : ∀ q : Nat, s.heap.size ≤ q → (fun q => s.heap.size ≤ q) q := fun _ h => h
  have hbA : ¬ (fun q => s.heap.size ≤ q) b := Nat.not_le.mpr hbl
  refine lv_aload_n hx hb dL_law_291 rfl (lv_at hl 2 rfl) ?_
  refine lv_aload_n hx hb dL_law_292 rfl (lv_at hl 3 rfl) ?_
  refine lv_iload_n hx hb dL_law_293 rfl (lv_at hl 0 rfl) ?_
  refine lv_iconst (v := 1) hx hb dL_law_294 (by decide) ?_
  refine wk_iadd (x := i) (y := 1) hx hb dL_law_295 ?_
  refine wk_sld (i := i + 1) hx hb hX hbl hbA hS (by omega) (by omega) dL_law_296 ?_
  refine lv_aload_n hx hb dL_law_297 rfl (lv_at hl 3 rfl) ?_
  refine lv_iload_n hx hb dL_law_298 rfl (lv_at hl 0 rfl) ?_
  refine lv_iconst (v := 2) hx hb dL_law_299 (by decide) ?_
  refine wk_iadd (x := i) (y := 2) hx hb dL_law_300 ?_
  refine wk_sld (i := i + 2) hx hb hX hbl hbA hS (by omega) (by omega) dL_law_301 ?_
  refine wk_read (va_runV (As := [.int (xs (i + 1)), .int (xs (i + 2))]) (rest := []) ⟨hx, hb, hml, hown, hts⟩ (c_X7_bill l G a c hR.R (xs (i + 1)) (xs (i + 2))) (cwV 2 hts gL_law_X7_bill rfl rfl rfl hdV_X7_bill ⟨Nat.le_of_ble_eq_true rfl, Nat.le_of_ble_eq_true rfl⟩) (PreW.pre (W0 := WR G a c) ⟨wr_left hP, hK, hN⟩ (ci := 7) (q0 := 0) rfl rfl) rfl rfl hl.1 rfl (lv_room (Nat.le_of_ble_eq_true rfl)) dL_law_302 ⟨Nat.le_of_ble_eq_true rfl, Nat.le_of_ble_eq_true rfl⟩) ?_
  refine W.eq (g2 := F0 m 305 ls [.int (xBill c (xs (i + 1)) (xs (i + 2)))]) rfl ?_
  refine lv_aload_n hx hb dL_law_305 rfl (lv_at hl 1 rfl) ?_
  refine lv_aload_n hx hb dL_law_306 rfl (lv_at hl 3 rfl) ?_
  refine lv_iload_n hx hb dL_law_307 rfl (lv_at hl 0 rfl) ?_
  refine lv_iconst (v := 1) hx hb dL_law_308 (by decide) ?_
  refine wk_iadd (x := i) (y := 1) hx hb dL_law_309 ?_
  refine wk_sld (i := i + 1) hx hb hX hbl hbA hS (by omega) (by omega) dL_law_310 ?_
  refine lv_aload_n hx hb dL_law_311 rfl (lv_at hl 3 rfl) ?_
  refine lv_iload_n hx hb dL_law_312 rfl (lv_at hl 0 rfl) ?_
  refine lv_iconst (v := 2) hx hb dL_law_313 (by decide) ?_
  refine wk_iadd (x := i) (y := 2) hx hb dL_law_314 ?_
  refine wk_sld (i := i + 2) hx hb hX hbl hbA hS (by omega) (by omega) dL_law_315 ?_
  refine wk_callR (va_runV (As := [.int (xs (i + 1)), .int (xs (i + 2))]) (rest := [.int (xBill c (xs (i + 1)) (xs (i + 2)))]) ⟨hx, hb, hml, hown, hts⟩ (c_X8_bill l G d M hR.J (xs (i + 1)) (xs (i + 2))  H.size) (cwV 2 hts gL_law_X8_bill rfl rfl rfl hdV_X8_bill ⟨Nat.le_of_ble_eq_true rfl, Nat.le_of_ble_eq_true rfl⟩) ((PreM.mk (va_P_right hP) hK hN (va_D_right hD)).pre (ci := 8) (q0 := 0) rfl (WM_0 G d M)) rfl rfl hl.1 rfl (lv_room (Nat.le_of_ble_eq_true rfl)) dL_law_316 ⟨Nat.le_of_ble_eq_true rfl, Nat.le_of_ble_eq_true rfl⟩) hP hD hS hA WM_fst (fun H locs hP hD hS => ?_)
  refine W.eq (g2 := F0 m 319 ls [.int ((yBill M (xs (i + 1)) (xs (i + 2)))), .int (xBill c (xs (i + 1)) (xs (i + 2)))]) rfl ?_
  refine lv_icmp_eq (tgt := 943) hx hb dL_law_319 (by decide) (fun _ => ?_) (fun h => absurd (e_bill hR (xs (i + 1)) (xs (i + 2))) h)
  exact kk c M H locs hR hP hD hS
set_option maxHeartbeats 1000000 in
set_option maxRecDepth 100000 in
theorem law_now {p : Program} {l : Launch} {e : Env} {s : State} {m : MethodId} {below : List Frame} {meth : Method} {cd : Code} {b L : Nat} {xs : Nat → Int32} {G : GG} {a d : Nat → Nat} {Q : State → Prop} {ls : Array Slot} {i : Nat} {c : CX} {M : JX} {H : Heap} {locs : List Loc} (C : LW p s m cd G b L xs) (hR : Rel c M) (hi : i + 4 ≤ L) (hl : lv_has ls 4 [(3, .int (nI i)), (2, .ref (d 0)), (1, .ref (a 0)), (0, .ref b)]) (hP : va_P G.1 vwCl (WL G a d c M) H) (hD : va_D (fun q => s.heap.size ≤ q) (WL G a d c M)) (hS : va_S (fun q => s.heap.size ≤ q) s.heap H locs) (kk : ∀ (c : CX) (M : JX) (H : Heap) (locs : List Loc), Rel c M → va_P G.1 vwCl (WL G a d c M) H → va_D (fun q => s.heap.size ≤ q) (WL G a d c M) → va_S (fun q => s.heap.size ≤ q) s.heap H locs → W p l e room_1 s m #[Value.ref b] below meth cd H locs 74 1158 Q (F0 m 943 ls [])) : W p l e room_1 s m #[Value.ref b] below meth cd H locs 74 1158 Q (F0 m 324 ls []) := by
  obtain ⟨hx, hb, hml, hown, hts, hX, hbl, hK, hN, hF, hL⟩ := C
  have hA : ∀ q : Nat, s.heap.size ≤ q → (fun q => s.heap.size ≤ q) q := fun _ h => h
  have hbA : ¬ (fun q => s.heap.size ≤ q) b := Nat.not_le.mpr hbl
  refine lv_aload_n hx hb dL_law_324 rfl (lv_at hl 2 rfl) ?_
  refine lv_aload_n hx hb dL_law_325 rfl (lv_at hl 3 rfl) ?_
  refine lv_iload_n hx hb dL_law_326 rfl (lv_at hl 0 rfl) ?_
  refine lv_iconst (v := 1) hx hb dL_law_327 (by decide) ?_
  refine wk_iadd (x := i) (y := 1) hx hb dL_law_328 ?_
  refine wk_sld (i := i + 1) hx hb hX hbl hbA hS (by omega) (by omega) dL_law_329 ?_
  refine wk_read (va_runV (As := [.int (xs (i + 1))]) (rest := []) ⟨hx, hb, hml, hown, hts⟩ (c_X7_now l G a c hR.R (xs (i + 1))) (cwV 1 hts gL_law_X7_now rfl rfl rfl hdV_X7_now ⟨Nat.le_of_ble_eq_true rfl, Nat.le_of_ble_eq_true rfl⟩) (PreW.pre (W0 := WR G a c) ⟨wr_left hP, hK, hN⟩ (ci := 7) (q0 := 0) rfl rfl) rfl rfl hl.1 rfl (lv_room (Nat.le_of_ble_eq_true rfl)) dL_law_330 ⟨Nat.le_of_ble_eq_true rfl, Nat.le_of_ble_eq_true rfl⟩) ?_
  refine W.eq (g2 := F0 m 333 ls [.int (xNow c (xs (i + 1)))]) rfl ?_
  refine lv_aload_n hx hb dL_law_333 rfl (lv_at hl 1 rfl) ?_
  refine lv_aload_n hx hb dL_law_334 rfl (lv_at hl 3 rfl) ?_
  refine lv_iload_n hx hb dL_law_335 rfl (lv_at hl 0 rfl) ?_
  refine lv_iconst (v := 1) hx hb dL_law_336 (by decide) ?_
  refine wk_iadd (x := i) (y := 1) hx hb dL_law_337 ?_
  refine wk_sld (i := i + 1) hx hb hX hbl hbA hS (by omega) (by omega) dL_law_338 ?_
  refine wk_callR (va_runV (As := [.int (xs (i + 1))]) (rest := [.int (xNow c (xs (i + 1)))]) ⟨hx, hb, hml, hown, hts⟩ (c_X8_now l G d M hR.J (xs (i + 1))  H.size) (cwV 1 hts gL_law_X8_now rfl rfl rfl hdV_X8_now ⟨Nat.le_of_ble_eq_true rfl, Nat.le_of_ble_eq_true rfl⟩) ((PreM.mk (va_P_right hP) hK hN (va_D_right hD)).pre (ci := 8) (q0 := 0) rfl (WM_0 G d M)) rfl rfl hl.1 rfl (lv_room (Nat.le_of_ble_eq_true rfl)) dL_law_339 ⟨Nat.le_of_ble_eq_true rfl, Nat.le_of_ble_eq_true rfl⟩) hP hD hS hA WM_fst (fun H locs hP hD hS => ?_)
  refine W.eq (g2 := F0 m 342 ls [.int ((yNow M (xs (i + 1)))), .int (xNow c (xs (i + 1)))]) rfl ?_
  refine lv_icmp_eq (tgt := 943) hx hb dL_law_342 (by decide) (fun _ => ?_) (fun h => absurd (e_now hR (xs (i + 1))) h)
  exact kk c M H locs hR hP hD hS
set_option maxHeartbeats 1000000 in
set_option maxRecDepth 100000 in
theorem law_puts {p : Program} {l : Launch} {e : Env} {s : State} {m : MethodId} {below : List Frame} {meth : Method} {cd : Code} {b L : Nat} {xs : Nat → Int32} {G : GG} {a d : Nat → Nat} {Q : State → Prop} {ls : Array Slot} {i : Nat} {c : CX} {M : JX} {H : Heap} {locs : List Loc} (C : LW p s m cd G b L xs) (hR : Rel c M) (hi : i + 4 ≤ L) (hl : lv_has ls 4 [(3, .int (nI i)), (2, .ref (d 0)), (1, .ref (a 0)), (0, .ref b)]) (hP : va_P G.1 vwCl (WL G a d c M) H) (hD : va_D (fun q => s.heap.size ≤ q) (WL G a d c M)) (hS : va_S (fun q => s.heap.size ≤ q) s.heap H locs) (kk : ∀ (c : CX) (M : JX) (H : Heap) (locs : List Loc), Rel c M → va_P G.1 vwCl (WL G a d c M) H → va_D (fun q => s.heap.size ≤ q) (WL G a d c M) → va_S (fun q => s.heap.size ≤ q) s.heap H locs → W p l e room_1 s m #[Value.ref b] below meth cd H locs 74 1158 Q (F0 m 943 ls [])) : W p l e room_1 s m #[Value.ref b] below meth cd H locs 74 1158 Q (F0 m 347 ls []) := by
  obtain ⟨hx, hb, hml, hown, hts, hX, hbl, hK, hN, hF, hL⟩ := C
  have hA : ∀ q : Nat, s.heap.size ≤ q → (fun q => s.heap.size ≤ q) q := fun _ h => h
  have hbA : ¬ (fun q => s.heap.size ≤ q) b := Nat.not_le.mpr hbl
  refine lv_aload_n hx hb dL_law_347 rfl (lv_at hl 2 rfl) ?_
  refine lv_aload_n hx hb dL_law_348 rfl (lv_at hl 3 rfl) ?_
  refine lv_iload_n hx hb dL_law_349 rfl (lv_at hl 0 rfl) ?_
  refine lv_iconst (v := 1) hx hb dL_law_350 (by decide) ?_
  refine wk_iadd (x := i) (y := 1) hx hb dL_law_351 ?_
  refine wk_sld (i := i + 1) hx hb hX hbl hbA hS (by omega) (by omega) dL_law_352 ?_
  refine wk_callL (va_runV (As := [.int (xs (i + 1))]) (rest := []) ⟨hx, hb, hml, hown, hts⟩ (c_X7_puts l G a c hR.R (xs (i + 1))  H.size) (cwV 1 hts gL_law_X7_puts rfl rfl rfl hdV_X7_puts ⟨Nat.le_of_ble_eq_true rfl, Nat.le_of_ble_eq_true rfl⟩) ((PreM.mk (va_P_left hP) hK hN (va_D_left hD)).pre (ci := 7) (q0 := 0) rfl (WX_0 G a c)) rfl rfl hl.1 rfl (lv_room (Nat.le_of_ble_eq_true rfl)) dL_law_353 ⟨Nat.le_of_ble_eq_true rfl, Nat.le_of_ble_eq_true rfl⟩) hP hD hS hA WX_fst (fun H locs hP hD hS => ?_)
  refine W.eq (g2 := F0 m 356 ls [.int ((xPuts c (xs (i + 1))).1)]) rfl ?_
  refine lv_aload_n hx hb dL_law_356 rfl (lv_at hl 1 rfl) ?_
  refine lv_aload_n hx hb dL_law_357 rfl (lv_at hl 3 rfl) ?_
  refine lv_iload_n hx hb dL_law_358 rfl (lv_at hl 0 rfl) ?_
  refine lv_iconst (v := 1) hx hb dL_law_359 (by decide) ?_
  refine wk_iadd (x := i) (y := 1) hx hb dL_law_360 ?_
  refine wk_sld (i := i + 1) hx hb hX hbl hbA hS (by omega) (by omega) dL_law_361 ?_
  refine wk_callR (va_runV (As := [.int (xs (i + 1))]) (rest := [.int ((xPuts c (xs (i + 1))).1)]) ⟨hx, hb, hml, hown, hts⟩ (c_X8_puts l G d M hR.J (xs (i + 1))  H.size) (cwV 1 hts gL_law_X8_puts rfl rfl rfl hdV_X8_puts ⟨Nat.le_of_ble_eq_true rfl, Nat.le_of_ble_eq_true rfl⟩) ((PreM.mk (va_P_right hP) hK hN (va_D_right hD)).pre (ci := 8) (q0 := 0) rfl (WM_0 G d M)) rfl rfl hl.1 rfl (lv_room (Nat.le_of_ble_eq_true rfl)) dL_law_362 ⟨Nat.le_of_ble_eq_true rfl, Nat.le_of_ble_eq_true rfl⟩) hP hD hS hA WM_fst (fun H locs hP hD hS => ?_)
  refine W.eq (g2 := F0 m 365 ls [.int ((yPuts M (xs (i + 1))).1), .int ((xPuts c (xs (i + 1))).1)]) rfl ?_
  have h9 := e_puts hR (xs (i + 1))
  refine lv_icmp_eq (tgt := 943) hx hb dL_law_365 (by decide) (fun _ => ?_) (fun h => absurd h9.1 h)
  exact kk _ _ H locs h9.2 hP hD hS
set_option maxHeartbeats 1000000 in
set_option maxRecDepth 100000 in
theorem law_hands {p : Program} {l : Launch} {e : Env} {s : State} {m : MethodId} {below : List Frame} {meth : Method} {cd : Code} {b L : Nat} {xs : Nat → Int32} {G : GG} {a d : Nat → Nat} {Q : State → Prop} {ls : Array Slot} {i : Nat} {c : CX} {M : JX} {H : Heap} {locs : List Loc} (C : LW p s m cd G b L xs) (hR : Rel c M) (hi : i + 4 ≤ L) (hl : lv_has ls 4 [(3, .int (nI i)), (2, .ref (d 0)), (1, .ref (a 0)), (0, .ref b)]) (hP : va_P G.1 vwCl (WL G a d c M) H) (hD : va_D (fun q => s.heap.size ≤ q) (WL G a d c M)) (hS : va_S (fun q => s.heap.size ≤ q) s.heap H locs) (kk : ∀ (c : CX) (M : JX) (H : Heap) (locs : List Loc), Rel c M → va_P G.1 vwCl (WL G a d c M) H → va_D (fun q => s.heap.size ≤ q) (WL G a d c M) → va_S (fun q => s.heap.size ≤ q) s.heap H locs → W p l e room_1 s m #[Value.ref b] below meth cd H locs 74 1158 Q (F0 m 943 ls [])) : W p l e room_1 s m #[Value.ref b] below meth cd H locs 74 1158 Q (F0 m 370 ls []) := by
  obtain ⟨hx, hb, hml, hown, hts, hX, hbl, hK, hN, hF, hL⟩ := C
  have hA : ∀ q : Nat, s.heap.size ≤ q → (fun q => s.heap.size ≤ q) q := fun _ h => h
  have hbA : ¬ (fun q => s.heap.size ≤ q) b := Nat.not_le.mpr hbl
  refine lv_aload_n hx hb dL_law_370 rfl (lv_at hl 2 rfl) ?_
  refine lv_aload_n hx hb dL_law_371 rfl (lv_at hl 3 rfl) ?_
  refine lv_iload_n hx hb dL_law_372 rfl (lv_at hl 0 rfl) ?_
  refine lv_iconst (v := 1) hx hb dL_law_373 (by decide) ?_
  refine wk_iadd (x := i) (y := 1) hx hb dL_law_374 ?_
  refine wk_sld (i := i + 1) hx hb hX hbl hbA hS (by omega) (by omega) dL_law_375 ?_
  refine lv_aload_n hx hb dL_law_376 rfl (lv_at hl 3 rfl) ?_
  refine lv_iload_n hx hb dL_law_377 rfl (lv_at hl 0 rfl) ?_
  refine lv_iconst (v := 2) hx hb dL_law_378 (by decide) ?_
  refine wk_iadd (x := i) (y := 2) hx hb dL_law_379 ?_
  refine wk_sld (i := i + 2) hx hb hX hbl hbA hS (by omega) (by omega) dL_law_380 ?_
  refine wk_callL (va_runV (As := [.int (xs (i + 1)), .int (xs (i + 2))]) (rest := []) ⟨hx, hb, hml, hown, hts⟩ (c_X7_hands l G a c hR.R (xs (i + 1)) (xs (i + 2))  H.size) (cwV 2 hts gL_law_X7_hands rfl rfl rfl hdV_X7_hands ⟨Nat.le_of_ble_eq_true rfl, Nat.le_of_ble_eq_true rfl⟩) ((PreM.mk (va_P_left hP) hK hN (va_D_left hD)).pre (ci := 7) (q0 := 0) rfl (WX_0 G a c)) rfl rfl hl.1 rfl (lv_room (Nat.le_of_ble_eq_true rfl)) dL_law_381 ⟨Nat.le_of_ble_eq_true rfl, Nat.le_of_ble_eq_true rfl⟩) hP hD hS hA WX_fst (fun H locs hP hD hS => ?_)
  refine W.eq (g2 := F0 m 384 ls [.int ((xHands c (xs (i + 1)) (xs (i + 2))).1)]) rfl ?_
  refine lv_aload_n hx hb dL_law_384 rfl (lv_at hl 1 rfl) ?_
  refine lv_aload_n hx hb dL_law_385 rfl (lv_at hl 3 rfl) ?_
  refine lv_iload_n hx hb dL_law_386 rfl (lv_at hl 0 rfl) ?_
  refine lv_iconst (v := 1) hx hb dL_law_387 (by decide) ?_
  refine wk_iadd (x := i) (y := 1) hx hb dL_law_388 ?_
  refine wk_sld (i := i + 1) hx hb hX hbl hbA hS (by omega) (by omega) dL_law_389 ?_
  refine lv_aload_n hx hb dL_law_390 rfl (lv_at hl 3 rfl) ?_
  refine lv_iload_n hx hb dL_law_391 rfl (lv_at hl 0 rfl) ?_
  refine lv_iconst (v := 2) hx hb dL_law_392 (by decide) ?_
  refine wk_iadd (x := i) (y := 2) hx hb dL_law_393 ?_
  refine wk_sld (i := i + 2) hx hb hX hbl hbA hS (by omega) (by omega) dL_law_394 ?_
  refine wk_callR (va_runV (As := [.int (xs (i + 1)), .int (xs (i + 2))]) (rest := [.int ((xHands c (xs (i + 1)) (xs (i + 2))).1)]) ⟨hx, hb, hml, hown, hts⟩ (c_X8_hands l G d M hR.J (xs (i + 1)) (xs (i + 2))  H.size) (cwV 2 hts gL_law_X8_hands rfl rfl rfl hdV_X8_hands ⟨Nat.le_of_ble_eq_true rfl, Nat.le_of_ble_eq_true rfl⟩) ((PreM.mk (va_P_right hP) hK hN (va_D_right hD)).pre (ci := 8) (q0 := 0) rfl (WM_0 G d M)) rfl rfl hl.1 rfl (lv_room (Nat.le_of_ble_eq_true rfl)) dL_law_395 ⟨Nat.le_of_ble_eq_true rfl, Nat.le_of_ble_eq_true rfl⟩) hP hD hS hA WM_fst (fun H locs hP hD hS => ?_)
  refine W.eq (g2 := F0 m 398 ls [.int ((yHands M (xs (i + 1)) (xs (i + 2))).1), .int ((xHands c (xs (i + 1)) (xs (i + 2))).1)]) rfl ?_
  have h9 := e_hands hR (xs (i + 1)) (xs (i + 2))
  refine lv_icmp_eq (tgt := 943) hx hb dL_law_398 (by decide) (fun _ => ?_) (fun h => absurd h9.1 h)
  exact kk _ _ H locs h9.2 hP hD hS
set_option maxHeartbeats 1000000 in
set_option maxRecDepth 100000 in
theorem law_washes {p : Program} {l : Launch} {e : Env} {s : State} {m : MethodId} {below : List Frame} {meth : Method} {cd : Code} {b L : Nat} {xs : Nat → Int32} {G : GG} {a d : Nat → Nat} {Q : State → Prop} {ls : Array Slot} {i : Nat} {c : CX} {M : JX} {H : Heap} {locs : List Loc} (C : LW p s m cd G b L xs) (hR : Rel c M) (hi : i + 4 ≤ L) (hl : lv_has ls 4 [(3, .int (nI i)), (2, .ref (d 0)), (1, .ref (a 0)), (0, .ref b)]) (hP : va_P G.1 vwCl (WL G a d c M) H) (hD : va_D (fun q => s.heap.size ≤ q) (WL G a d c M)) (hS : va_S (fun q => s.heap.size ≤ q) s.heap H locs) (kk : ∀ (c : CX) (M : JX) (H : Heap) (locs : List Loc), Rel c M → va_P G.1 vwCl (WL G a d c M) H → va_D (fun q => s.heap.size ≤ q) (WL G a d c M) → va_S (fun q => s.heap.size ≤ q) s.heap H locs → W p l e room_1 s m #[Value.ref b] below meth cd H locs 74 1158 Q (F0 m 943 ls [])) : W p l e room_1 s m #[Value.ref b] below meth cd H locs 74 1158 Q (F0 m 403 ls []) := by
  obtain ⟨hx, hb, hml, hown, hts, hX, hbl, hK, hN, hF, hL⟩ := C
  have hA : ∀ q : Nat, s.heap.size ≤ q → (fun q => s.heap.size ≤ q) q := fun _ h => h
  have hbA : ¬ (fun q => s.heap.size ≤ q) b := Nat.not_le.mpr hbl
  refine lv_aload_n hx hb dL_law_403 rfl (lv_at hl 2 rfl) ?_
  refine lv_aload_n hx hb dL_law_404 rfl (lv_at hl 3 rfl) ?_
  refine lv_iload_n hx hb dL_law_405 rfl (lv_at hl 0 rfl) ?_
  refine lv_iconst (v := 1) hx hb dL_law_406 (by decide) ?_
  refine wk_iadd (x := i) (y := 1) hx hb dL_law_407 ?_
  refine wk_sld (i := i + 1) hx hb hX hbl hbA hS (by omega) (by omega) dL_law_408 ?_
  refine wk_callL (va_runV (As := [.int (xs (i + 1))]) (rest := []) ⟨hx, hb, hml, hown, hts⟩ (c_X7_washes l G a c hR.R (xs (i + 1))  H.size) (cwV 1 hts gL_law_X7_washes rfl rfl rfl hdV_X7_washes ⟨Nat.le_of_ble_eq_true rfl, Nat.le_of_ble_eq_true rfl⟩) ((PreM.mk (va_P_left hP) hK hN (va_D_left hD)).pre (ci := 7) (q0 := 0) rfl (WX_0 G a c)) rfl rfl hl.1 rfl (lv_room (Nat.le_of_ble_eq_true rfl)) dL_law_409 ⟨Nat.le_of_ble_eq_true rfl, Nat.le_of_ble_eq_true rfl⟩) hP hD hS hA WX_fst (fun H locs hP hD hS => ?_)
  refine W.eq (g2 := F0 m 412 ls [.int ((xWashes c (xs (i + 1))).1)]) rfl ?_
  refine lv_aload_n hx hb dL_law_412 rfl (lv_at hl 1 rfl) ?_
  refine lv_aload_n hx hb dL_law_413 rfl (lv_at hl 3 rfl) ?_
  refine lv_iload_n hx hb dL_law_414 rfl (lv_at hl 0 rfl) ?_
  refine lv_iconst (v := 1) hx hb dL_law_415 (by decide) ?_
  refine wk_iadd (x := i) (y := 1) hx hb dL_law_416 ?_
  refine wk_sld (i := i + 1) hx hb hX hbl hbA hS (by omega) (by omega) dL_law_417 ?_
  refine wk_callR (va_runV (As := [.int (xs (i + 1))]) (rest := [.int ((xWashes c (xs (i + 1))).1)]) ⟨hx, hb, hml, hown, hts⟩ (c_X8_washes l G d M hR.J (xs (i + 1))  H.size) (cwV 1 hts gL_law_X8_washes rfl rfl rfl hdV_X8_washes ⟨Nat.le_of_ble_eq_true rfl, Nat.le_of_ble_eq_true rfl⟩) ((PreM.mk (va_P_right hP) hK hN (va_D_right hD)).pre (ci := 8) (q0 := 0) rfl (WM_0 G d M)) rfl rfl hl.1 rfl (lv_room (Nat.le_of_ble_eq_true rfl)) dL_law_418 ⟨Nat.le_of_ble_eq_true rfl, Nat.le_of_ble_eq_true rfl⟩) hP hD hS hA WM_fst (fun H locs hP hD hS => ?_)
  refine W.eq (g2 := F0 m 421 ls [.int ((yWashes M (xs (i + 1))).1), .int ((xWashes c (xs (i + 1))).1)]) rfl ?_
  have h9 := e_washes hR (xs (i + 1))
  refine lv_icmp_eq (tgt := 943) hx hb dL_law_421 (by decide) (fun _ => ?_) (fun h => absurd h9.1 h)
  exact kk _ _ H locs h9.2 hP hD hS
set_option maxHeartbeats 1000000 in
set_option maxRecDepth 100000 in
theorem law_hangs {p : Program} {l : Launch} {e : Env} {s : State} {m : MethodId} {below : List Frame} {meth : Method} {cd : Code} {b L : Nat} {xs : Nat → Int32} {G : GG} {a d : Nat → Nat} {Q : State → Prop} {ls : Array Slot} {i : Nat} {c : CX} {M : JX} {H : Heap} {locs : List Loc} (C : LW p s m cd G b L xs) (hR : Rel c M) (hi : i + 4 ≤ L) (hl : lv_has ls 4 [(3, .int (nI i)), (2, .ref (d 0)), (1, .ref (a 0)), (0, .ref b)]) (hP : va_P G.1 vwCl (WL G a d c M) H) (hD : va_D (fun q => s.heap.size ≤ q) (WL G a d c M)) (hS : va_S (fun q => s.heap.size ≤ q) s.heap H locs) (kk : ∀ (c : CX) (M : JX) (H : Heap) (locs : List Loc), Rel c M → va_P G.1 vwCl (WL G a d c M) H → va_D (fun q => s.heap.size ≤ q) (WL G a d c M) → va_S (fun q => s.heap.size ≤ q) s.heap H locs → W p l e room_1 s m #[Value.ref b] below meth cd H locs 74 1158 Q (F0 m 943 ls [])) : W p l e room_1 s m #[Value.ref b] below meth cd H locs 74 1158 Q (F0 m 426 ls []) := by
  obtain ⟨hx, hb, hml, hown, hts, hX, hbl, hK, hN, hF, hL⟩ := C
  have hA : ∀ q : Nat, s.heap.size ≤ q → (fun q => s.heap.size ≤ q) q := fun _ h => h
  have hbA : ¬ (fun q => s.heap.size ≤ q) b := Nat.not_le.mpr hbl
  refine lv_aload_n hx hb dL_law_426 rfl (lv_at hl 2 rfl) ?_
  refine lv_aload_n hx hb dL_law_427 rfl (lv_at hl 3 rfl) ?_
  refine lv_iload_n hx hb dL_law_428 rfl (lv_at hl 0 rfl) ?_
  refine lv_iconst (v := 1) hx hb dL_law_429 (by decide) ?_
  refine wk_iadd (x := i) (y := 1) hx hb dL_law_430 ?_
  refine wk_sld (i := i + 1) hx hb hX hbl hbA hS (by omega) (by omega) dL_law_431 ?_
  refine wk_callL (va_runV (As := [.int (xs (i + 1))]) (rest := []) ⟨hx, hb, hml, hown, hts⟩ (c_X7_hangs l G a c hR.R (xs (i + 1))  H.size) (cwV 1 hts gL_law_X7_hangs rfl rfl rfl hdV_X7_hangs ⟨Nat.le_of_ble_eq_true rfl, Nat.le_of_ble_eq_true rfl⟩) ((PreM.mk (va_P_left hP) hK hN (va_D_left hD)).pre (ci := 7) (q0 := 0) rfl (WX_0 G a c)) rfl rfl hl.1 rfl (lv_room (Nat.le_of_ble_eq_true rfl)) dL_law_432 ⟨Nat.le_of_ble_eq_true rfl, Nat.le_of_ble_eq_true rfl⟩) hP hD hS hA WX_fst (fun H locs hP hD hS => ?_)
  refine W.eq (g2 := F0 m 435 ls [.int ((xHangs c (xs (i + 1))).1)]) rfl ?_
  refine lv_aload_n hx hb dL_law_435 rfl (lv_at hl 1 rfl) ?_
  refine lv_aload_n hx hb dL_law_436 rfl (lv_at hl 3 rfl) ?_
  refine lv_iload_n hx hb dL_law_437 rfl (lv_at hl 0 rfl) ?_
  refine lv_iconst (v := 1) hx hb dL_law_438 (by decide) ?_
  refine wk_iadd (x := i) (y := 1) hx hb dL_law_439 ?_
  refine wk_sld (i := i + 1) hx hb hX hbl hbA hS (by omega) (by omega) dL_law_440 ?_
  refine wk_callR (va_runV (As := [.int (xs (i + 1))]) (rest := [.int ((xHangs c (xs (i + 1))).1)]) ⟨hx, hb, hml, hown, hts⟩ (c_X8_hangs l G d M hR.J (xs (i + 1))  H.size) (cwV 1 hts gL_law_X8_hangs rfl rfl rfl hdV_X8_hangs ⟨Nat.le_of_ble_eq_true rfl, Nat.le_of_ble_eq_true rfl⟩) ((PreM.mk (va_P_right hP) hK hN (va_D_right hD)).pre (ci := 8) (q0 := 0) rfl (WM_0 G d M)) rfl rfl hl.1 rfl (lv_room (Nat.le_of_ble_eq_true rfl)) dL_law_441 ⟨Nat.le_of_ble_eq_true rfl, Nat.le_of_ble_eq_true rfl⟩) hP hD hS hA WM_fst (fun H locs hP hD hS => ?_)
  refine W.eq (g2 := F0 m 444 ls [.int ((yHangs M (xs (i + 1))).1), .int ((xHangs c (xs (i + 1))).1)]) rfl ?_
  have h9 := e_hangs hR (xs (i + 1))
  refine lv_icmp_eq (tgt := 943) hx hb dL_law_444 (by decide) (fun _ => ?_) (fun h => absurd h9.1 h)
  exact kk _ _ H locs h9.2 hP hD hS
set_option maxHeartbeats 1000000 in
set_option maxRecDepth 100000 in
theorem law_warms {p : Program} {l : Launch} {e : Env} {s : State} {m : MethodId} {below : List Frame} {meth : Method} {cd : Code} {b L : Nat} {xs : Nat → Int32} {G : GG} {a d : Nat → Nat} {Q : State → Prop} {ls : Array Slot} {i : Nat} {c : CX} {M : JX} {H : Heap} {locs : List Loc} (C : LW p s m cd G b L xs) (hR : Rel c M) (hi : i + 4 ≤ L) (hl : lv_has ls 4 [(3, .int (nI i)), (2, .ref (d 0)), (1, .ref (a 0)), (0, .ref b)]) (hP : va_P G.1 vwCl (WL G a d c M) H) (hD : va_D (fun q => s.heap.size ≤ q) (WL G a d c M)) (hS : va_S (fun q => s.heap.size ≤ q) s.heap H locs) (kk : ∀ (c : CX) (M : JX) (H : Heap) (locs : List Loc), Rel c M → va_P G.1 vwCl (WL G a d c M) H → va_D (fun q => s.heap.size ≤ q) (WL G a d c M) → va_S (fun q => s.heap.size ≤ q) s.heap H locs → W p l e room_1 s m #[Value.ref b] below meth cd H locs 74 1158 Q (F0 m 943 ls [])) : W p l e room_1 s m #[Value.ref b] below meth cd H locs 74 1158 Q (F0 m 449 ls []) := by
  obtain ⟨hx, hb, hml, hown, hts, hX, hbl, hK, hN, hF, hL⟩ := C
  have hA : ∀ q : Nat, s.heap.size ≤ q → (fun q => s.heap.size ≤ q) q := fun _ h => h
  have hbA : ¬ (fun q => s.heap.size ≤ q) b := Nat.not_le.mpr hbl
  refine lv_aload_n hx hb dL_law_449 rfl (lv_at hl 2 rfl) ?_
  refine lv_aload_n hx hb dL_law_450 rfl (lv_at hl 3 rfl) ?_
  refine lv_iload_n hx hb dL_law_451 rfl (lv_at hl 0 rfl) ?_
  refine lv_iconst (v := 1) hx hb dL_law_452 (by decide) ?_
  refine wk_iadd (x := i) (y := 1) hx hb dL_law_453 ?_
  refine wk_sld (i := i + 1) hx hb hX hbl hbA hS (by omega) (by omega) dL_law_454 ?_
  refine wk_callL (va_runV (As := [.int (xs (i + 1))]) (rest := []) ⟨hx, hb, hml, hown, hts⟩ (c_X7_warms l G a c hR.R (xs (i + 1))  H.size) (cwV 1 hts gL_law_X7_warms rfl rfl rfl hdV_X7_warms ⟨Nat.le_of_ble_eq_true rfl, Nat.le_of_ble_eq_true rfl⟩) ((PreM.mk (va_P_left hP) hK hN (va_D_left hD)).pre (ci := 7) (q0 := 0) rfl (WX_0 G a c)) rfl rfl hl.1 rfl (lv_room (Nat.le_of_ble_eq_true rfl)) dL_law_455 ⟨Nat.le_of_ble_eq_true rfl, Nat.le_of_ble_eq_true rfl⟩) hP hD hS hA WX_fst (fun H locs hP hD hS => ?_)
  refine W.eq (g2 := F0 m 458 ls [.int ((xWarms c (xs (i + 1))).1)]) rfl ?_
  refine lv_aload_n hx hb dL_law_458 rfl (lv_at hl 1 rfl) ?_
  refine lv_aload_n hx hb dL_law_459 rfl (lv_at hl 3 rfl) ?_
  refine lv_iload_n hx hb dL_law_460 rfl (lv_at hl 0 rfl) ?_
  refine lv_iconst (v := 1) hx hb dL_law_461 (by decide) ?_
  refine wk_iadd (x := i) (y := 1) hx hb dL_law_462 ?_
  refine wk_sld (i := i + 1) hx hb hX hbl hbA hS (by omega) (by omega) dL_law_463 ?_
  refine wk_callR (va_runV (As := [.int (xs (i + 1))]) (rest := [.int ((xWarms c (xs (i + 1))).1)]) ⟨hx, hb, hml, hown, hts⟩ (c_X8_warms l G d M hR.J (xs (i + 1))  H.size) (cwV 1 hts gL_law_X8_warms rfl rfl rfl hdV_X8_warms ⟨Nat.le_of_ble_eq_true rfl, Nat.le_of_ble_eq_true rfl⟩) ((PreM.mk (va_P_right hP) hK hN (va_D_right hD)).pre (ci := 8) (q0 := 0) rfl (WM_0 G d M)) rfl rfl hl.1 rfl (lv_room (Nat.le_of_ble_eq_true rfl)) dL_law_464 ⟨Nat.le_of_ble_eq_true rfl, Nat.le_of_ble_eq_true rfl⟩) hP hD hS hA WM_fst (fun H locs hP hD hS => ?_)
  refine W.eq (g2 := F0 m 467 ls [.int ((yWarms M (xs (i + 1))).1), .int ((xWarms c (xs (i + 1))).1)]) rfl ?_
  have h9 := e_warms hR (xs (i + 1))
  refine lv_icmp_eq (tgt := 943) hx hb dL_law_467 (by decide) (fun _ => ?_) (fun h => absurd h9.1 h)
  exact kk _ _ H locs h9.2 hP hD hS
set_option maxHeartbeats 1000000 in
set_option maxRecDepth 100000 in
theorem law_sickens {p : Program} {l : Launch} {e : Env} {s : State} {m : MethodId} {below : List Frame} {meth : Method} {cd : Code} {b L : Nat} {xs : Nat → Int32} {G : GG} {a d : Nat → Nat} {Q : State → Prop} {ls : Array Slot} {i : Nat} {c : CX} {M : JX} {H : Heap} {locs : List Loc} (C : LW p s m cd G b L xs) (hR : Rel c M) (hi : i + 4 ≤ L) (hl : lv_has ls 4 [(3, .int (nI i)), (2, .ref (d 0)), (1, .ref (a 0)), (0, .ref b)]) (hP : va_P G.1 vwCl (WL G a d c M) H) (hD : va_D (fun q => s.heap.size ≤ q) (WL G a d c M)) (hS : va_S (fun q => s.heap.size ≤ q) s.heap H locs) (kk : ∀ (c : CX) (M : JX) (H : Heap) (locs : List Loc), Rel c M → va_P G.1 vwCl (WL G a d c M) H → va_D (fun q => s.heap.size ≤ q) (WL G a d c M) → va_S (fun q => s.heap.size ≤ q) s.heap H locs → W p l e room_1 s m #[Value.ref b] below meth cd H locs 74 1158 Q (F0 m 943 ls [])) : W p l e room_1 s m #[Value.ref b] below meth cd H locs 74 1158 Q (F0 m 472 ls []) := by
  obtain ⟨hx, hb, hml, hown, hts, hX, hbl, hK, hN, hF, hL⟩ := C
  have hA : ∀ q : Nat, s.heap.size ≤ q → (fun q => s.heap.size ≤ q) q := fun _ h => h
  have hbA : ¬ (fun q => s.heap.size ≤ q) b := Nat.not_le.mpr hbl
  refine lv_aload_n hx hb dL_law_472 rfl (lv_at hl 2 rfl) ?_
  refine lv_aload_n hx hb dL_law_473 rfl (lv_at hl 3 rfl) ?_
  refine lv_iload_n hx hb dL_law_474 rfl (lv_at hl 0 rfl) ?_
  refine lv_iconst (v := 1) hx hb dL_law_475 (by decide) ?_
  refine wk_iadd (x := i) (y := 1) hx hb dL_law_476 ?_
  refine wk_sld (i := i + 1) hx hb hX hbl hbA hS (by omega) (by omega) dL_law_477 ?_
  refine lv_aload_n hx hb dL_law_478 rfl (lv_at hl 3 rfl) ?_
  refine lv_iload_n hx hb dL_law_479 rfl (lv_at hl 0 rfl) ?_
  refine lv_iconst (v := 2) hx hb dL_law_480 (by decide) ?_
  refine wk_iadd (x := i) (y := 2) hx hb dL_law_481 ?_
  refine wk_sld (i := i + 2) hx hb hX hbl hbA hS (by omega) (by omega) dL_law_482 ?_
  refine wk_callL (va_runV (As := [.int (xs (i + 1)), .int (xs (i + 2))]) (rest := []) ⟨hx, hb, hml, hown, hts⟩ (c_X7_sickens l G a c hR.R (xs (i + 1)) (xs (i + 2))  H.size) (cwV 2 hts gL_law_X7_sickens rfl rfl rfl hdV_X7_sickens ⟨Nat.le_of_ble_eq_true rfl, Nat.le_of_ble_eq_true rfl⟩) ((PreM.mk (va_P_left hP) hK hN (va_D_left hD)).pre (ci := 7) (q0 := 0) rfl (WX_0 G a c)) rfl rfl hl.1 rfl (lv_room (Nat.le_of_ble_eq_true rfl)) dL_law_483 ⟨Nat.le_of_ble_eq_true rfl, Nat.le_of_ble_eq_true rfl⟩) hP hD hS hA WX_fst (fun H locs hP hD hS => ?_)
  refine W.eq (g2 := F0 m 486 ls [.int ((xSickens c (xs (i + 1)) (xs (i + 2))).1)]) rfl ?_
  refine lv_aload_n hx hb dL_law_486 rfl (lv_at hl 1 rfl) ?_
  refine lv_aload_n hx hb dL_law_487 rfl (lv_at hl 3 rfl) ?_
  refine lv_iload_n hx hb dL_law_488 rfl (lv_at hl 0 rfl) ?_
  refine lv_iconst (v := 1) hx hb dL_law_489 (by decide) ?_
  refine wk_iadd (x := i) (y := 1) hx hb dL_law_490 ?_
  refine wk_sld (i := i + 1) hx hb hX hbl hbA hS (by omega) (by omega) dL_law_491 ?_
  refine lv_aload_n hx hb dL_law_492 rfl (lv_at hl 3 rfl) ?_
  refine lv_iload_n hx hb dL_law_493 rfl (lv_at hl 0 rfl) ?_
  refine lv_iconst (v := 2) hx hb dL_law_494 (by decide) ?_
  refine wk_iadd (x := i) (y := 2) hx hb dL_law_495 ?_
  refine wk_sld (i := i + 2) hx hb hX hbl hbA hS (by omega) (by omega) dL_law_496 ?_
  refine wk_callR (va_runV (As := [.int (xs (i + 1)), .int (xs (i + 2))]) (rest := [.int ((xSickens c (xs (i + 1)) (xs (i + 2))).1)]) ⟨hx, hb, hml, hown, hts⟩ (c_X8_sickens l G d M hR.J (xs (i + 1)) (xs (i + 2))  H.size) (cwV 2 hts gL_law_X8_sickens rfl rfl rfl hdV_X8_sickens ⟨Nat.le_of_ble_eq_true rfl, Nat.le_of_ble_eq_true rfl⟩) ((PreM.mk (va_P_right hP) hK hN (va_D_right hD)).pre (ci := 8) (q0 := 0) rfl (WM_0 G d M)) rfl rfl hl.1 rfl (lv_room (Nat.le_of_ble_eq_true rfl)) dL_law_497 ⟨Nat.le_of_ble_eq_true rfl, Nat.le_of_ble_eq_true rfl⟩) hP hD hS hA WM_fst (fun H locs hP hD hS => ?_)
  refine W.eq (g2 := F0 m 500 ls [.int ((ySickens M (xs (i + 1)) (xs (i + 2))).1), .int ((xSickens c (xs (i + 1)) (xs (i + 2))).1)]) rfl ?_
  have h9 := e_sickens hR (xs (i + 1)) (xs (i + 2))
  refine lv_icmp_eq (tgt := 943) hx hb dL_law_500 (by decide) (fun _ => ?_) (fun h => absurd h9.1 h)
  exact kk _ _ H locs h9.2 hP hD hS
set_option maxHeartbeats 1000000 in
set_option maxRecDepth 100000 in
theorem law_undo {p : Program} {l : Launch} {e : Env} {s : State} {m : MethodId} {below : List Frame} {meth : Method} {cd : Code} {b L : Nat} {xs : Nat → Int32} {G : GG} {a d : Nat → Nat} {Q : State → Prop} {ls : Array Slot} {i : Nat} {c : CX} {M : JX} {H : Heap} {locs : List Loc} (C : LW p s m cd G b L xs) (hR : Rel c M) (hi : i + 4 ≤ L) (hl : lv_has ls 4 [(3, .int (nI i)), (2, .ref (d 0)), (1, .ref (a 0)), (0, .ref b)]) (hP : va_P G.1 vwCl (WL G a d c M) H) (hD : va_D (fun q => s.heap.size ≤ q) (WL G a d c M)) (hS : va_S (fun q => s.heap.size ≤ q) s.heap H locs) (kk : ∀ (c : CX) (M : JX) (H : Heap) (locs : List Loc), Rel c M → va_P G.1 vwCl (WL G a d c M) H → va_D (fun q => s.heap.size ≤ q) (WL G a d c M) → va_S (fun q => s.heap.size ≤ q) s.heap H locs → W p l e room_1 s m #[Value.ref b] below meth cd H locs 74 1158 Q (F0 m 943 ls [])) : W p l e room_1 s m #[Value.ref b] below meth cd H locs 74 1158 Q (F0 m 505 ls []) := by
  obtain ⟨hx, hb, hml, hown, hts, hX, hbl, hK, hN, hF, hL⟩ := C
  have hA : ∀ q : Nat, s.heap.size ≤ q → (fun q => s.heap.size ≤ q) q := fun _ h => h
  have hbA : ¬ (fun q => s.heap.size ≤ q) b := Nat.not_le.mpr hbl
  refine lv_aload_n hx hb dL_law_505 rfl (lv_at hl 2 rfl) ?_
  refine wk_callL (va_runV (As := []) (rest := []) ⟨hx, hb, hml, hown, hts⟩ (c_X7_undo l G a c hR.R   H.size) (cwV 0 hts gL_law_X7_undo rfl rfl rfl hdV_X7_undo ⟨Nat.le_of_ble_eq_true rfl, Nat.le_of_ble_eq_true rfl⟩) ((PreM.mk (va_P_left hP) hK hN (va_D_left hD)).pre (ci := 7) (q0 := 0) rfl (WX_0 G a c)) rfl rfl hl.1 rfl (lv_room (Nat.le_of_ble_eq_true rfl)) dL_law_506 ⟨Nat.le_of_ble_eq_true rfl, Nat.le_of_ble_eq_true rfl⟩) hP hD hS hA WX_fst (fun H locs hP hD hS => ?_)
  refine W.eq (g2 := F0 m 509 ls [.int ((xUndo c).1)]) rfl ?_
  refine lv_aload_n hx hb dL_law_509 rfl (lv_at hl 1 rfl) ?_
  refine wk_callR (va_runV (As := []) (rest := [.int ((xUndo c).1)]) ⟨hx, hb, hml, hown, hts⟩ (c_X8_undo l G d M hR.J   H.size) (cwV 0 hts gL_law_X8_undo rfl rfl rfl hdV_X8_undo ⟨Nat.le_of_ble_eq_true rfl, Nat.le_of_ble_eq_true rfl⟩) ((PreM.mk (va_P_right hP) hK hN (va_D_right hD)).pre (ci := 8) (q0 := 0) rfl (WM_0 G d M)) rfl rfl hl.1 rfl (lv_room (Nat.le_of_ble_eq_true rfl)) dL_law_510 ⟨Nat.le_of_ble_eq_true rfl, Nat.le_of_ble_eq_true rfl⟩) hP hD hS hA WM_fst (fun H locs hP hD hS => ?_)
  refine W.eq (g2 := F0 m 513 ls [.int ((yUndo M).1), .int ((xUndo c).1)]) rfl ?_
  have h9 := e_undo hR 
  refine lv_icmp_eq (tgt := 943) hx hb dL_law_513 (by decide) (fun _ => ?_) (fun h => absurd h9.1 h)
  exact kk _ _ H locs h9.2 hP hD hS
set_option maxHeartbeats 1000000 in
set_option maxRecDepth 100000 in
theorem law_power {p : Program} {l : Launch} {e : Env} {s : State} {m : MethodId} {below : List Frame} {meth : Method} {cd : Code} {b L : Nat} {xs : Nat → Int32} {G : GG} {a d : Nat → Nat} {Q : State → Prop} {ls : Array Slot} {i : Nat} {c : CX} {M : JX} {H : Heap} {locs : List Loc} (C : LW p s m cd G b L xs) (hR : Rel c M) (hi : i + 4 ≤ L) (hl : lv_has ls 4 [(3, .int (nI i)), (2, .ref (d 0)), (1, .ref (a 0)), (0, .ref b)]) (hP : va_P G.1 vwCl (WL G a d c M) H) (hD : va_D (fun q => s.heap.size ≤ q) (WL G a d c M)) (hS : va_S (fun q => s.heap.size ≤ q) s.heap H locs) (kk : ∀ (c : CX) (M : JX) (H : Heap) (locs : List Loc), Rel c M → va_P G.1 vwCl (WL G a d c M) H → va_D (fun q => s.heap.size ≤ q) (WL G a d c M) → va_S (fun q => s.heap.size ≤ q) s.heap H locs → W p l e room_1 s m #[Value.ref b] below meth cd H locs 74 1158 Q (F0 m 943 ls [])) : W p l e room_1 s m #[Value.ref b] below meth cd H locs 74 1158 Q (F0 m 518 ls []) := by
  obtain ⟨hx, hb, hml, hown, hts, hX, hbl, hK, hN, hF, hL⟩ := C
  have hA : ∀ q : Nat, s.heap.size ≤ q → (fun q => s.heap.size ≤ q) q := fun _ h => h
  have hbA : ¬ (fun q => s.heap.size ≤ q) b := Nat.not_le.mpr hbl
  refine lv_aload_n hx hb dL_law_518 rfl (lv_at hl 2 rfl) ?_
  refine lv_aload_n hx hb dL_law_519 rfl (lv_at hl 3 rfl) ?_
  refine lv_iload_n hx hb dL_law_520 rfl (lv_at hl 0 rfl) ?_
  refine lv_iconst (v := 1) hx hb dL_law_521 (by decide) ?_
  refine wk_iadd (x := i) (y := 1) hx hb dL_law_522 ?_
  refine wk_sld (i := i + 1) hx hb hX hbl hbA hS (by omega) (by omega) dL_law_523 ?_
  refine lv_aload_n hx hb dL_law_524 rfl (lv_at hl 3 rfl) ?_
  refine lv_iload_n hx hb dL_law_525 rfl (lv_at hl 0 rfl) ?_
  refine lv_iconst (v := 2) hx hb dL_law_526 (by decide) ?_
  refine wk_iadd (x := i) (y := 2) hx hb dL_law_527 ?_
  refine wk_sld (i := i + 2) hx hb hX hbl hbA hS (by omega) (by omega) dL_law_528 ?_
  refine wk_read (va_runV (As := [.int (xs (i + 1)), .int (xs (i + 2))]) (rest := []) ⟨hx, hb, hml, hown, hts⟩ (c_X7_power l G a c hR.R (xs (i + 1)) (xs (i + 2))) (cwV 2 hts gL_law_X7_power rfl rfl rfl hdV_X7_power ⟨Nat.le_of_ble_eq_true rfl, Nat.le_of_ble_eq_true rfl⟩) (PreF.pre (W0 := WR G a c) ⟨⟨wr_left hP, hK, hN⟩, hF.fr hS⟩ (ci := 7) (q0 := 0) rfl rfl) rfl rfl hl.1 rfl (lv_room (Nat.le_of_ble_eq_true rfl)) dL_law_529 ⟨Nat.le_of_ble_eq_true rfl, Nat.le_of_ble_eq_true rfl⟩) ?_
  refine W.eq (g2 := F0 m 532 ls [.int (xPower c (xs (i + 1)) (xs (i + 2)))]) rfl ?_
  refine lv_aload_n hx hb dL_law_532 rfl (lv_at hl 1 rfl) ?_
  refine lv_aload_n hx hb dL_law_533 rfl (lv_at hl 3 rfl) ?_
  refine lv_iload_n hx hb dL_law_534 rfl (lv_at hl 0 rfl) ?_
  refine lv_iconst (v := 1) hx hb dL_law_535 (by decide) ?_
  refine wk_iadd (x := i) (y := 1) hx hb dL_law_536 ?_
  refine wk_sld (i := i + 1) hx hb hX hbl hbA hS (by omega) (by omega) dL_law_537 ?_
  refine lv_aload_n hx hb dL_law_538 rfl (lv_at hl 3 rfl) ?_
  refine lv_iload_n hx hb dL_law_539 rfl (lv_at hl 0 rfl) ?_
  refine lv_iconst (v := 2) hx hb dL_law_540 (by decide) ?_
  refine wk_iadd (x := i) (y := 2) hx hb dL_law_541 ?_
  refine wk_sld (i := i + 2) hx hb hX hbl hbA hS (by omega) (by omega) dL_law_542 ?_
  refine wk_callR (va_runV (As := [.int (xs (i + 1)), .int (xs (i + 2))]) (rest := [.int (xPower c (xs (i + 1)) (xs (i + 2)))]) ⟨hx, hb, hml, hown, hts⟩ (c_X8_power l G d M hR.J (xs (i + 1)) (xs (i + 2))  H.size) (cwV 2 hts gL_law_X8_power rfl rfl rfl hdV_X8_power ⟨Nat.le_of_ble_eq_true rfl, Nat.le_of_ble_eq_true rfl⟩) ((PreM.mk (va_P_right hP) hK hN (va_D_right hD)).pre (ci := 8) (q0 := 0) rfl (WM_0 G d M)) rfl rfl hl.1 rfl (lv_room (Nat.le_of_ble_eq_true rfl)) dL_law_543 ⟨Nat.le_of_ble_eq_true rfl, Nat.le_of_ble_eq_true rfl⟩) hP hD hS hA WM_fst (fun H locs hP hD hS => ?_)
  refine W.eq (g2 := F0 m 546 ls [.int ((yPower M (xs (i + 1)) (xs (i + 2)))), .int (xPower c (xs (i + 1)) (xs (i + 2)))]) rfl ?_
  refine lv_icmp_eq (tgt := 943) hx hb dL_law_546 (by decide) (fun _ => ?_) (fun h => absurd (e_power hR (xs (i + 1)) (xs (i + 2))) h)
  exact kk c M H locs hR hP hD hS
set_option maxHeartbeats 1000000 in
set_option maxRecDepth 100000 in
theorem law_least {p : Program} {l : Launch} {e : Env} {s : State} {m : MethodId} {below : List Frame} {meth : Method} {cd : Code} {b L : Nat} {xs : Nat → Int32} {G : GG} {a d : Nat → Nat} {Q : State → Prop} {ls : Array Slot} {i : Nat} {c : CX} {M : JX} {H : Heap} {locs : List Loc} (C : LW p s m cd G b L xs) (hR : Rel c M) (hi : i + 4 ≤ L) (hl : lv_has ls 4 [(3, .int (nI i)), (2, .ref (d 0)), (1, .ref (a 0)), (0, .ref b)]) (hP : va_P G.1 vwCl (WL G a d c M) H) (hD : va_D (fun q => s.heap.size ≤ q) (WL G a d c M)) (hS : va_S (fun q => s.heap.size ≤ q) s.heap H locs) (kk : ∀ (c : CX) (M : JX) (H : Heap) (locs : List Loc), Rel c M → va_P G.1 vwCl (WL G a d c M) H → va_D (fun q => s.heap.size ≤ q) (WL G a d c M) → va_S (fun q => s.heap.size ≤ q) s.heap H locs → W p l e room_1 s m #[Value.ref b] below meth cd H locs 74 1158 Q (F0 m 943 ls [])) : W p l e room_1 s m #[Value.ref b] below meth cd H locs 74 1158 Q (F0 m 551 ls []) := by
  obtain ⟨hx, hb, hml, hown, hts, hX, hbl, hK, hN, hF, hL⟩ := C
  have hA : ∀ q : Nat, s.heap.size ≤ q → (fun q => s.heap.size ≤ q) q := fun _ h => h
  have hbA : ¬ (fun q => s.heap.size ≤ q) b := Nat.not_le.mpr hbl
  refine lv_aload_n hx hb dL_law_551 rfl (lv_at hl 2 rfl) ?_
  refine lv_aload_n hx hb dL_law_552 rfl (lv_at hl 3 rfl) ?_
  refine lv_iload_n hx hb dL_law_553 rfl (lv_at hl 0 rfl) ?_
  refine lv_iconst (v := 1) hx hb dL_law_554 (by decide) ?_
  refine wk_iadd (x := i) (y := 1) hx hb dL_law_555 ?_
  refine wk_sld (i := i + 1) hx hb hX hbl hbA hS (by omega) (by omega) dL_law_556 ?_
  refine wk_read (va_runV (As := [.int (xs (i + 1))]) (rest := []) ⟨hx, hb, hml, hown, hts⟩ (c_X7_least l G a c hR.R (xs (i + 1))) (cwV 1 hts gL_law_X7_least rfl rfl rfl hdV_X7_least ⟨Nat.le_of_ble_eq_true rfl, Nat.le_of_ble_eq_true rfl⟩) (PreW.pre (W0 := WR G a c) ⟨wr_left hP, hK, hN⟩ (ci := 7) (q0 := 0) rfl rfl) rfl rfl hl.1 rfl (lv_room (Nat.le_of_ble_eq_true rfl)) dL_law_557 ⟨Nat.le_of_ble_eq_true rfl, Nat.le_of_ble_eq_true rfl⟩) ?_
  refine W.eq (g2 := F0 m 560 ls [.int (xLeast c (xs (i + 1)))]) rfl ?_
  refine lv_aload_n hx hb dL_law_560 rfl (lv_at hl 1 rfl) ?_
  refine lv_aload_n hx hb dL_law_561 rfl (lv_at hl 3 rfl) ?_
  refine lv_iload_n hx hb dL_law_562 rfl (lv_at hl 0 rfl) ?_
  refine lv_iconst (v := 1) hx hb dL_law_563 (by decide) ?_
  refine wk_iadd (x := i) (y := 1) hx hb dL_law_564 ?_
  refine wk_sld (i := i + 1) hx hb hX hbl hbA hS (by omega) (by omega) dL_law_565 ?_
  refine wk_callR (va_runV (As := [.int (xs (i + 1))]) (rest := [.int (xLeast c (xs (i + 1)))]) ⟨hx, hb, hml, hown, hts⟩ (c_X8_least l G d M hR.J (xs (i + 1))  H.size) (cwV 1 hts gL_law_X8_least rfl rfl rfl hdV_X8_least ⟨Nat.le_of_ble_eq_true rfl, Nat.le_of_ble_eq_true rfl⟩) ((PreM.mk (va_P_right hP) hK hN (va_D_right hD)).pre (ci := 8) (q0 := 0) rfl (WM_0 G d M)) rfl rfl hl.1 rfl (lv_room (Nat.le_of_ble_eq_true rfl)) dL_law_566 ⟨Nat.le_of_ble_eq_true rfl, Nat.le_of_ble_eq_true rfl⟩) hP hD hS hA WM_fst (fun H locs hP hD hS => ?_)
  refine W.eq (g2 := F0 m 569 ls [.int ((yLeast M (xs (i + 1)))), .int (xLeast c (xs (i + 1)))]) rfl ?_
  refine lv_icmp_eq (tgt := 943) hx hb dL_law_569 (by decide) (fun _ => ?_) (fun h => absurd (e_least hR (xs (i + 1))) h)
  exact kk c M H locs hR hP hD hS

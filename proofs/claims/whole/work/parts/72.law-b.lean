set_option maxHeartbeats 1000000 in
set_option maxRecDepth 100000 in
theorem law_dummies {p : Program} {l : Launch} {e : Env} {s : State} {m : MethodId} {below : List Frame} {meth : Method} {cd : Code} {b L : Nat} {xs : Nat → Int32} {G : GG} {a d : Nat → Nat} {Q : State → Prop} {ls : Array Slot} {i : Nat} {c : CX} {M : JX} {H : Heap} {locs : List Loc} (C : LW p s m cd G b L xs) (hR : Rel c M) (hi : i + 4 ≤ L) (hl : lv_has ls 4 [(3, .int (nI i)), (2, .ref (d 0)), (1, .ref (a 0)), (0, .ref b)]) (hP : va_P G.1 vwCl (WL G a d c M) H) (hD : va_D (fun q => s.heap.size ≤ q) (WL G a d c M)) (hS : va_S (fun q => s.heap.size ≤ q) s.heap H locs) (kk : ∀ (c : CX) (M : JX) (H : Heap) (locs : List Loc), Rel c M → va_P G.1 vwCl (WL G a d c M) H → va_D (fun q => s.heap.size ≤ q) (WL G a d c M) → va_S (fun q => s.heap.size ≤ q) s.heap H locs → W p l e room_1 s m #[Value.ref b] below meth cd H locs 74 1158 Q (F0 m 943 ls [])) : W p l e room_1 s m #[Value.ref b] below meth cd H locs 74 1158 Q (F0 m 574 ls []) := by
  obtain ⟨hx, hb, hml, hown, hts, hX, hbl, hK, hN, hF, hL⟩ := C
  have hA : ∀ q : Nat, s.heap.size ≤ q → (fun q => s.heap.size ≤ q) q := fun _ h => h
  have hbA : ¬ (fun q => s.heap.size ≤ q) b := Nat.not_le.mpr hbl
  refine lv_aload_n hx hb dL_law_574 rfl (lv_at hl 2 rfl) ?_
  refine wk_read (va_runV (As := []) (rest := []) ⟨hx, hb, hml, hown, hts⟩ (c_X7_dummies l G a c hR.R ) (cwV 0 hts gL_law_X7_dummies rfl rfl rfl hdV_X7_dummies ⟨Nat.le_of_ble_eq_true rfl, Nat.le_of_ble_eq_true rfl⟩) (PreF.pre (W0 := WR G a c) ⟨⟨wr_left hP, hK, hN⟩, hF.fr hS⟩ (ci := 7) (q0 := 0) rfl rfl) rfl rfl hl.1 rfl (lv_room (Nat.le_of_ble_eq_true rfl)) dL_law_575 ⟨Nat.le_of_ble_eq_true rfl, Nat.le_of_ble_eq_true rfl⟩) ?_
  refine W.eq (g2 := F0 m 578 ls [.int (pLess (cK c) (cM c))]) rfl ?_
  refine lv_aload_n hx hb dL_law_578 rfl (lv_at hl 1 rfl) ?_
  refine wk_callR (va_runV (As := []) (rest := [.int (pLess (cK c) (cM c))]) ⟨hx, hb, hml, hown, hts⟩ (c_X8_dummies l G d M hR.J   H.size) (cwV 0 hts gL_law_X8_dummies rfl rfl rfl hdV_X8_dummies ⟨Nat.le_of_ble_eq_true rfl, Nat.le_of_ble_eq_true rfl⟩) ((PreM.mk (va_P_right hP) hK hN (va_D_right hD)).pre (ci := 8) (q0 := 0) rfl (WM_0 G d M)) rfl rfl hl.1 rfl (lv_room (Nat.le_of_ble_eq_true rfl)) dL_law_579 ⟨Nat.le_of_ble_eq_true rfl, Nat.le_of_ble_eq_true rfl⟩) hP hD hS hA WM_fst (fun H locs hP hD hS => ?_)
  refine W.eq (g2 := F0 m 582 ls [.int ((yDum M)), .int (pLess (cK c) (cM c))]) rfl ?_
  refine lv_icmp_eq (tgt := 943) hx hb dL_law_582 (by decide) (fun _ => ?_) (fun h => absurd (e_dum hR ) h)
  exact kk c M H locs hR hP hD hS
set_option maxHeartbeats 1000000 in
set_option maxRecDepth 100000 in
theorem law_sways {p : Program} {l : Launch} {e : Env} {s : State} {m : MethodId} {below : List Frame} {meth : Method} {cd : Code} {b L : Nat} {xs : Nat → Int32} {G : GG} {a d : Nat → Nat} {Q : State → Prop} {ls : Array Slot} {i : Nat} {c : CX} {M : JX} {H : Heap} {locs : List Loc} (C : LW p s m cd G b L xs) (hR : Rel c M) (hi : i + 4 ≤ L) (hl : lv_has ls 4 [(3, .int (nI i)), (2, .ref (d 0)), (1, .ref (a 0)), (0, .ref b)]) (hP : va_P G.1 vwCl (WL G a d c M) H) (hD : va_D (fun q => s.heap.size ≤ q) (WL G a d c M)) (hS : va_S (fun q => s.heap.size ≤ q) s.heap H locs) (kk : ∀ (c : CX) (M : JX) (H : Heap) (locs : List Loc), Rel c M → va_P G.1 vwCl (WL G a d c M) H → va_D (fun q => s.heap.size ≤ q) (WL G a d c M) → va_S (fun q => s.heap.size ≤ q) s.heap H locs → W p l e room_1 s m #[Value.ref b] below meth cd H locs 74 1158 Q (F0 m 943 ls [])) : W p l e room_1 s m #[Value.ref b] below meth cd H locs 74 1158 Q (F0 m 587 ls []) := by
  obtain ⟨hx, hb, hml, hown, hts, hX, hbl, hK, hN, hF, hL⟩ := C
  have hA : ∀ q : Nat, s.heap.size ≤ q → (fun q => s.heap.size ≤ q) q := fun _ h => h
  have hbA : ¬ (fun q => s.heap.size ≤ q) b := Nat.not_le.mpr hbl
  refine lv_aload_n hx hb dL_law_587 rfl (lv_at hl 2 rfl) ?_
  refine lv_aload_n hx hb dL_law_588 rfl (lv_at hl 3 rfl) ?_
  refine lv_iload_n hx hb dL_law_589 rfl (lv_at hl 0 rfl) ?_
  refine lv_iconst (v := 1) hx hb dL_law_590 (by decide) ?_
  refine wk_iadd (x := i) (y := 1) hx hb dL_law_591 ?_
  refine wk_sld (i := i + 1) hx hb hX hbl hbA hS (by omega) (by omega) dL_law_592 ?_
  refine wk_read (va_runV (As := [.int (xs (i + 1))]) (rest := []) ⟨hx, hb, hml, hown, hts⟩ (c_X7_sways l G a c hR.R (xs (i + 1))) (cwV 1 hts gL_law_X7_sways rfl rfl rfl hdV_X7_sways ⟨Nat.le_of_ble_eq_true rfl, Nat.le_of_ble_eq_true rfl⟩) (PreW.pre (W0 := WR G a c) ⟨wr_left hP, hK, hN⟩ (ci := 7) (q0 := 0) rfl rfl) rfl rfl hl.1 rfl (lv_room (Nat.le_of_ble_eq_true rfl)) dL_law_593 ⟨Nat.le_of_ble_eq_true rfl, Nat.le_of_ble_eq_true rfl⟩) ?_
  refine W.eq (g2 := F0 m 596 ls [.int (xSways c (xs (i + 1)))]) rfl ?_
  refine lv_aload_n hx hb dL_law_596 rfl (lv_at hl 1 rfl) ?_
  refine lv_aload_n hx hb dL_law_597 rfl (lv_at hl 3 rfl) ?_
  refine lv_iload_n hx hb dL_law_598 rfl (lv_at hl 0 rfl) ?_
  refine lv_iconst (v := 1) hx hb dL_law_599 (by decide) ?_
  refine wk_iadd (x := i) (y := 1) hx hb dL_law_600 ?_
  refine wk_sld (i := i + 1) hx hb hX hbl hbA hS (by omega) (by omega) dL_law_601 ?_
  refine wk_callR (va_runV (As := [.int (xs (i + 1))]) (rest := [.int (xSways c (xs (i + 1)))]) ⟨hx, hb, hml, hown, hts⟩ (c_X8_sways l G d M hR.J (xs (i + 1))  H.size) (cwV 1 hts gL_law_X8_sways rfl rfl rfl hdV_X8_sways ⟨Nat.le_of_ble_eq_true rfl, Nat.le_of_ble_eq_true rfl⟩) ((PreM.mk (va_P_right hP) hK hN (va_D_right hD)).pre (ci := 8) (q0 := 0) rfl (WM_0 G d M)) rfl rfl hl.1 rfl (lv_room (Nat.le_of_ble_eq_true rfl)) dL_law_602 ⟨Nat.le_of_ble_eq_true rfl, Nat.le_of_ble_eq_true rfl⟩) hP hD hS hA WM_fst (fun H locs hP hD hS => ?_)
  refine W.eq (g2 := F0 m 605 ls [.int ((ySways M (xs (i + 1)))), .int (xSways c (xs (i + 1)))]) rfl ?_
  refine lv_icmp_eq (tgt := 943) hx hb dL_law_605 (by decide) (fun _ => ?_) (fun h => absurd (e_sways hR (xs (i + 1))) h)
  exact kk c M H locs hR hP hD hS
set_option maxHeartbeats 1000000 in
set_option maxRecDepth 100000 in
theorem law_free {p : Program} {l : Launch} {e : Env} {s : State} {m : MethodId} {below : List Frame} {meth : Method} {cd : Code} {b L : Nat} {xs : Nat → Int32} {G : GG} {a d : Nat → Nat} {Q : State → Prop} {ls : Array Slot} {i : Nat} {c : CX} {M : JX} {H : Heap} {locs : List Loc} (C : LW p s m cd G b L xs) (hR : Rel c M) (hi : i + 4 ≤ L) (hl : lv_has ls 4 [(3, .int (nI i)), (2, .ref (d 0)), (1, .ref (a 0)), (0, .ref b)]) (hP : va_P G.1 vwCl (WL G a d c M) H) (hD : va_D (fun q => s.heap.size ≤ q) (WL G a d c M)) (hS : va_S (fun q => s.heap.size ≤ q) s.heap H locs) (kk : ∀ (c : CX) (M : JX) (H : Heap) (locs : List Loc), Rel c M → va_P G.1 vwCl (WL G a d c M) H → va_D (fun q => s.heap.size ≤ q) (WL G a d c M) → va_S (fun q => s.heap.size ≤ q) s.heap H locs → W p l e room_1 s m #[Value.ref b] below meth cd H locs 74 1158 Q (F0 m 943 ls [])) : W p l e room_1 s m #[Value.ref b] below meth cd H locs 74 1158 Q (F0 m 610 ls []) := by
  obtain ⟨hx, hb, hml, hown, hts, hX, hbl, hK, hN, hF, hL⟩ := C
  have hA : ∀ q : Nat, s.heap.size ≤ q → (fun q => s.heap.size ≤ q) q := fun _ h => h
  have hbA : ¬ (fun q => s.heap.size ≤ q) b := Nat.not_le.mpr hbl
  refine lv_aload_n hx hb dL_law_610 rfl (lv_at hl 2 rfl) ?_
  refine wk_read (va_runV (As := []) (rest := []) ⟨hx, hb, hml, hown, hts⟩ (c_X7_free l G a c hR.R ) (cwV 0 hts gL_law_X7_free rfl rfl rfl hdV_X7_free ⟨Nat.le_of_ble_eq_true rfl, Nat.le_of_ble_eq_true rfl⟩) (PreW.pre (W0 := WR G a c) ⟨wr_left hP, hK, hN⟩ (ci := 7) (q0 := 0) rfl rfl) rfl rfl hl.1 rfl (lv_room (Nat.le_of_ble_eq_true rfl)) dL_law_611 ⟨Nat.le_of_ble_eq_true rfl, Nat.le_of_ble_eq_true rfl⟩) ?_
  refine W.eq (g2 := F0 m 614 ls [.int (pFree (cK c) (cM c))]) rfl ?_
  refine lv_aload_n hx hb dL_law_614 rfl (lv_at hl 1 rfl) ?_
  refine wk_callR (va_runV (As := []) (rest := [.int (pFree (cK c) (cM c))]) ⟨hx, hb, hml, hown, hts⟩ (c_X8_free l G d M hR.J   H.size) (cwV 0 hts gL_law_X8_free rfl rfl rfl hdV_X8_free ⟨Nat.le_of_ble_eq_true rfl, Nat.le_of_ble_eq_true rfl⟩) ((PreM.mk (va_P_right hP) hK hN (va_D_right hD)).pre (ci := 8) (q0 := 0) rfl (WM_0 G d M)) rfl rfl hl.1 rfl (lv_room (Nat.le_of_ble_eq_true rfl)) dL_law_615 ⟨Nat.le_of_ble_eq_true rfl, Nat.le_of_ble_eq_true rfl⟩) hP hD hS hA WM_fst (fun H locs hP hD hS => ?_)
  refine W.eq (g2 := F0 m 618 ls [.int ((yFree M)), .int (pFree (cK c) (cM c))]) rfl ?_
  refine lv_icmp_eq (tgt := 943) hx hb dL_law_618 (by decide) (fun _ => ?_) (fun h => absurd (e_free hR ) h)
  exact kk c M H locs hR hP hD hS
set_option maxHeartbeats 1000000 in
set_option maxRecDepth 100000 in
theorem law_turn {p : Program} {l : Launch} {e : Env} {s : State} {m : MethodId} {below : List Frame} {meth : Method} {cd : Code} {b L : Nat} {xs : Nat → Int32} {G : GG} {a d : Nat → Nat} {Q : State → Prop} {ls : Array Slot} {i : Nat} {c : CX} {M : JX} {H : Heap} {locs : List Loc} (C : LW p s m cd G b L xs) (hR : Rel c M) (hi : i + 4 ≤ L) (hl : lv_has ls 4 [(3, .int (nI i)), (2, .ref (d 0)), (1, .ref (a 0)), (0, .ref b)]) (hP : va_P G.1 vwCl (WL G a d c M) H) (hD : va_D (fun q => s.heap.size ≤ q) (WL G a d c M)) (hS : va_S (fun q => s.heap.size ≤ q) s.heap H locs) (kk : ∀ (c : CX) (M : JX) (H : Heap) (locs : List Loc), Rel c M → va_P G.1 vwCl (WL G a d c M) H → va_D (fun q => s.heap.size ≤ q) (WL G a d c M) → va_S (fun q => s.heap.size ≤ q) s.heap H locs → W p l e room_1 s m #[Value.ref b] below meth cd H locs 74 1158 Q (F0 m 943 ls [])) : W p l e room_1 s m #[Value.ref b] below meth cd H locs 74 1158 Q (F0 m 623 ls []) := by
  obtain ⟨hx, hb, hml, hown, hts, hX, hbl, hK, hN, hF, hL⟩ := C
  have hA : ∀ q : Nat, s.heap.size ≤ q → (fun q => s.heap.size ≤ q) q := fun _ h => h
  have hbA : ¬ (fun q => s.heap.size ≤ q) b := Nat.not_le.mpr hbl
  refine lv_aload_n hx hb dL_law_623 rfl (lv_at hl 2 rfl) ?_
  refine lv_aload_n hx hb dL_law_624 rfl (lv_at hl 3 rfl) ?_
  refine lv_iload_n hx hb dL_law_625 rfl (lv_at hl 0 rfl) ?_
  refine lv_iconst (v := 1) hx hb dL_law_626 (by decide) ?_
  refine wk_iadd (x := i) (y := 1) hx hb dL_law_627 ?_
  refine wk_sld (i := i + 1) hx hb hX hbl hbA hS (by omega) (by omega) dL_law_628 ?_
  refine wk_read (va_runV (As := [.int (xs (i + 1))]) (rest := []) ⟨hx, hb, hml, hown, hts⟩ (c_X7_turn l G a c hR.R (xs (i + 1))) (cwV 1 hts gL_law_X7_turn rfl rfl rfl hdV_X7_turn ⟨Nat.le_of_ble_eq_true rfl, Nat.le_of_ble_eq_true rfl⟩) (PreW.pre (W0 := WR G a c) ⟨wr_left hP, hK, hN⟩ (ci := 7) (q0 := 0) rfl rfl) rfl rfl hl.1 rfl (lv_room (Nat.le_of_ble_eq_true rfl)) dL_law_629 ⟨Nat.le_of_ble_eq_true rfl, Nat.le_of_ble_eq_true rfl⟩) ?_
  refine W.eq (g2 := F0 m 632 ls [.int (xTurn c (xs (i + 1)))]) rfl ?_
  refine lv_aload_n hx hb dL_law_632 rfl (lv_at hl 1 rfl) ?_
  refine lv_aload_n hx hb dL_law_633 rfl (lv_at hl 3 rfl) ?_
  refine lv_iload_n hx hb dL_law_634 rfl (lv_at hl 0 rfl) ?_
  refine lv_iconst (v := 1) hx hb dL_law_635 (by decide) ?_
  refine wk_iadd (x := i) (y := 1) hx hb dL_law_636 ?_
  refine wk_sld (i := i + 1) hx hb hX hbl hbA hS (by omega) (by omega) dL_law_637 ?_
  refine wk_callR (va_runV (As := [.int (xs (i + 1))]) (rest := [.int (xTurn c (xs (i + 1)))]) ⟨hx, hb, hml, hown, hts⟩ (c_X8_turn l G d M hR.J (xs (i + 1))  H.size) (cwV 1 hts gL_law_X8_turn rfl rfl rfl hdV_X8_turn ⟨Nat.le_of_ble_eq_true rfl, Nat.le_of_ble_eq_true rfl⟩) ((PreM.mk (va_P_right hP) hK hN (va_D_right hD)).pre (ci := 8) (q0 := 0) rfl (WM_0 G d M)) rfl rfl hl.1 rfl (lv_room (Nat.le_of_ble_eq_true rfl)) dL_law_638 ⟨Nat.le_of_ble_eq_true rfl, Nat.le_of_ble_eq_true rfl⟩) hP hD hS hA WM_fst (fun H locs hP hD hS => ?_)
  refine W.eq (g2 := F0 m 641 ls [.int ((yTurn M (xs (i + 1)))), .int (xTurn c (xs (i + 1)))]) rfl ?_
  refine lv_icmp_eq (tgt := 943) hx hb dL_law_641 (by decide) (fun _ => ?_) (fun h => absurd (e_turn hR (xs (i + 1))) h)
  exact kk c M H locs hR hP hD hS
set_option maxHeartbeats 1000000 in
set_option maxRecDepth 100000 in
theorem law_hand {p : Program} {l : Launch} {e : Env} {s : State} {m : MethodId} {below : List Frame} {meth : Method} {cd : Code} {b L : Nat} {xs : Nat → Int32} {G : GG} {a d : Nat → Nat} {Q : State → Prop} {ls : Array Slot} {i : Nat} {c : CX} {M : JX} {H : Heap} {locs : List Loc} (C : LW p s m cd G b L xs) (hR : Rel c M) (hi : i + 4 ≤ L) (hl : lv_has ls 4 [(3, .int (nI i)), (2, .ref (d 0)), (1, .ref (a 0)), (0, .ref b)]) (hP : va_P G.1 vwCl (WL G a d c M) H) (hD : va_D (fun q => s.heap.size ≤ q) (WL G a d c M)) (hS : va_S (fun q => s.heap.size ≤ q) s.heap H locs) (kk : ∀ (c : CX) (M : JX) (H : Heap) (locs : List Loc), Rel c M → va_P G.1 vwCl (WL G a d c M) H → va_D (fun q => s.heap.size ≤ q) (WL G a d c M) → va_S (fun q => s.heap.size ≤ q) s.heap H locs → W p l e room_1 s m #[Value.ref b] below meth cd H locs 74 1158 Q (F0 m 943 ls [])) : W p l e room_1 s m #[Value.ref b] below meth cd H locs 74 1158 Q (F0 m 646 ls []) := by
  obtain ⟨hx, hb, hml, hown, hts, hX, hbl, hK, hN, hF, hL⟩ := C
  have hA : ∀ q : Nat, s.heap.size ≤ q → (fun q => s.heap.size ≤ q) q := fun _ h => h
  have hbA : ¬ (fun q => s.heap.size ≤ q) b := Nat.not_le.mpr hbl
  refine lv_aload_n hx hb dL_law_646 rfl (lv_at hl 2 rfl) ?_
  refine lv_aload_n hx hb dL_law_647 rfl (lv_at hl 3 rfl) ?_
  refine lv_iload_n hx hb dL_law_648 rfl (lv_at hl 0 rfl) ?_
  refine lv_iconst (v := 1) hx hb dL_law_649 (by decide) ?_
  refine wk_iadd (x := i) (y := 1) hx hb dL_law_650 ?_
  refine wk_sld (i := i + 1) hx hb hX hbl hbA hS (by omega) (by omega) dL_law_651 ?_
  refine wk_read (va_runV (As := [.int (xs (i + 1))]) (rest := []) ⟨hx, hb, hml, hown, hts⟩ (c_X7_hand l G a c hR.R (xs (i + 1))) (cwV 1 hts gL_law_X7_hand rfl rfl rfl hdV_X7_hand ⟨Nat.le_of_ble_eq_true rfl, Nat.le_of_ble_eq_true rfl⟩) (PreW.pre (W0 := WR G a c) ⟨wr_left hP, hK, hN⟩ (ci := 7) (q0 := 0) rfl rfl) rfl rfl hl.1 rfl (lv_room (Nat.le_of_ble_eq_true rfl)) dL_law_652 ⟨Nat.le_of_ble_eq_true rfl, Nat.le_of_ble_eq_true rfl⟩) ?_
  refine W.eq (g2 := F0 m 655 ls [.int (xHand c (xs (i + 1)))]) rfl ?_
  refine lv_aload_n hx hb dL_law_655 rfl (lv_at hl 1 rfl) ?_
  refine lv_aload_n hx hb dL_law_656 rfl (lv_at hl 3 rfl) ?_
  refine lv_iload_n hx hb dL_law_657 rfl (lv_at hl 0 rfl) ?_
  refine lv_iconst (v := 1) hx hb dL_law_658 (by decide) ?_
  refine wk_iadd (x := i) (y := 1) hx hb dL_law_659 ?_
  refine wk_sld (i := i + 1) hx hb hX hbl hbA hS (by omega) (by omega) dL_law_660 ?_
  refine wk_callR (va_runV (As := [.int (xs (i + 1))]) (rest := [.int (xHand c (xs (i + 1)))]) ⟨hx, hb, hml, hown, hts⟩ (c_X8_hand l G d M hR.J (xs (i + 1))  H.size) (cwV 1 hts gL_law_X8_hand rfl rfl rfl hdV_X8_hand ⟨Nat.le_of_ble_eq_true rfl, Nat.le_of_ble_eq_true rfl⟩) ((PreM.mk (va_P_right hP) hK hN (va_D_right hD)).pre (ci := 8) (q0 := 0) rfl (WM_0 G d M)) rfl rfl hl.1 rfl (lv_room (Nat.le_of_ble_eq_true rfl)) dL_law_661 ⟨Nat.le_of_ble_eq_true rfl, Nat.le_of_ble_eq_true rfl⟩) hP hD hS hA WM_fst (fun H locs hP hD hS => ?_)
  refine W.eq (g2 := F0 m 664 ls [.int ((yHand M (xs (i + 1))).1), .int (xHand c (xs (i + 1)))]) rfl ?_
  have h9 := e_hand hR (xs (i + 1))
  refine lv_icmp_eq (tgt := 943) hx hb dL_law_664 (by decide) (fun _ => ?_) (fun h => absurd h9.1 h)
  exact kk _ _ H locs h9.2 hP hD hS
set_option maxHeartbeats 1000000 in
set_option maxRecDepth 100000 in
theorem law_swaps {p : Program} {l : Launch} {e : Env} {s : State} {m : MethodId} {below : List Frame} {meth : Method} {cd : Code} {b L : Nat} {xs : Nat → Int32} {G : GG} {a d : Nat → Nat} {Q : State → Prop} {ls : Array Slot} {i : Nat} {c : CX} {M : JX} {H : Heap} {locs : List Loc} (C : LW p s m cd G b L xs) (hR : Rel c M) (hi : i + 4 ≤ L) (hl : lv_has ls 4 [(3, .int (nI i)), (2, .ref (d 0)), (1, .ref (a 0)), (0, .ref b)]) (hP : va_P G.1 vwCl (WL G a d c M) H) (hD : va_D (fun q => s.heap.size ≤ q) (WL G a d c M)) (hS : va_S (fun q => s.heap.size ≤ q) s.heap H locs) (kk : ∀ (c : CX) (M : JX) (H : Heap) (locs : List Loc), Rel c M → va_P G.1 vwCl (WL G a d c M) H → va_D (fun q => s.heap.size ≤ q) (WL G a d c M) → va_S (fun q => s.heap.size ≤ q) s.heap H locs → W p l e room_1 s m #[Value.ref b] below meth cd H locs 74 1158 Q (F0 m 943 ls [])) : W p l e room_1 s m #[Value.ref b] below meth cd H locs 74 1158 Q (F0 m 669 ls []) := by
  obtain ⟨hx, hb, hml, hown, hts, hX, hbl, hK, hN, hF, hL⟩ := C
  have hA : ∀ q : Nat, s.heap.size ≤ q → (fun q => s.heap.size ≤ q) q := fun _ h => h
  have hbA : ¬ (fun q => s.heap.size ≤ q) b := Nat.not_le.mpr hbl
  refine lv_aload_n hx hb dL_law_669 rfl (lv_at hl 2 rfl) ?_
  refine lv_aload_n hx hb dL_law_670 rfl (lv_at hl 3 rfl) ?_
  refine lv_iload_n hx hb dL_law_671 rfl (lv_at hl 0 rfl) ?_
  refine lv_iconst (v := 1) hx hb dL_law_672 (by decide) ?_
  refine wk_iadd (x := i) (y := 1) hx hb dL_law_673 ?_
  refine wk_sld (i := i + 1) hx hb hX hbl hbA hS (by omega) (by omega) dL_law_674 ?_
  refine wk_read (va_runV (As := [.int (xs (i + 1))]) (rest := []) ⟨hx, hb, hml, hown, hts⟩ (c_X7_swaps l G a c hR.R (xs (i + 1))) (cwV 1 hts gL_law_X7_swaps rfl rfl rfl hdV_X7_swaps ⟨Nat.le_of_ble_eq_true rfl, Nat.le_of_ble_eq_true rfl⟩) (PreW.pre (W0 := WR G a c) ⟨wr_left hP, hK, hN⟩ (ci := 7) (q0 := 0) rfl rfl) rfl rfl hl.1 rfl (lv_room (Nat.le_of_ble_eq_true rfl)) dL_law_675 ⟨Nat.le_of_ble_eq_true rfl, Nat.le_of_ble_eq_true rfl⟩) ?_
  refine W.eq (g2 := F0 m 678 ls [.int (xSwaps c (xs (i + 1)))]) rfl ?_
  refine lv_aload_n hx hb dL_law_678 rfl (lv_at hl 1 rfl) ?_
  refine lv_aload_n hx hb dL_law_679 rfl (lv_at hl 3 rfl) ?_
  refine lv_iload_n hx hb dL_law_680 rfl (lv_at hl 0 rfl) ?_
  refine lv_iconst (v := 1) hx hb dL_law_681 (by decide) ?_
  refine wk_iadd (x := i) (y := 1) hx hb dL_law_682 ?_
  refine wk_sld (i := i + 1) hx hb hX hbl hbA hS (by omega) (by omega) dL_law_683 ?_
  refine wk_callR (va_runV (As := [.int (xs (i + 1))]) (rest := [.int (xSwaps c (xs (i + 1)))]) ⟨hx, hb, hml, hown, hts⟩ (c_X8_swaps l G d M hR.J (xs (i + 1))  H.size) (cwV 1 hts gL_law_X8_swaps rfl rfl rfl hdV_X8_swaps ⟨Nat.le_of_ble_eq_true rfl, Nat.le_of_ble_eq_true rfl⟩) ((PreM.mk (va_P_right hP) hK hN (va_D_right hD)).pre (ci := 8) (q0 := 0) rfl (WM_0 G d M)) rfl rfl hl.1 rfl (lv_room (Nat.le_of_ble_eq_true rfl)) dL_law_684 ⟨Nat.le_of_ble_eq_true rfl, Nat.le_of_ble_eq_true rfl⟩) hP hD hS hA WM_fst (fun H locs hP hD hS => ?_)
  refine W.eq (g2 := F0 m 687 ls [.int ((ySwaps M (xs (i + 1))).1), .int (xSwaps c (xs (i + 1)))]) rfl ?_
  have h9 := e_swaps hR (xs (i + 1))
  refine lv_icmp_eq (tgt := 943) hx hb dL_law_687 (by decide) (fun _ => ?_) (fun h => absurd h9.1 h)
  exact kk _ _ H locs h9.2 hP hD hS
set_option maxHeartbeats 1000000 in
set_option maxRecDepth 100000 in
theorem law_record {p : Program} {l : Launch} {e : Env} {s : State} {m : MethodId} {below : List Frame} {meth : Method} {cd : Code} {b L : Nat} {xs : Nat → Int32} {G : GG} {a d : Nat → Nat} {Q : State → Prop} {ls : Array Slot} {i : Nat} {c : CX} {M : JX} {H : Heap} {locs : List Loc} (C : LW p s m cd G b L xs) (hR : Rel c M) (hi : i + 4 ≤ L) (hl : lv_has ls 4 [(3, .int (nI i)), (2, .ref (d 0)), (1, .ref (a 0)), (0, .ref b)]) (hP : va_P G.1 vwCl (WL G a d c M) H) (hD : va_D (fun q => s.heap.size ≤ q) (WL G a d c M)) (hS : va_S (fun q => s.heap.size ≤ q) s.heap H locs) (kk : ∀ (c : CX) (M : JX) (H : Heap) (locs : List Loc), Rel c M → va_P G.1 vwCl (WL G a d c M) H → va_D (fun q => s.heap.size ≤ q) (WL G a d c M) → va_S (fun q => s.heap.size ≤ q) s.heap H locs → W p l e room_1 s m #[Value.ref b] below meth cd H locs 74 1158 Q (F0 m 943 ls [])) : W p l e room_1 s m #[Value.ref b] below meth cd H locs 74 1158 Q (F0 m 692 ls []) := by
  obtain ⟨hx, hb, hml, hown, hts, hX, hbl, hK, hN, hF, hL⟩ := C
  have hA : ∀ q : Nat, s.heap.size ≤ q → (fun q => s.heap.size ≤ q) q := fun _ h => h
  have hbA : ¬ (fun q => s.heap.size ≤ q) b := Nat.not_le.mpr hbl
  refine lv_aload_n hx hb dL_law_692 rfl (lv_at hl 2 rfl) ?_
  refine lv_aload_n hx hb dL_law_693 rfl (lv_at hl 3 rfl) ?_
  refine lv_iload_n hx hb dL_law_694 rfl (lv_at hl 0 rfl) ?_
  refine lv_iconst (v := 1) hx hb dL_law_695 (by decide) ?_
  refine wk_iadd (x := i) (y := 1) hx hb dL_law_696 ?_
  refine wk_sld (i := i + 1) hx hb hX hbl hbA hS (by omega) (by omega) dL_law_697 ?_
  refine lv_aload_n hx hb dL_law_698 rfl (lv_at hl 3 rfl) ?_
  refine lv_iload_n hx hb dL_law_699 rfl (lv_at hl 0 rfl) ?_
  refine lv_iconst (v := 2) hx hb dL_law_700 (by decide) ?_
  refine wk_iadd (x := i) (y := 2) hx hb dL_law_701 ?_
  refine wk_sld (i := i + 2) hx hb hX hbl hbA hS (by omega) (by omega) dL_law_702 ?_
  refine wk_callL (va_runV (As := [.int (xs (i + 1)), .int (xs (i + 2))]) (rest := []) ⟨hx, hb, hml, hown, hts⟩ (c_X7_record l G a c hR.R (xs (i + 1)) (xs (i + 2))  H.size) (cwV 2 hts gL_law_X7_record rfl rfl rfl hdV_X7_record ⟨Nat.le_of_ble_eq_true rfl, Nat.le_of_ble_eq_true rfl⟩) ((PreM.mk (va_P_left hP) hK hN (va_D_left hD)).pre (ci := 7) (q0 := 0) rfl (WX_0 G a c)) rfl rfl hl.1 rfl (lv_room (Nat.le_of_ble_eq_true rfl)) dL_law_703 ⟨Nat.le_of_ble_eq_true rfl, Nat.le_of_ble_eq_true rfl⟩) hP hD hS hA WX_fst (fun H locs hP hD hS => ?_)
  refine W.eq (g2 := F0 m 706 ls [.int ((xRecord c (xs (i + 1)) (xs (i + 2))).1)]) rfl ?_
  refine lv_aload_n hx hb dL_law_706 rfl (lv_at hl 1 rfl) ?_
  refine lv_aload_n hx hb dL_law_707 rfl (lv_at hl 3 rfl) ?_
  refine lv_iload_n hx hb dL_law_708 rfl (lv_at hl 0 rfl) ?_
  refine lv_iconst (v := 1) hx hb dL_law_709 (by decide) ?_
  refine wk_iadd (x := i) (y := 1) hx hb dL_law_710 ?_
  refine wk_sld (i := i + 1) hx hb hX hbl hbA hS (by omega) (by omega) dL_law_711 ?_
  refine lv_aload_n hx hb dL_law_712 rfl (lv_at hl 3 rfl) ?_
  refine lv_iload_n hx hb dL_law_713 rfl (lv_at hl 0 rfl) ?_
  refine lv_iconst (v := 2) hx hb dL_law_714 (by decide) ?_
  refine wk_iadd (x := i) (y := 2) hx hb dL_law_715 ?_
  refine wk_sld (i := i + 2) hx hb hX hbl hbA hS (by omega) (by omega) dL_law_716 ?_
  refine wk_callR (va_runV (As := [.int (xs (i + 1)), .int (xs (i + 2))]) (rest := [.int ((xRecord c (xs (i + 1)) (xs (i + 2))).1)]) ⟨hx, hb, hml, hown, hts⟩ (c_X8_record l G d M hR.J (xs (i + 1)) (xs (i + 2))  H.size) (cwV 2 hts gL_law_X8_record rfl rfl rfl hdV_X8_record ⟨Nat.le_of_ble_eq_true rfl, Nat.le_of_ble_eq_true rfl⟩) ((PreM.mk (va_P_right hP) hK hN (va_D_right hD)).pre (ci := 8) (q0 := 0) rfl (WM_0 G d M)) rfl rfl hl.1 rfl (lv_room (Nat.le_of_ble_eq_true rfl)) dL_law_717 ⟨Nat.le_of_ble_eq_true rfl, Nat.le_of_ble_eq_true rfl⟩) hP hD hS hA WM_fst (fun H locs hP hD hS => ?_)
  refine W.eq (g2 := F0 m 720 ls [.int ((yRecord M (xs (i + 1)) (xs (i + 2))).1), .int ((xRecord c (xs (i + 1)) (xs (i + 2))).1)]) rfl ?_
  have h9 := e_record hR (xs (i + 1)) (xs (i + 2))
  refine lv_icmp_eq (tgt := 943) hx hb dL_law_720 (by decide) (fun _ => ?_) (fun h => absurd h9.1 h)
  exact kk _ _ H locs h9.2 hP hD hS
set_option maxHeartbeats 1000000 in
set_option maxRecDepth 100000 in
theorem law_forget {p : Program} {l : Launch} {e : Env} {s : State} {m : MethodId} {below : List Frame} {meth : Method} {cd : Code} {b L : Nat} {xs : Nat → Int32} {G : GG} {a d : Nat → Nat} {Q : State → Prop} {ls : Array Slot} {i : Nat} {c : CX} {M : JX} {H : Heap} {locs : List Loc} (C : LW p s m cd G b L xs) (hR : Rel c M) (hi : i + 4 ≤ L) (hl : lv_has ls 4 [(3, .int (nI i)), (2, .ref (d 0)), (1, .ref (a 0)), (0, .ref b)]) (hP : va_P G.1 vwCl (WL G a d c M) H) (hD : va_D (fun q => s.heap.size ≤ q) (WL G a d c M)) (hS : va_S (fun q => s.heap.size ≤ q) s.heap H locs) (kk : ∀ (c : CX) (M : JX) (H : Heap) (locs : List Loc), Rel c M → va_P G.1 vwCl (WL G a d c M) H → va_D (fun q => s.heap.size ≤ q) (WL G a d c M) → va_S (fun q => s.heap.size ≤ q) s.heap H locs → W p l e room_1 s m #[Value.ref b] below meth cd H locs 74 1158 Q (F0 m 943 ls [])) : W p l e room_1 s m #[Value.ref b] below meth cd H locs 74 1158 Q (F0 m 725 ls []) := by
  obtain ⟨hx, hb, hml, hown, hts, hX, hbl, hK, hN, hF, hL⟩ := C
  have hA : ∀ q : Nat, s.heap.size ≤ q → (fun q => s.heap.size ≤ q) q := fun _ h => h
  have hbA : ¬ (fun q => s.heap.size ≤ q) b := Nat.not_le.mpr hbl
  refine lv_aload_n hx hb dL_law_725 rfl (lv_at hl 2 rfl) ?_
  refine wk_callL (va_runV (As := []) (rest := []) ⟨hx, hb, hml, hown, hts⟩ (c_X7_forget l G a c hR.R   H.size) (cwV 0 hts gL_law_X7_forget rfl rfl rfl hdV_X7_forget ⟨Nat.le_of_ble_eq_true rfl, Nat.le_of_ble_eq_true rfl⟩) ((PreM.mk (va_P_left hP) hK hN (va_D_left hD)).pre (ci := 7) (q0 := 0) rfl (WX_0 G a c)) rfl rfl hl.1 rfl (lv_room (Nat.le_of_ble_eq_true rfl)) dL_law_726 ⟨Nat.le_of_ble_eq_true rfl, Nat.le_of_ble_eq_true rfl⟩) hP hD hS hA WX_fst (fun H locs hP hD hS => ?_)
  refine W.eq (g2 := F0 m 729 ls [.int ((xForget c).1)]) rfl ?_
  refine lv_aload_n hx hb dL_law_729 rfl (lv_at hl 1 rfl) ?_
  refine wk_callR (va_runV (As := []) (rest := [.int ((xForget c).1)]) ⟨hx, hb, hml, hown, hts⟩ (c_X8_forget l G d M hR.J   H.size) (cwV 0 hts gL_law_X8_forget rfl rfl rfl hdV_X8_forget ⟨Nat.le_of_ble_eq_true rfl, Nat.le_of_ble_eq_true rfl⟩) ((PreM.mk (va_P_right hP) hK hN (va_D_right hD)).pre (ci := 8) (q0 := 0) rfl (WM_0 G d M)) rfl rfl hl.1 rfl (lv_room (Nat.le_of_ble_eq_true rfl)) dL_law_730 ⟨Nat.le_of_ble_eq_true rfl, Nat.le_of_ble_eq_true rfl⟩) hP hD hS hA WM_fst (fun H locs hP hD hS => ?_)
  refine W.eq (g2 := F0 m 733 ls [.int ((yForget M).1), .int ((xForget c).1)]) rfl ?_
  have h9 := e_forget hR 
  refine lv_icmp_eq (tgt := 943) hx hb dL_law_733 (by decide) (fun _ => ?_) (fun h => absurd h9.1 h)
  exact kk _ _ H locs h9.2 hP hD hS
set_option maxHeartbeats 1000000 in
set_option maxRecDepth 100000 in
theorem law_isFor {p : Program} {l : Launch} {e : Env} {s : State} {m : MethodId} {below : List Frame} {meth : Method} {cd : Code} {b L : Nat} {xs : Nat → Int32} {G : GG} {a d : Nat → Nat} {Q : State → Prop} {ls : Array Slot} {i : Nat} {c : CX} {M : JX} {H : Heap} {locs : List Loc} (C : LW p s m cd G b L xs) (hR : Rel c M) (hi : i + 4 ≤ L) (hl : lv_has ls 4 [(3, .int (nI i)), (2, .ref (d 0)), (1, .ref (a 0)), (0, .ref b)]) (hP : va_P G.1 vwCl (WL G a d c M) H) (hD : va_D (fun q => s.heap.size ≤ q) (WL G a d c M)) (hS : va_S (fun q => s.heap.size ≤ q) s.heap H locs) (kk : ∀ (c : CX) (M : JX) (H : Heap) (locs : List Loc), Rel c M → va_P G.1 vwCl (WL G a d c M) H → va_D (fun q => s.heap.size ≤ q) (WL G a d c M) → va_S (fun q => s.heap.size ≤ q) s.heap H locs → W p l e room_1 s m #[Value.ref b] below meth cd H locs 74 1158 Q (F0 m 943 ls [])) : W p l e room_1 s m #[Value.ref b] below meth cd H locs 74 1158 Q (F0 m 738 ls []) := by
  obtain ⟨hx, hb, hml, hown, hts, hX, hbl, hK, hN, hF, hL⟩ := C
  have hA : ∀ q : Nat, s.heap.size ≤ q → (fun q => s.heap.size ≤ q) q := fun _ h => h
  have hbA : ¬ (fun q => s.heap.size ≤ q) b := Nat.not_le.mpr hbl
  refine lv_aload_n hx hb dL_law_738 rfl (lv_at hl 2 rfl) ?_
  refine lv_aload_n hx hb dL_law_739 rfl (lv_at hl 3 rfl) ?_
  refine lv_iload_n hx hb dL_law_740 rfl (lv_at hl 0 rfl) ?_
  refine lv_iconst (v := 1) hx hb dL_law_741 (by decide) ?_
  refine wk_iadd (x := i) (y := 1) hx hb dL_law_742 ?_
  refine wk_sld (i := i + 1) hx hb hX hbl hbA hS (by omega) (by omega) dL_law_743 ?_
  refine lv_aload_n hx hb dL_law_744 rfl (lv_at hl 3 rfl) ?_
  refine lv_iload_n hx hb dL_law_745 rfl (lv_at hl 0 rfl) ?_
  refine lv_iconst (v := 2) hx hb dL_law_746 (by decide) ?_
  refine wk_iadd (x := i) (y := 2) hx hb dL_law_747 ?_
  refine wk_sld (i := i + 2) hx hb hX hbl hbA hS (by omega) (by omega) dL_law_748 ?_
  refine wk_read (va_runV (As := [.int (xs (i + 1)), .int (xs (i + 2))]) (rest := []) ⟨hx, hb, hml, hown, hts⟩ (c_X7_isFor l G a c hR.R (xs (i + 1)) (xs (i + 2))) (cwV 2 hts gL_law_X7_isFor rfl rfl rfl hdV_X7_isFor ⟨Nat.le_of_ble_eq_true rfl, Nat.le_of_ble_eq_true rfl⟩) (PreW.pre (W0 := WR G a c) ⟨wr_left hP, hK, hN⟩ (ci := 7) (q0 := 0) rfl rfl) rfl rfl hl.1 rfl (lv_room (Nat.le_of_ble_eq_true rfl)) dL_law_749 ⟨Nat.le_of_ble_eq_true rfl, Nat.le_of_ble_eq_true rfl⟩) ?_
  refine W.eq (g2 := F0 m 752 ls [.int (xIsFor c (xs (i + 1)) (xs (i + 2)))]) rfl ?_
  refine lv_aload_n hx hb dL_law_752 rfl (lv_at hl 1 rfl) ?_
  refine lv_aload_n hx hb dL_law_753 rfl (lv_at hl 3 rfl) ?_
  refine lv_iload_n hx hb dL_law_754 rfl (lv_at hl 0 rfl) ?_
  refine lv_iconst (v := 1) hx hb dL_law_755 (by decide) ?_
  refine wk_iadd (x := i) (y := 1) hx hb dL_law_756 ?_
  refine wk_sld (i := i + 1) hx hb hX hbl hbA hS (by omega) (by omega) dL_law_757 ?_
  refine lv_aload_n hx hb dL_law_758 rfl (lv_at hl 3 rfl) ?_
  refine lv_iload_n hx hb dL_law_759 rfl (lv_at hl 0 rfl) ?_
  refine lv_iconst (v := 2) hx hb dL_law_760 (by decide) ?_
  refine wk_iadd (x := i) (y := 2) hx hb dL_law_761 ?_
  refine wk_sld (i := i + 2) hx hb hX hbl hbA hS (by omega) (by omega) dL_law_762 ?_
  refine wk_callR (va_runV (As := [.int (xs (i + 1)), .int (xs (i + 2))]) (rest := [.int (xIsFor c (xs (i + 1)) (xs (i + 2)))]) ⟨hx, hb, hml, hown, hts⟩ (c_X8_isFor l G d M hR.J (xs (i + 1)) (xs (i + 2))  H.size) (cwV 2 hts gL_law_X8_isFor rfl rfl rfl hdV_X8_isFor ⟨Nat.le_of_ble_eq_true rfl, Nat.le_of_ble_eq_true rfl⟩) ((PreM.mk (va_P_right hP) hK hN (va_D_right hD)).pre (ci := 8) (q0 := 0) rfl (WM_0 G d M)) rfl rfl hl.1 rfl (lv_room (Nat.le_of_ble_eq_true rfl)) dL_law_763 ⟨Nat.le_of_ble_eq_true rfl, Nat.le_of_ble_eq_true rfl⟩) hP hD hS hA WM_fst (fun H locs hP hD hS => ?_)
  refine W.eq (g2 := F0 m 766 ls [.int ((yIsFor M (xs (i + 1)) (xs (i + 2)))), .int (xIsFor c (xs (i + 1)) (xs (i + 2)))]) rfl ?_
  refine lv_icmp_eq (tgt := 943) hx hb dL_law_766 (by decide) (fun _ => ?_) (fun h => absurd (e_isFor hR (xs (i + 1)) (xs (i + 2))) h)
  exact kk c M H locs hR hP hD hS
set_option maxHeartbeats 1000000 in
set_option maxRecDepth 100000 in
theorem law_who {p : Program} {l : Launch} {e : Env} {s : State} {m : MethodId} {below : List Frame} {meth : Method} {cd : Code} {b L : Nat} {xs : Nat → Int32} {G : GG} {a d : Nat → Nat} {Q : State → Prop} {ls : Array Slot} {i : Nat} {c : CX} {M : JX} {H : Heap} {locs : List Loc} (C : LW p s m cd G b L xs) (hR : Rel c M) (hi : i + 4 ≤ L) (hl : lv_has ls 4 [(3, .int (nI i)), (2, .ref (d 0)), (1, .ref (a 0)), (0, .ref b)]) (hP : va_P G.1 vwCl (WL G a d c M) H) (hD : va_D (fun q => s.heap.size ≤ q) (WL G a d c M)) (hS : va_S (fun q => s.heap.size ≤ q) s.heap H locs) (kk : ∀ (c : CX) (M : JX) (H : Heap) (locs : List Loc), Rel c M → va_P G.1 vwCl (WL G a d c M) H → va_D (fun q => s.heap.size ≤ q) (WL G a d c M) → va_S (fun q => s.heap.size ≤ q) s.heap H locs → W p l e room_1 s m #[Value.ref b] below meth cd H locs 74 1158 Q (F0 m 943 ls [])) : W p l e room_1 s m #[Value.ref b] below meth cd H locs 74 1158 Q (F0 m 771 ls []) := by
  obtain ⟨hx, hb, hml, hown, hts, hX, hbl, hK, hN, hF, hL⟩ := C
  have hA : ∀ q : Nat, s.heap.size ≤ q → (fun q => s.heap.size ≤ q) q := fun _ h => h
  have hbA : ¬ (fun q => s.heap.size ≤ q) b := Nat.not_le.mpr hbl
  refine lv_aload_n hx hb dL_law_771 rfl (lv_at hl 2 rfl) ?_
  refine wk_read (va_runV (As := []) (rest := []) ⟨hx, hb, hml, hown, hts⟩ (c_X7_who l G a c hR.R ) (cwV 0 hts gL_law_X7_who rfl rfl rfl hdV_X7_who ⟨Nat.le_of_ble_eq_true rfl, Nat.le_of_ble_eq_true rfl⟩) (PreW.pre (W0 := WR G a c) ⟨wr_left hP, hK, hN⟩ (ci := 7) (q0 := 0) rfl rfl) rfl rfl hl.1 rfl (lv_room (Nat.le_of_ble_eq_true rfl)) dL_law_772 ⟨Nat.le_of_ble_eq_true rfl, Nat.le_of_ble_eq_true rfl⟩) ?_
  refine W.eq (g2 := F0 m 775 ls [.int (pWho (cK c) (cM c) (cI c))]) rfl ?_
  refine lv_aload_n hx hb dL_law_775 rfl (lv_at hl 1 rfl) ?_
  refine wk_callR (va_runV (As := []) (rest := [.int (pWho (cK c) (cM c) (cI c))]) ⟨hx, hb, hml, hown, hts⟩ (c_X8_who l G d M hR.J   H.size) (cwV 0 hts gL_law_X8_who rfl rfl rfl hdV_X8_who ⟨Nat.le_of_ble_eq_true rfl, Nat.le_of_ble_eq_true rfl⟩) ((PreM.mk (va_P_right hP) hK hN (va_D_right hD)).pre (ci := 8) (q0 := 0) rfl (WM_0 G d M)) rfl rfl hl.1 rfl (lv_room (Nat.le_of_ble_eq_true rfl)) dL_law_776 ⟨Nat.le_of_ble_eq_true rfl, Nat.le_of_ble_eq_true rfl⟩) hP hD hS hA WM_fst (fun H locs hP hD hS => ?_)
  refine W.eq (g2 := F0 m 779 ls [.int ((yWho M).1), .int (pWho (cK c) (cM c) (cI c))]) rfl ?_
  have h9 := e_who hR 
  refine lv_icmp_eq (tgt := 943) hx hb dL_law_779 (by decide) (fun _ => ?_) (fun h => absurd h9.1 h)
  exact kk _ _ H locs h9.2 hP hD hS
set_option maxHeartbeats 1000000 in
set_option maxRecDepth 100000 in
theorem law_odds {p : Program} {l : Launch} {e : Env} {s : State} {m : MethodId} {below : List Frame} {meth : Method} {cd : Code} {b L : Nat} {xs : Nat → Int32} {G : GG} {a d : Nat → Nat} {Q : State → Prop} {ls : Array Slot} {i : Nat} {c : CX} {M : JX} {H : Heap} {locs : List Loc} (C : LW p s m cd G b L xs) (hR : Rel c M) (hi : i + 4 ≤ L) (hl : lv_has ls 4 [(3, .int (nI i)), (2, .ref (d 0)), (1, .ref (a 0)), (0, .ref b)]) (hP : va_P G.1 vwCl (WL G a d c M) H) (hD : va_D (fun q => s.heap.size ≤ q) (WL G a d c M)) (hS : va_S (fun q => s.heap.size ≤ q) s.heap H locs) (kk : ∀ (c : CX) (M : JX) (H : Heap) (locs : List Loc), Rel c M → va_P G.1 vwCl (WL G a d c M) H → va_D (fun q => s.heap.size ≤ q) (WL G a d c M) → va_S (fun q => s.heap.size ≤ q) s.heap H locs → W p l e room_1 s m #[Value.ref b] below meth cd H locs 74 1158 Q (F0 m 943 ls [])) : W p l e room_1 s m #[Value.ref b] below meth cd H locs 74 1158 Q (F0 m 784 ls []) := by
  obtain ⟨hx, hb, hml, hown, hts, hX, hbl, hK, hN, hF, hL⟩ := C
  have hA : ∀ q : Nat, s.heap.size ≤ q → (fun q => s.heap.size ≤ q) q := fun _ h => h
  have hbA : ¬ (fun q => s.heap.size ≤ q) b := Nat.not_le.mpr hbl
  refine lv_aload_n hx hb dL_law_784 rfl (lv_at hl 2 rfl) ?_
  refine lv_aload_n hx hb dL_law_785 rfl (lv_at hl 3 rfl) ?_
  refine lv_iload_n hx hb dL_law_786 rfl (lv_at hl 0 rfl) ?_
  refine lv_iconst (v := 1) hx hb dL_law_787 (by decide) ?_
  refine wk_iadd (x := i) (y := 1) hx hb dL_law_788 ?_
  refine wk_sld (i := i + 1) hx hb hX hbl hbA hS (by omega) (by omega) dL_law_789 ?_
  refine lv_aload_n hx hb dL_law_790 rfl (lv_at hl 3 rfl) ?_
  refine lv_iload_n hx hb dL_law_791 rfl (lv_at hl 0 rfl) ?_
  refine lv_iconst (v := 2) hx hb dL_law_792 (by decide) ?_
  refine wk_iadd (x := i) (y := 2) hx hb dL_law_793 ?_
  refine wk_sld (i := i + 2) hx hb hX hbl hbA hS (by omega) (by omega) dL_law_794 ?_
  refine lv_aload_n hx hb dL_law_795 rfl (lv_at hl 3 rfl) ?_
  refine lv_iload_n hx hb dL_law_796 rfl (lv_at hl 0 rfl) ?_
  refine lv_iconst (v := 3) hx hb dL_law_797 (by decide) ?_
  refine wk_iadd (x := i) (y := 3) hx hb dL_law_798 ?_
  refine wk_sld (i := i + 3) hx hb hX hbl hbA hS (by omega) (by omega) dL_law_799 ?_
  refine wk_read (va_runV (As := [.int (xs (i + 1)), .int (xs (i + 2)), .int (xs (i + 3))]) (rest := []) ⟨hx, hb, hml, hown, hts⟩ (c_X7_odds l G a c hR.R (xs (i + 1)) (xs (i + 2)) (xs (i + 3))) (cwV 3 hts gL_law_X7_odds rfl rfl rfl hdV_X7_odds ⟨Nat.le_of_ble_eq_true rfl, Nat.le_of_ble_eq_true rfl⟩) (PreW.pre (W0 := WR G a c) ⟨wr_left hP, hK, hN⟩ (ci := 7) (q0 := 0) rfl rfl) rfl rfl hl.1 rfl (lv_room (Nat.le_of_ble_eq_true rfl)) dL_law_800 ⟨Nat.le_of_ble_eq_true rfl, Nat.le_of_ble_eq_true rfl⟩) ?_
  refine W.eq (g2 := F0 m 803 ls [.int (xOdds c (xs (i + 1)) (xs (i + 2)) (xs (i + 3)))]) rfl ?_
  refine lv_aload_n hx hb dL_law_803 rfl (lv_at hl 1 rfl) ?_
  refine lv_aload_n hx hb dL_law_804 rfl (lv_at hl 3 rfl) ?_
  refine lv_iload_n hx hb dL_law_805 rfl (lv_at hl 0 rfl) ?_
  refine lv_iconst (v := 1) hx hb dL_law_806 (by decide) ?_
  refine wk_iadd (x := i) (y := 1) hx hb dL_law_807 ?_
  refine wk_sld (i := i + 1) hx hb hX hbl hbA hS (by omega) (by omega) dL_law_808 ?_
  refine lv_aload_n hx hb dL_law_809 rfl (lv_at hl 3 rfl) ?_
  refine lv_iload_n hx hb dL_law_810 rfl (lv_at hl 0 rfl) ?_
  refine lv_iconst (v := 2) hx hb dL_law_811 (by decide) ?_
  refine wk_iadd (x := i) (y := 2) hx hb dL_law_812 ?_
  refine wk_sld (i := i + 2) hx hb hX hbl hbA hS (by omega) (by omega) dL_law_813 ?_
  refine lv_aload_n hx hb dL_law_814 rfl (lv_at hl 3 rfl) ?_
  refine lv_iload_n hx hb dL_law_815 rfl (lv_at hl 0 rfl) ?_
  refine lv_iconst (v := 3) hx hb dL_law_816 (by decide) ?_
  refine wk_iadd (x := i) (y := 3) hx hb dL_law_817 ?_
  refine wk_sld (i := i + 3) hx hb hX hbl hbA hS (by omega) (by omega) dL_law_818 ?_
  refine wk_callR (va_runV (As := [.int (xs (i + 1)), .int (xs (i + 2)), .int (xs (i + 3))]) (rest := [.int (xOdds c (xs (i + 1)) (xs (i + 2)) (xs (i + 3)))]) ⟨hx, hb, hml, hown, hts⟩ (c_X8_odds l G d M hR.J (xs (i + 1)) (xs (i + 2)) (xs (i + 3))  H.size) (cwV 3 hts gL_law_X8_odds rfl rfl rfl hdV_X8_odds ⟨Nat.le_of_ble_eq_true rfl, Nat.le_of_ble_eq_true rfl⟩) ((PreM.mk (va_P_right hP) hK hN (va_D_right hD)).pre (ci := 8) (q0 := 0) rfl (WM_0 G d M)) rfl rfl hl.1 rfl (lv_room (Nat.le_of_ble_eq_true rfl)) dL_law_819 ⟨Nat.le_of_ble_eq_true rfl, Nat.le_of_ble_eq_true rfl⟩) hP hD hS hA WM_fst (fun H locs hP hD hS => ?_)
  refine W.eq (g2 := F0 m 822 ls [.int ((yOdds M (xs (i + 1)) (xs (i + 2)) (xs (i + 3))).1), .int (xOdds c (xs (i + 1)) (xs (i + 2)) (xs (i + 3)))]) rfl ?_
  have h9 := e_odds hR (xs (i + 1)) (xs (i + 2)) (xs (i + 3))
  refine lv_icmp_eq (tgt := 943) hx hb dL_law_822 (by decide) (fun _ => ?_) (fun h => absurd h9.1 h)
  exact kk _ _ H locs h9.2 hP hD hS
set_option maxHeartbeats 1000000 in
set_option maxRecDepth 100000 in
theorem law_rate {p : Program} {l : Launch} {e : Env} {s : State} {m : MethodId} {below : List Frame} {meth : Method} {cd : Code} {b L : Nat} {xs : Nat → Int32} {G : GG} {a d : Nat → Nat} {Q : State → Prop} {ls : Array Slot} {i : Nat} {c : CX} {M : JX} {H : Heap} {locs : List Loc} (C : LW p s m cd G b L xs) (hR : Rel c M) (hi : i + 4 ≤ L) (hl : lv_has ls 4 [(3, .int (nI i)), (2, .ref (d 0)), (1, .ref (a 0)), (0, .ref b)]) (hP : va_P G.1 vwCl (WL G a d c M) H) (hD : va_D (fun q => s.heap.size ≤ q) (WL G a d c M)) (hS : va_S (fun q => s.heap.size ≤ q) s.heap H locs) (kk : ∀ (c : CX) (M : JX) (H : Heap) (locs : List Loc), Rel c M → va_P G.1 vwCl (WL G a d c M) H → va_D (fun q => s.heap.size ≤ q) (WL G a d c M) → va_S (fun q => s.heap.size ≤ q) s.heap H locs → W p l e room_1 s m #[Value.ref b] below meth cd H locs 74 1158 Q (F0 m 943 ls [])) : W p l e room_1 s m #[Value.ref b] below meth cd H locs 74 1158 Q (F0 m 827 ls []) := by
  obtain ⟨hx, hb, hml, hown, hts, hX, hbl, hK, hN, hF, hL⟩ := C
  have hA : ∀ q : Nat, s.heap.size ≤ q → (fun q => s.heap.size ≤ q) q := fun _ h => h
  have hbA : ¬ (fun q => s.heap.size ≤ q) b := Nat.not_le.mpr hbl
  refine lv_aload_n hx hb dL_law_827 rfl (lv_at hl 2 rfl) ?_
  refine lv_aload_n hx hb dL_law_828 rfl (lv_at hl 3 rfl) ?_
  refine lv_iload_n hx hb dL_law_829 rfl (lv_at hl 0 rfl) ?_
  refine lv_iconst (v := 1) hx hb dL_law_830 (by decide) ?_
  refine wk_iadd (x := i) (y := 1) hx hb dL_law_831 ?_
  refine wk_sld (i := i + 1) hx hb hX hbl hbA hS (by omega) (by omega) dL_law_832 ?_
  refine lv_aload_n hx hb dL_law_833 rfl (lv_at hl 3 rfl) ?_
  refine lv_iload_n hx hb dL_law_834 rfl (lv_at hl 0 rfl) ?_
  refine lv_iconst (v := 2) hx hb dL_law_835 (by decide) ?_
  refine wk_iadd (x := i) (y := 2) hx hb dL_law_836 ?_
  refine wk_sld (i := i + 2) hx hb hX hbl hbA hS (by omega) (by omega) dL_law_837 ?_
  refine wk_callL (va_runV (As := [.int (xs (i + 1)), .int (xs (i + 2))]) (rest := []) ⟨hx, hb, hml, hown, hts⟩ (c_X7_rate l G a c hR.R (xs (i + 1)) (xs (i + 2))  H.size) (cwV 2 hts gL_law_X7_rate rfl rfl rfl hdV_X7_rate ⟨Nat.le_of_ble_eq_true rfl, Nat.le_of_ble_eq_true rfl⟩) ((PreM.mk (va_P_left hP) hK hN (va_D_left hD)).pre (ci := 7) (q0 := 0) rfl (WX_0 G a c)) rfl rfl hl.1 rfl (lv_room (Nat.le_of_ble_eq_true rfl)) dL_law_838 ⟨Nat.le_of_ble_eq_true rfl, Nat.le_of_ble_eq_true rfl⟩) hP hD hS hA WX_fst (fun H locs hP hD hS => ?_)
  refine W.eq (g2 := F0 m 841 ls [.int ((xRate c (xs (i + 1)) (xs (i + 2))).1)]) rfl ?_
  refine lv_aload_n hx hb dL_law_841 rfl (lv_at hl 1 rfl) ?_
  refine lv_aload_n hx hb dL_law_842 rfl (lv_at hl 3 rfl) ?_
  refine lv_iload_n hx hb dL_law_843 rfl (lv_at hl 0 rfl) ?_
  refine lv_iconst (v := 1) hx hb dL_law_844 (by decide) ?_
  refine wk_iadd (x := i) (y := 1) hx hb dL_law_845 ?_
  refine wk_sld (i := i + 1) hx hb hX hbl hbA hS (by omega) (by omega) dL_law_846 ?_
  refine lv_aload_n hx hb dL_law_847 rfl (lv_at hl 3 rfl) ?_
  refine lv_iload_n hx hb dL_law_848 rfl (lv_at hl 0 rfl) ?_
  refine lv_iconst (v := 2) hx hb dL_law_849 (by decide) ?_
  refine wk_iadd (x := i) (y := 2) hx hb dL_law_850 ?_
  refine wk_sld (i := i + 2) hx hb hX hbl hbA hS (by omega) (by omega) dL_law_851 ?_
  refine wk_callR (va_runV (As := [.int (xs (i + 1)), .int (xs (i + 2))]) (rest := [.int ((xRate c (xs (i + 1)) (xs (i + 2))).1)]) ⟨hx, hb, hml, hown, hts⟩ (c_X8_rate l G d M hR.J (xs (i + 1)) (xs (i + 2))  H.size) (cwV 2 hts gL_law_X8_rate rfl rfl rfl hdV_X8_rate ⟨Nat.le_of_ble_eq_true rfl, Nat.le_of_ble_eq_true rfl⟩) ((PreM.mk (va_P_right hP) hK hN (va_D_right hD)).pre (ci := 8) (q0 := 0) rfl (WM_0 G d M)) rfl rfl hl.1 rfl (lv_room (Nat.le_of_ble_eq_true rfl)) dL_law_852 ⟨Nat.le_of_ble_eq_true rfl, Nat.le_of_ble_eq_true rfl⟩) hP hD hS hA WM_fst (fun H locs hP hD hS => ?_)
  refine W.eq (g2 := F0 m 855 ls [.int ((yRate M (xs (i + 1)) (xs (i + 2))).1), .int ((xRate c (xs (i + 1)) (xs (i + 2))).1)]) rfl ?_
  have h9 := e_rate hR (xs (i + 1)) (xs (i + 2))
  refine lv_icmp_eq (tgt := 943) hx hb dL_law_855 (by decide) (fun _ => ?_) (fun h => absurd h9.1 h)
  exact kk _ _ H locs h9.2 hP hD hS
set_option maxHeartbeats 1000000 in
set_option maxRecDepth 100000 in
theorem law_keep {p : Program} {l : Launch} {e : Env} {s : State} {m : MethodId} {below : List Frame} {meth : Method} {cd : Code} {b L : Nat} {xs : Nat → Int32} {G : GG} {a d : Nat → Nat} {Q : State → Prop} {ls : Array Slot} {i : Nat} {c : CX} {M : JX} {H : Heap} {locs : List Loc} (C : LW p s m cd G b L xs) (hR : Rel c M) (hi : i + 4 ≤ L) (hl : lv_has ls 4 [(3, .int (nI i)), (2, .ref (d 0)), (1, .ref (a 0)), (0, .ref b)]) (hP : va_P G.1 vwCl (WL G a d c M) H) (hD : va_D (fun q => s.heap.size ≤ q) (WL G a d c M)) (hS : va_S (fun q => s.heap.size ≤ q) s.heap H locs) (kk : ∀ (c : CX) (M : JX) (H : Heap) (locs : List Loc), Rel c M → va_P G.1 vwCl (WL G a d c M) H → va_D (fun q => s.heap.size ≤ q) (WL G a d c M) → va_S (fun q => s.heap.size ≤ q) s.heap H locs → W p l e room_1 s m #[Value.ref b] below meth cd H locs 74 1158 Q (F0 m 943 ls [])) : W p l e room_1 s m #[Value.ref b] below meth cd H locs 74 1158 Q (F0 m 860 ls []) := by
  obtain ⟨hx, hb, hml, hown, hts, hX, hbl, hK, hN, hF, hL⟩ := C
  have hA : ∀ q : Nat, s.heap.size ≤ q → (fun q => s.heap.size ≤ q) q := fun _ h => h
  have hbA : ¬ (fun q => s.heap.size ≤ q) b := Nat.not_le.mpr hbl
  refine lv_aload_n hx hb dL_law_860 rfl (lv_at hl 2 rfl) ?_
  refine lv_aload_n hx hb dL_law_861 rfl (lv_at hl 3 rfl) ?_
  refine lv_iload_n hx hb dL_law_862 rfl (lv_at hl 0 rfl) ?_
  refine lv_iconst (v := 1) hx hb dL_law_863 (by decide) ?_
  refine wk_iadd (x := i) (y := 1) hx hb dL_law_864 ?_
  refine wk_sld (i := i + 1) hx hb hX hbl hbA hS (by omega) (by omega) dL_law_865 ?_
  refine wk_callL (va_runV (As := [.int (xs (i + 1))]) (rest := []) ⟨hx, hb, hml, hown, hts⟩ (c_X7_keep l G a c hR.R (xs (i + 1))  H.size) (cwV 1 hts gL_law_X7_keep rfl rfl rfl hdV_X7_keep ⟨Nat.le_of_ble_eq_true rfl, Nat.le_of_ble_eq_true rfl⟩) ((PreM.mk (va_P_left hP) hK hN (va_D_left hD)).pre (ci := 7) (q0 := 0) rfl (WX_0 G a c)) rfl rfl hl.1 rfl (lv_room (Nat.le_of_ble_eq_true rfl)) dL_law_866 ⟨Nat.le_of_ble_eq_true rfl, Nat.le_of_ble_eq_true rfl⟩) hP hD hS hA WX_fst (fun H locs hP hD hS => ?_)
  refine W.eq (g2 := F0 m 869 ls [.int ((xKeep c (xs (i + 1))).1)]) rfl ?_
  refine lv_aload_n hx hb dL_law_869 rfl (lv_at hl 1 rfl) ?_
  refine lv_aload_n hx hb dL_law_870 rfl (lv_at hl 3 rfl) ?_
  refine lv_iload_n hx hb dL_law_871 rfl (lv_at hl 0 rfl) ?_
  refine lv_iconst (v := 1) hx hb dL_law_872 (by decide) ?_
  refine wk_iadd (x := i) (y := 1) hx hb dL_law_873 ?_
  refine wk_sld (i := i + 1) hx hb hX hbl hbA hS (by omega) (by omega) dL_law_874 ?_
  refine wk_callR (va_runV (As := [.int (xs (i + 1))]) (rest := [.int ((xKeep c (xs (i + 1))).1)]) ⟨hx, hb, hml, hown, hts⟩ (c_X8_keep l G d M hR.J (xs (i + 1))  H.size) (cwV 1 hts gL_law_X8_keep rfl rfl rfl hdV_X8_keep ⟨Nat.le_of_ble_eq_true rfl, Nat.le_of_ble_eq_true rfl⟩) ((PreM.mk (va_P_right hP) hK hN (va_D_right hD)).pre (ci := 8) (q0 := 0) rfl (WM_0 G d M)) rfl rfl hl.1 rfl (lv_room (Nat.le_of_ble_eq_true rfl)) dL_law_875 ⟨Nat.le_of_ble_eq_true rfl, Nat.le_of_ble_eq_true rfl⟩) hP hD hS hA WM_fst (fun H locs hP hD hS => ?_)
  refine W.eq (g2 := F0 m 878 ls [.int ((yKeep M (xs (i + 1))).1), .int ((xKeep c (xs (i + 1))).1)]) rfl ?_
  have h9 := e_keep hR (xs (i + 1))
  refine lv_icmp_eq (tgt := 943) hx hb dL_law_878 (by decide) (fun _ => ?_) (fun h => absurd h9.1 h)
  exact kk _ _ H locs h9.2 hP hD hS
set_option maxHeartbeats 1000000 in
set_option maxRecDepth 100000 in
theorem law_back {p : Program} {l : Launch} {e : Env} {s : State} {m : MethodId} {below : List Frame} {meth : Method} {cd : Code} {b L : Nat} {xs : Nat → Int32} {G : GG} {a d : Nat → Nat} {Q : State → Prop} {ls : Array Slot} {i : Nat} {c : CX} {M : JX} {H : Heap} {locs : List Loc} (C : LW p s m cd G b L xs) (hR : Rel c M) (hi : i + 4 ≤ L) (hl : lv_has ls 4 [(3, .int (nI i)), (2, .ref (d 0)), (1, .ref (a 0)), (0, .ref b)]) (hP : va_P G.1 vwCl (WL G a d c M) H) (hD : va_D (fun q => s.heap.size ≤ q) (WL G a d c M)) (hS : va_S (fun q => s.heap.size ≤ q) s.heap H locs) (kk : ∀ (c : CX) (M : JX) (H : Heap) (locs : List Loc), Rel c M → va_P G.1 vwCl (WL G a d c M) H → va_D (fun q => s.heap.size ≤ q) (WL G a d c M) → va_S (fun q => s.heap.size ≤ q) s.heap H locs → W p l e room_1 s m #[Value.ref b] below meth cd H locs 74 1158 Q (F0 m 943 ls [])) : W p l e room_1 s m #[Value.ref b] below meth cd H locs 74 1158 Q (F0 m 883 ls []) := by
  obtain ⟨hx, hb, hml, hown, hts, hX, hbl, hK, hN, hF, hL⟩ := C
  have hA : ∀ q : Nat, s.heap.size ≤ q → (fun q => s.heap.size ≤ q) q := fun _ h => h
  have hbA : ¬ (fun q => s.heap.size ≤ q) b := Nat.not_le.mpr hbl
  refine lv_aload_n hx hb dL_law_883 rfl (lv_at hl 2 rfl) ?_
  refine lv_aload_n hx hb dL_law_884 rfl (lv_at hl 3 rfl) ?_
  refine lv_iload_n hx hb dL_law_885 rfl (lv_at hl 0 rfl) ?_
  refine lv_iconst (v := 1) hx hb dL_law_886 (by decide) ?_
  refine wk_iadd (x := i) (y := 1) hx hb dL_law_887 ?_
  refine wk_sld (i := i + 1) hx hb hX hbl hbA hS (by omega) (by omega) dL_law_888 ?_
  refine wk_callL (va_runV (As := [.int (xs (i + 1))]) (rest := []) ⟨hx, hb, hml, hown, hts⟩ (c_X7_back l G a c hR.R (xs (i + 1))  H.size) (cwV 1 hts gL_law_X7_back rfl rfl rfl hdV_X7_back ⟨Nat.le_of_ble_eq_true rfl, Nat.le_of_ble_eq_true rfl⟩) ((PreM.mk (va_P_left hP) hK hN (va_D_left hD)).pre (ci := 7) (q0 := 0) rfl (WX_0 G a c)) rfl rfl hl.1 rfl (lv_room (Nat.le_of_ble_eq_true rfl)) dL_law_889 ⟨Nat.le_of_ble_eq_true rfl, Nat.le_of_ble_eq_true rfl⟩) hP hD hS hA WX_fst (fun H locs hP hD hS => ?_)
  refine W.eq (g2 := F0 m 892 ls [.int ((xBack c (xs (i + 1))).1)]) rfl ?_
  refine lv_aload_n hx hb dL_law_892 rfl (lv_at hl 1 rfl) ?_
  refine lv_aload_n hx hb dL_law_893 rfl (lv_at hl 3 rfl) ?_
  refine lv_iload_n hx hb dL_law_894 rfl (lv_at hl 0 rfl) ?_
  refine lv_iconst (v := 1) hx hb dL_law_895 (by decide) ?_
  refine wk_iadd (x := i) (y := 1) hx hb dL_law_896 ?_
  refine wk_sld (i := i + 1) hx hb hX hbl hbA hS (by omega) (by omega) dL_law_897 ?_
  refine wk_callR (va_runV (As := [.int (xs (i + 1))]) (rest := [.int ((xBack c (xs (i + 1))).1)]) ⟨hx, hb, hml, hown, hts⟩ (c_X8_back l G d M hR.J (xs (i + 1))  H.size) (cwV 1 hts gL_law_X8_back rfl rfl rfl hdV_X8_back ⟨Nat.le_of_ble_eq_true rfl, Nat.le_of_ble_eq_true rfl⟩) ((PreM.mk (va_P_right hP) hK hN (va_D_right hD)).pre (ci := 8) (q0 := 0) rfl (WM_0 G d M)) rfl rfl hl.1 rfl (lv_room (Nat.le_of_ble_eq_true rfl)) dL_law_898 ⟨Nat.le_of_ble_eq_true rfl, Nat.le_of_ble_eq_true rfl⟩) hP hD hS hA WM_fst (fun H locs hP hD hS => ?_)
  refine W.eq (g2 := F0 m 901 ls [.int ((yBack M (xs (i + 1))).1), .int ((xBack c (xs (i + 1))).1)]) rfl ?_
  have h9 := e_back hR (xs (i + 1))
  refine lv_icmp_eq (tgt := 943) hx hb dL_law_901 (by decide) (fun _ => ?_) (fun h => absurd h9.1 h)
  exact kk _ _ H locs h9.2 hP hD hS
set_option maxHeartbeats 1000000 in
set_option maxRecDepth 100000 in
theorem law_count {p : Program} {l : Launch} {e : Env} {s : State} {m : MethodId} {below : List Frame} {meth : Method} {cd : Code} {b L : Nat} {xs : Nat → Int32} {G : GG} {a d : Nat → Nat} {Q : State → Prop} {ls : Array Slot} {i : Nat} {c : CX} {M : JX} {H : Heap} {locs : List Loc} (C : LW p s m cd G b L xs) (hR : Rel c M) (hi : i + 4 ≤ L) (hl : lv_has ls 4 [(3, .int (nI i)), (2, .ref (d 0)), (1, .ref (a 0)), (0, .ref b)]) (hP : va_P G.1 vwCl (WL G a d c M) H) (hD : va_D (fun q => s.heap.size ≤ q) (WL G a d c M)) (hS : va_S (fun q => s.heap.size ≤ q) s.heap H locs) (kk : ∀ (c : CX) (M : JX) (H : Heap) (locs : List Loc), Rel c M → va_P G.1 vwCl (WL G a d c M) H → va_D (fun q => s.heap.size ≤ q) (WL G a d c M) → va_S (fun q => s.heap.size ≤ q) s.heap H locs → W p l e room_1 s m #[Value.ref b] below meth cd H locs 74 1158 Q (F0 m 943 ls [])) : W p l e room_1 s m #[Value.ref b] below meth cd H locs 74 1158 Q (F0 m 906 ls []) := by
  obtain ⟨hx, hb, hml, hown, hts, hX, hbl, hK, hN, hF, hL⟩ := C
  have hA : ∀ q : Nat, s.heap.size ≤ q → (fun q => s.heap.size ≤ q) q := fun _ h => h
  have hbA : ¬ (fun q => s.heap.size ≤ q) b := Nat.not_le.mpr hbl
  refine lv_aload_n hx hb dL_law_906 rfl (lv_at hl 2 rfl) ?_
  refine lv_aload_n hx hb dL_law_907 rfl (lv_at hl 3 rfl) ?_
  refine lv_iload_n hx hb dL_law_908 rfl (lv_at hl 0 rfl) ?_
  refine lv_iconst (v := 1) hx hb dL_law_909 (by decide) ?_
  refine wk_iadd (x := i) (y := 1) hx hb dL_law_910 ?_
  refine wk_sld (i := i + 1) hx hb hX hbl hbA hS (by omega) (by omega) dL_law_911 ?_
  refine wk_read (va_runV (As := [.int (xs (i + 1))]) (rest := []) ⟨hx, hb, hml, hown, hts⟩ (c_X7_count l G a c hR.R (xs (i + 1))) (cwV 1 hts gL_law_X7_count rfl rfl rfl hdV_X7_count ⟨Nat.le_of_ble_eq_true rfl, Nat.le_of_ble_eq_true rfl⟩) (PreW.pre (W0 := WR G a c) ⟨wr_left hP, hK, hN⟩ (ci := 7) (q0 := 0) rfl rfl) rfl rfl hl.1 rfl (lv_room (Nat.le_of_ble_eq_true rfl)) dL_law_912 ⟨Nat.le_of_ble_eq_true rfl, Nat.le_of_ble_eq_true rfl⟩) ?_
  refine W.eq (g2 := F0 m 915 ls [.int (xCount c (xs (i + 1)))]) rfl ?_
  refine lv_aload_n hx hb dL_law_915 rfl (lv_at hl 1 rfl) ?_
  refine lv_aload_n hx hb dL_law_916 rfl (lv_at hl 3 rfl) ?_
  refine lv_iload_n hx hb dL_law_917 rfl (lv_at hl 0 rfl) ?_
  refine lv_iconst (v := 1) hx hb dL_law_918 (by decide) ?_
  refine wk_iadd (x := i) (y := 1) hx hb dL_law_919 ?_
  refine wk_sld (i := i + 1) hx hb hX hbl hbA hS (by omega) (by omega) dL_law_920 ?_
  refine wk_callR (va_runV (As := [.int (xs (i + 1))]) (rest := [.int (xCount c (xs (i + 1)))]) ⟨hx, hb, hml, hown, hts⟩ (c_X8_count l G d M hR.J (xs (i + 1))  H.size) (cwV 1 hts gL_law_X8_count rfl rfl rfl hdV_X8_count ⟨Nat.le_of_ble_eq_true rfl, Nat.le_of_ble_eq_true rfl⟩) ((PreM.mk (va_P_right hP) hK hN (va_D_right hD)).pre (ci := 8) (q0 := 0) rfl (WM_0 G d M)) rfl rfl hl.1 rfl (lv_room (Nat.le_of_ble_eq_true rfl)) dL_law_921 ⟨Nat.le_of_ble_eq_true rfl, Nat.le_of_ble_eq_true rfl⟩) hP hD hS hA WM_fst (fun H locs hP hD hS => ?_)
  refine W.eq (g2 := F0 m 924 ls [.int ((yCount M (xs (i + 1)))), .int (xCount c (xs (i + 1)))]) rfl ?_
  refine lv_icmp_eq (tgt := 943) hx hb dL_law_924 (by decide) (fun _ => ?_) (fun h => absurd (e_count hR (xs (i + 1))) h)
  exact kk c M H locs hR hP hD hS
set_option maxHeartbeats 1000000 in
set_option maxRecDepth 100000 in
theorem law_trace {p : Program} {l : Launch} {e : Env} {s : State} {m : MethodId} {below : List Frame} {meth : Method} {cd : Code} {b L : Nat} {xs : Nat → Int32} {G : GG} {a d : Nat → Nat} {Q : State → Prop} {ls : Array Slot} {i : Nat} {c : CX} {M : JX} {H : Heap} {locs : List Loc} (C : LW p s m cd G b L xs) (hR : Rel c M) (hi : i + 4 ≤ L) (hl : lv_has ls 4 [(3, .int (nI i)), (2, .ref (d 0)), (1, .ref (a 0)), (0, .ref b)]) (hP : va_P G.1 vwCl (WL G a d c M) H) (hD : va_D (fun q => s.heap.size ≤ q) (WL G a d c M)) (hS : va_S (fun q => s.heap.size ≤ q) s.heap H locs) (kk : ∀ (c : CX) (M : JX) (H : Heap) (locs : List Loc), Rel c M → va_P G.1 vwCl (WL G a d c M) H → va_D (fun q => s.heap.size ≤ q) (WL G a d c M) → va_S (fun q => s.heap.size ≤ q) s.heap H locs → W p l e room_1 s m #[Value.ref b] below meth cd H locs 74 1158 Q (F0 m 943 ls [])) : W p l e room_1 s m #[Value.ref b] below meth cd H locs 74 1158 Q (F0 m 929 ls []) := by
  obtain ⟨hx, hb, hml, hown, hts, hX, hbl, hK, hN, hF, hL⟩ := C
  have hA : ∀ q : Nat, s.heap.size ≤ q → (fun q => s.heap.size ≤ q) q := fun _ h => h
  have hbA : ¬ (fun q => s.heap.size ≤ q) b := Nat.not_le.mpr hbl
  refine lv_aload_n hx hb dL_law_929 rfl (lv_at hl 2 rfl) ?_
  refine wk_callL (va_runV (As := []) (rest := []) ⟨hx, hb, hml, hown, hts⟩ (c_X7_trace l G a c hR.R   H.size) (cwV 0 hts gL_law_X7_trace rfl rfl rfl hdV_X7_trace ⟨Nat.le_of_ble_eq_true rfl, Nat.le_of_ble_eq_true rfl⟩) ((PreM.mk (va_P_left hP) hK hN (va_D_left hD)).pre (ci := 7) (q0 := 0) rfl (WX_0 G a c)) rfl rfl hl.1 rfl (lv_room (Nat.le_of_ble_eq_true rfl)) dL_law_930 ⟨Nat.le_of_ble_eq_true rfl, Nat.le_of_ble_eq_true rfl⟩) hP hD hS hA WX_fst (fun H locs hP hD hS => ?_)
  refine W.eq (g2 := F0 m 933 ls [.long ((cTr c))]) rfl ?_
  refine lv_aload_n hx hb dL_law_933 rfl (lv_at hl 1 rfl) ?_
  refine wk_callR (va_runV (As := []) (rest := [.long ((cTr c))]) ⟨hx, hb, hml, hown, hts⟩ (c_X8_trace l G d M hR.J   H.size) (cwV 0 hts gL_law_X8_trace rfl rfl rfl hdV_X8_trace ⟨Nat.le_of_ble_eq_true rfl, Nat.le_of_ble_eq_true rfl⟩) ((PreM.mk (va_P_right hP) hK hN (va_D_right hD)).pre (ci := 8) (q0 := 0) rfl (WM_0 G d M)) rfl rfl hl.1 rfl (lv_room (Nat.le_of_ble_eq_true rfl)) dL_law_934 ⟨Nat.le_of_ble_eq_true rfl, Nat.le_of_ble_eq_true rfl⟩) hP hD hS hA WM_fst (fun H locs hP hD hS => ?_)
  refine W.eq (g2 := F0 m 937 ls [.long ((qTr M)), .long ((cTr c))]) rfl ?_
  refine W.lcmp hx hb dL_law_937 ?_
  have e9 : lg_cmp (cTr c) (qTr M) = 0 := by rw [hR.2.2.2.1]; exact (lg_cmp_eq _ _).mpr rfl
  rw [e9]
  refine lv_if_eq (tgt := 943) hx hb dL_law_938 (by decide) (fun _ => ?_) (fun h => absurd rfl h)
  exact kk c M H locs hR hP hD hS

/-! the law: what its tables say, its loop, its start -/
theorem law_K {A : Array Value} {s : State} (hts : ∀ w ∈ lw_tbl, w.before A s = true) : ∃ G : GG, va_K G.1 vwCl (tysG G) s := by
  obtain ⟨c0, i0, h0⟩ := u_known (n := 7) hts inu_0 (hts (.instantiable RX0 7) (List.mem_of_getElem? (i := 71) (by decide +kernel)))
  obtain ⟨c1, i1, h1⟩ := u_known (n := 4) hts inu_1 (hts (.instantiable RX1 4) (List.mem_of_getElem? (i := 215) (by decide +kernel)))
  obtain ⟨c2, i2, h2⟩ := u_known (n := 7) hts inu_2 (hts (.instantiable RX2 7) (List.mem_of_getElem? (i := 151) (by decide +kernel)))
  obtain ⟨c3, i3, h3⟩ := u_known (n := 3) hts inu_3 (hts (.instantiable RX3 3) (List.mem_of_getElem? (i := 236) (by decide +kernel)))
  obtain ⟨c4, i4, h4⟩ := u_known (n := 1) hts inu_4 (hts (.instantiable RX4 1) (List.mem_of_getElem? (i := 205) (by decide +kernel)))
  obtain ⟨c5, i5, h5⟩ := u_known (n := 9) hts inu_5 (hts (.instantiable RX5 9) (List.mem_of_getElem? (i := 117) (by decide +kernel)))
  obtain ⟨c6, i6, h6⟩ := u_known (n := 2) hts inu_6 (hts (.instantiable RX6 2) (List.mem_of_getElem? (i := 191) (by decide +kernel)))
  obtain ⟨c7, i7, h7⟩ := u_known (n := 13) hts inu_7 (hts (.instantiable RX7 13) (List.mem_of_getElem? (i := 63) (by decide +kernel)))
  obtain ⟨c8, i8, h8⟩ := u_known (n := 24) hts inu_8 (hts (.instantiable RX8 24) (List.mem_of_getElem? (i := 741) (by decide +kernel)))
  obtain ⟨aC, kC, pC, aC1, aC2, aC3⟩ := Cond.arrayClass_spec (hts (.arrayClass .char) (List.mem_of_getElem? (i := 114) (by decide +kernel)))
  obtain ⟨aI, kI, pI, aI1, aI2, aI3⟩ := Cond.arrayClass_spec (hts (.arrayClass .int) (List.mem_of_getElem? (i := 115) (by decide +kernel)))
  obtain ⟨aZ, kZ, pZ, aZ1, aZ2, aZ3⟩ := Cond.arrayClass_spec (hts (.arrayClass .boolean) (List.mem_of_getElem? (i := 234) (by decide +kernel)))
  obtain ⟨pO, aO, kO, aO0, aOx, aO2, aO3, aO1⟩ := Cond.arrayOver_spec (hts (.arrayOver (.object RX2)) (List.mem_of_getElem? (i := 242) (by decide +kernel)))
  refine ⟨((fun k => match k with | 0 => c0 | 1 => c1 | 2 => c2 | 3 => c3 | 4 => c4 | 5 => c5 | 6 => c6 | 7 => c7 | _ => c8, fun k => match k with | 0 => i0 | 1 => i1 | 2 => i2 | 3 => i3 | 4 => i4 | 5 => i5 | 6 => i6 | 7 => i7 | _ => i8), aC, aI, aZ, aO), fun c q hq => ?_, fun k q hq => ?_⟩
  · have hc : c < 9 := (List.getElem?_eq_some_iff.mp hq).1
    have hc : c = 0 ∨ c = 1 ∨ c = 2 ∨ c = 3 ∨ c = 4 ∨ c = 5 ∨ c = 6 ∨ c = 7 ∨ c = 8 := by omega
    rcases hc with rfl | rfl | rfl | rfl | rfl | rfl | rfl | rfl | rfl
    · cases hq
      exact h0
    · cases hq
      exact h1
    · cases hq
      exact h2
    · cases hq
      exact h3
    · cases hq
      exact h4
    · cases hq
      exact h5
    · cases hq
      exact h6
    · cases hq
      exact h7
    · cases hq
      exact h8
  · have hc : k < 4 := (List.getElem?_eq_some_iff.mp hq).1
    have hc : k = 0 ∨ k = 1 ∨ k = 2 ∨ k = 3 := by omega
    rcases hc with rfl | rfl | rfl | rfl
    · cases hq
      exact ⟨fun n z => ⟨fun k h => (by cases h), kC, aC2, pC, aC3⟩, aC1⟩
    · cases hq
      exact ⟨fun n z => ⟨fun k h => (by cases h), kI, aI2, pI, aI3⟩, aI1⟩
    · cases hq
      exact ⟨fun n z => ⟨fun k h => (by cases h), kZ, aZ2, pZ, aZ3⟩, aZ1⟩
    · cases hq
      exact ⟨fun n z => ⟨fun k h => (by cases h), kO, aO2, pO, aO3⟩, kO, pO, aO2, aO3, aO0, aO1⟩
theorem law_N {A : Array Value} {s : State} (hts : ∀ w ∈ lw_tbl, w.before A s = true) : NW s :=
  ⟨va_Nw.of rfl (hts (.methodLinkNest RX6 40 yX7_bit RX7) (List.mem_of_getElem? (i := 411) (by decide +kernel))), va_Nw.of rfl (hts (.methodLinkNest RX6 86 yX7_isWithin RX7) (List.mem_of_getElem? (i := 594) (by decide +kernel))), va_Nw.of rfl (hts (.methodLinkNest RX4 37 yX7_isWithin RX7) (List.mem_of_getElem? (i := 523) (by decide +kernel))), va_Nw.of rfl (hts (.methodLinkNest RX4 44 yX7_bit RX7) (List.mem_of_getElem? (i := 560) (by decide +kernel))), va_Nw.of rfl (hts (.methodLinkNest RX3 24 yX2_init RX7) (List.mem_of_getElem? (i := 243) (by decide +kernel))), va_Nw.of rfl (hts (.methodLinkNest RX7 19 yX0_init RX7) (List.mem_of_getElem? (i := 72) (by decide +kernel))), va_Nw.of rfl (hts (.methodLinkNest RX7 38 yX2_init RX7) (List.mem_of_getElem? (i := 152) (by decide +kernel)))⟩
theorem law_F {A : Array Value} {s : State} (hts : ∀ w ∈ lw_tbl, w.before A s = true) (hgv : (Jvm.Cond.and given_1 narrow_1).before A s = true) : FacOk s s.heap := by
  have hs := flat_of_before _ hgv
  have ha : (Cond.arrayOf (.static RX4 "FACTORIAL" "[I") .int).before A s = true := hs _ (by decide +kernel)
  have hn : (Cond.eq (.length (.static RX4 "FACTORIAL" "[I")) (.int 8)).before A s = true := hs _ (by decide +kernel)
  have h0 : (Cond.eq (.elem (.static RX4 "FACTORIAL" "[I") (.int 0)) (.int 1)).before A s = true := hs _ (by decide +kernel)
  have h1 : (Cond.eq (.elem (.static RX4 "FACTORIAL" "[I") (.int 1)) (.int 1)).before A s = true := hs _ (by decide +kernel)
  have h2 : (Cond.eq (.elem (.static RX4 "FACTORIAL" "[I") (.int 2)) (.int 2)).before A s = true := hs _ (by decide +kernel)
  have h3 : (Cond.eq (.elem (.static RX4 "FACTORIAL" "[I") (.int 3)) (.int 6)).before A s = true := hs _ (by decide +kernel)
  have h4 : (Cond.eq (.elem (.static RX4 "FACTORIAL" "[I") (.int 4)) (.int 24)).before A s = true := hs _ (by decide +kernel)
  have h5 : (Cond.eq (.elem (.static RX4 "FACTORIAL" "[I") (.int 5)) (.int 120)).before A s = true := hs _ (by decide +kernel)
  have h6 : (Cond.eq (.elem (.static RX4 "FACTORIAL" "[I") (.int 6)) (.int 720)).before A s = true := hs _ (by decide +kernel)
  have h7 : (Cond.eq (.elem (.static RX4 "FACTORIAL" "[I") (.int 7)) (.int 5040)).before A s = true := hs _ (by decide +kernel)
  obtain ⟨t, ht, hT⟩ := va_Tof (tm := .static RX4 "FACTORIAL" "[I") (ty := .int) (N := 8) (f := fun j => .int (facT j)) (A := fun _ => False) (by omega) ha (va_eqt hn) (fun j hj => by
    have hc : j = 0 ∨ j = 1 ∨ j = 2 ∨ j = 3 ∨ j = 4 ∨ j = 5 ∨ j = 6 ∨ j = 7 := by omega
    rcases hc with rfl | rfl | rfl | rfl | rfl | rfl | rfl | rfl
    · exact va_eqt h0
    · exact va_eqt h1
    · exact va_eqt h2
    · exact va_eqt h3
    · exact va_eqt h4
    · exact va_eqt h5
    · exact va_eqt h6
    · exact va_eqt h7) (fun _ _ h => h)
  exact ⟨t, va_Zref (hts (.laysStatic RX4 "FACTORIAL" "[I") (List.mem_of_getElem? (i := 536) (by decide +kernel))) (hts (.initialized RX4) (List.mem_of_getElem? (i := 54) (by decide +kernel))) ht (fun _ _ h => h), hT⟩
theorem rel0 : Rel cx0 jx0 := by
  refine ⟨⟨rfl, Nat.zero_le 200, fun k h => absurd h (Nat.not_lt_zero k)⟩, ⟨rfl, Nat.zero_le 7, rfl, show 1 ≤ 3 by omega, show 3 ≤ 5 by omega, rfl, show 2 ≤ 9 by omega, fun t h => absurd h (Nat.not_lt_zero t)⟩, ⟨fun t h => absurd h (Nat.not_lt_zero t), fun t h => absurd h (Nat.not_lt_zero t), rfl, rfl, rfl, rfl, rfl, Sm.z _, Sm.z _, Sm.z _, 0, by omega, rfl⟩, rfl, ⟨rfl, Nat.zero_le 10, show 0 < 10 by omega, fun i h => absurd h (Nat.not_lt_zero i)⟩, fun j _ => ⟨b_0 j, fun z => by cases z⟩, ⟨rfl, Nat.zero_le 6, fun k h => absurd h (Nat.not_lt_zero k)⟩, ⟨Nat.zero_le 7, show 1 ≤ 3 by omega, show 3 ≤ 5 by omega, Nat.zero_le 200, Nat.le_refl 0, Nat.le_refl 0, Nat.zero_le 32⟩, show 0 < 2 ^ 31 by omega⟩
theorem len4 {i L : Nat} (hi : i ≤ 300) (hL : L ≤ 256) (h : ¬ nI L - 4 < nI i) : i + 4 ≤ L := by
  have h1 := Int32.not_lt.mp h
  rw [Int32.le_iff_toInt_le, nI_toInt (by omega), show (4 : Int32) = nI 4 from rfl, pk_sub_toInt (by omega) (by omega)] at h1
  omega
set_option maxHeartbeats 4000000 in
set_option maxRecDepth 100000 in
theorem law_loop {p : Program} {l : Launch} {e : Env} {s : State} {m : MethodId} {below : List Frame} {meth : Method} {cd : Code} {b L : Nat} {xs : Nat → Int32} {G : GG} {a d : Nat → Nat} {ls : Array Slot} {c : CX} {M : JX} {H : Heap} {locs : List Loc} (C : LW p s m cd G b L xs) (hr : meth.sig.returnType = ret) (hlocks : meth.locks = false) (hR : Rel c M) (hl : lv_has ls 4 [(3, .int (nI 0)), (2, .ref (d 0)), (1, .ref (a 0)), (0, .ref b)]) (hP : va_P G.1 vwCl (WL G a d c M) H) (hD : va_D (fun q => s.heap.size ≤ q) (WL G a d c M)) (hS : va_S (fun q => s.heap.size ≤ q) s.heap H locs) : W p l e room_1 s m #[Value.ref b] below meth cd H locs 74 1158 (lw_Z below #[Value.ref b] s) (F0 m 18 ls []) := by
  obtain ⟨hx, hb, hml, hown, hts, hX, hbl, hK, hN, hF, hL⟩ := id C
  have hbA : ¬ (fun q => s.heap.size ≤ q) b := Nat.not_le.mpr hbl
  refine wk_loopM (σ := Nat × CX × JX) (nL := 4) (D := G.1) (cl := vwCl) (A0 := (fun q => s.heap.size ≤ q)) (H0 := s.heap) (fun x n => match x with | (i, c, M) => Rel c M ∧ i + n = 300) (fun x => match x with | (i, c, M) => [(3, .int (nI i)), (2, .ref (d 0)), (1, .ref (a 0)), (0, .ref b)]) (fun x => match x with | (i, c, M) => WL G a d c M) (0, c, M) 300 ⟨hR, by omega⟩ hl hP hD hS ?_
  rintro n ⟨i, c, M⟩ ls H locs ⟨hR, hn⟩ hl hP hD hS ih
  have hl : lv_has ls 4 [(3, .int (nI i)), (2, .ref (d 0)), (1, .ref (a 0)), (0, .ref b)] := hl
  have hP : va_P G.1 vwCl (WL G a d c M) H := hP
  have hD : va_D (fun q => s.heap.size ≤ q) (WL G a d c M) := hD
  refine lv_iload_n hx hb dL_law_18 rfl (lv_at hl 0 rfl) ?_
  refine lv_aload_n hx hb dL_law_19 rfl (lv_at hl 3 rfl) ?_
  refine va_slen hx hb hX hbl hbA hS dL_law_20 ?_
  refine lv_iconst (v := 4) hx hb dL_law_21 (by decide) ?_
  refine lv_isub hx hb dL_law_22 ?_
  refine W.eq (g2 := F0 m 23 ls [.int (nI L - 4), .int (nI i)]) rfl ?_
  refine lv_icmp_gt (tgt := 949) hx hb dL_law_23 (by decide) (fun _ => ?_) (fun h => ?_)
  · refine va_forget hS.2.2 ?_
    refine W.widen (k := 600000) (n := 7302250) (Nat.le_of_ble_eq_true rfl) (Nat.le_of_ble_eq_true rfl) ?_
    refine lv_iconst (v := 1) hx hb dL_law_949 (by decide) ?_
    exact lw_ret hx hb hr hlocks dL_law_950
  · have hi : i + 4 ≤ L := len4 (by omega) hL h
    have kk : ∀ (c : CX) (M : JX) (H : Heap) (locs : List Loc), Rel c M → va_P G.1 vwCl (WL G a d c M) H → va_D (fun q => s.heap.size ≤ q) (WL G a d c M) → va_S (fun q => s.heap.size ≤ q) s.heap H locs → W p l e room_1 s m #[Value.ref b] below meth cd H locs 74 1158 (lw_Z below #[Value.ref b] s) (F0 m 943 ls []) := by
      intro c M H locs hR hP hD hS
      refine lv_iinc (v := nI (i + 4)) (lv' := [(3, .int (nI (i + 4))), (2, .ref (d 0)), (1, .ref (a 0)), (0, .ref b)]) hx hb dL_law_943 hl (k := 0) rfl (wk_i4 i) (by decide) rfl (fun ls hl => ?_)
      refine lv_goto (tgt := 18) hx hb dL_law_946 (by decide) ?_
      exact ih (i + 4, c, M) (n - 4) ls H locs (by omega) ⟨hR, by omega⟩ hl hP hD hS
    refine lv_aload_n hx hb dL_law_26 rfl (lv_at hl 3 rfl) ?_
    refine lv_iload_n hx hb dL_law_27 rfl (lv_at hl 0 rfl) ?_
    refine wk_sld (i := i) hx hb hX hbl hbA hS (by omega) (by omega) dL_law_28 ?_
    refine lv_bipush (v := 31) hx hb dL_law_29 (by decide) ?_
    refine lv_iand hx hb dL_law_31 ?_
    obtain ⟨k, hk, hke⟩ : ∃ k : Nat, k < 32 ∧ xs i &&& 31 = nI k := ⟨_, Nat.mod_lt _ (by decide), pk_and (xs i) (m := 31) 5 (by decide)⟩
    have hc : k = 0 ∨ k = 1 ∨ k = 2 ∨ k = 3 ∨ k = 4 ∨ k = 5 ∨ k = 6 ∨ k = 7 ∨ k = 8 ∨ k = 9 ∨ k = 10 ∨ k = 11 ∨ k = 12 ∨ k = 13 ∨ k = 14 ∨ k = 15 ∨ k = 16 ∨ k = 17 ∨ k = 18 ∨ k = 19 ∨ k = 20 ∨ k = 21 ∨ k = 22 ∨ k = 23 ∨ k = 24 ∨ k = 25 ∨ k = 26 ∨ k = 27 ∨ k = 28 ∨ k = 29 ∨ k = 30 ∨ k = 31 := by omega
    rcases hc with rfl | rfl | rfl | rfl | rfl | rfl | rfl | rfl | rfl | rfl | rfl | rfl | rfl | rfl | rfl | rfl | rfl | rfl | rfl | rfl | rfl | rfl | rfl | rfl | rfl | rfl | rfl | rfl | rfl | rfl | rfl | rfl
    · refine lv_tableIn (tgt := 176) hx hb dL_law_32 (by rw [hke]; decide) (by rw [hke]; decide) (by rw [hke]; rfl) (by decide) ?_
      exact law_type C hR hi hl hP hD hS kk
    · refine lv_tableIn (tgt := 199) hx hb dL_law_32 (by rw [hke]; decide) (by rw [hke]; decide) (by rw [hke]; rfl) (by decide) ?_
      exact law_clear C hR hi hl hP hD hS kk
    · refine lv_tableIn (tgt := 212) hx hb dL_law_32 (by rw [hke]; decide) (by rw [hke]; decide) (by rw [hke]; rfl) (by decide) ?_
      exact law_council C hR hi hl hP hD hS kk
    · refine lv_tableIn (tgt := 225) hx hb dL_law_32 (by rw [hke]; decide) (by rw [hke]; decide) (by rw [hke]; rfl) (by decide) ?_
      exact law_thing C hR hi hl hP hD hS kk
    · refine lv_tableIn (tgt := 258) hx hb dL_law_32 (by rw [hke]; decide) (by rw [hke]; decide) (by rw [hke]; rfl) (by decide) ?_
      exact law_officer C hR hi hl hP hD hS kk
    · refine lv_tableIn (tgt := 291) hx hb dL_law_32 (by rw [hke]; decide) (by rw [hke]; decide) (by rw [hke]; rfl) (by decide) ?_
      exact law_bill C hR hi hl hP hD hS kk
    · refine lv_tableIn (tgt := 324) hx hb dL_law_32 (by rw [hke]; decide) (by rw [hke]; decide) (by rw [hke]; rfl) (by decide) ?_
      exact law_now C hR hi hl hP hD hS kk
    · refine lv_tableIn (tgt := 347) hx hb dL_law_32 (by rw [hke]; decide) (by rw [hke]; decide) (by rw [hke]; rfl) (by decide) ?_
      exact law_puts C hR hi hl hP hD hS kk
    · refine lv_tableIn (tgt := 370) hx hb dL_law_32 (by rw [hke]; decide) (by rw [hke]; decide) (by rw [hke]; rfl) (by decide) ?_
      exact law_hands C hR hi hl hP hD hS kk
    · refine lv_tableIn (tgt := 403) hx hb dL_law_32 (by rw [hke]; decide) (by rw [hke]; decide) (by rw [hke]; rfl) (by decide) ?_
      exact law_washes C hR hi hl hP hD hS kk
    · refine lv_tableIn (tgt := 426) hx hb dL_law_32 (by rw [hke]; decide) (by rw [hke]; decide) (by rw [hke]; rfl) (by decide) ?_
      exact law_hangs C hR hi hl hP hD hS kk
    · refine lv_tableIn (tgt := 449) hx hb dL_law_32 (by rw [hke]; decide) (by rw [hke]; decide) (by rw [hke]; rfl) (by decide) ?_
      exact law_warms C hR hi hl hP hD hS kk
    · refine lv_tableIn (tgt := 472) hx hb dL_law_32 (by rw [hke]; decide) (by rw [hke]; decide) (by rw [hke]; rfl) (by decide) ?_
      exact law_sickens C hR hi hl hP hD hS kk
    · refine lv_tableIn (tgt := 505) hx hb dL_law_32 (by rw [hke]; decide) (by rw [hke]; decide) (by rw [hke]; rfl) (by decide) ?_
      exact law_undo C hR hi hl hP hD hS kk
    · refine lv_tableIn (tgt := 518) hx hb dL_law_32 (by rw [hke]; decide) (by rw [hke]; decide) (by rw [hke]; rfl) (by decide) ?_
      exact law_power C hR hi hl hP hD hS kk
    · refine lv_tableIn (tgt := 551) hx hb dL_law_32 (by rw [hke]; decide) (by rw [hke]; decide) (by rw [hke]; rfl) (by decide) ?_
      exact law_least C hR hi hl hP hD hS kk
    · refine lv_tableIn (tgt := 574) hx hb dL_law_32 (by rw [hke]; decide) (by rw [hke]; decide) (by rw [hke]; rfl) (by decide) ?_
      exact law_dummies C hR hi hl hP hD hS kk
    · refine lv_tableIn (tgt := 587) hx hb dL_law_32 (by rw [hke]; decide) (by rw [hke]; decide) (by rw [hke]; rfl) (by decide) ?_
      exact law_sways C hR hi hl hP hD hS kk
    · refine lv_tableIn (tgt := 610) hx hb dL_law_32 (by rw [hke]; decide) (by rw [hke]; decide) (by rw [hke]; rfl) (by decide) ?_
      exact law_free C hR hi hl hP hD hS kk
    · refine lv_tableIn (tgt := 623) hx hb dL_law_32 (by rw [hke]; decide) (by rw [hke]; decide) (by rw [hke]; rfl) (by decide) ?_
      exact law_turn C hR hi hl hP hD hS kk
    · refine lv_tableIn (tgt := 646) hx hb dL_law_32 (by rw [hke]; decide) (by rw [hke]; decide) (by rw [hke]; rfl) (by decide) ?_
      exact law_hand C hR hi hl hP hD hS kk
    · refine lv_tableIn (tgt := 669) hx hb dL_law_32 (by rw [hke]; decide) (by rw [hke]; decide) (by rw [hke]; rfl) (by decide) ?_
      exact law_swaps C hR hi hl hP hD hS kk
    · refine lv_tableIn (tgt := 692) hx hb dL_law_32 (by rw [hke]; decide) (by rw [hke]; decide) (by rw [hke]; rfl) (by decide) ?_
      exact law_record C hR hi hl hP hD hS kk
    · refine lv_tableIn (tgt := 725) hx hb dL_law_32 (by rw [hke]; decide) (by rw [hke]; decide) (by rw [hke]; rfl) (by decide) ?_
      exact law_forget C hR hi hl hP hD hS kk
    · refine lv_tableIn (tgt := 738) hx hb dL_law_32 (by rw [hke]; decide) (by rw [hke]; decide) (by rw [hke]; rfl) (by decide) ?_
      exact law_isFor C hR hi hl hP hD hS kk
    · refine lv_tableIn (tgt := 771) hx hb dL_law_32 (by rw [hke]; decide) (by rw [hke]; decide) (by rw [hke]; rfl) (by decide) ?_
      exact law_who C hR hi hl hP hD hS kk
    · refine lv_tableIn (tgt := 784) hx hb dL_law_32 (by rw [hke]; decide) (by rw [hke]; decide) (by rw [hke]; rfl) (by decide) ?_
      exact law_odds C hR hi hl hP hD hS kk
    · refine lv_tableIn (tgt := 827) hx hb dL_law_32 (by rw [hke]; decide) (by rw [hke]; decide) (by rw [hke]; rfl) (by decide) ?_
      exact law_rate C hR hi hl hP hD hS kk
    · refine lv_tableIn (tgt := 860) hx hb dL_law_32 (by rw [hke]; decide) (by rw [hke]; decide) (by rw [hke]; rfl) (by decide) ?_
      exact law_keep C hR hi hl hP hD hS kk
    · refine lv_tableIn (tgt := 883) hx hb dL_law_32 (by rw [hke]; decide) (by rw [hke]; decide) (by rw [hke]; rfl) (by decide) ?_
      exact law_back C hR hi hl hP hD hS kk
    · refine lv_tableIn (tgt := 906) hx hb dL_law_32 (by rw [hke]; decide) (by rw [hke]; decide) (by rw [hke]; rfl) (by decide) ?_
      exact law_count C hR hi hl hP hD hS kk
    · refine lv_tableIn (tgt := 929) hx hb dL_law_32 (by rw [hke]; decide) (by rw [hke]; decide) (by rw [hke]; rfl) (by decide) ?_
      exact law_trace C hR hi hl hP hD hS kk
set_option maxHeartbeats 4000000 in
set_option maxRecDepth 100000 in
theorem whole_start {p : Program} {e : Env} {s : State} {m : MethodId} {below : List Frame} {meth : Method} {c : Code} (l : Launch) (hflags : l.flags = flags0) {b L : Nat} {xs : Nat → Int32} (hL : L ≤ 256) (C0 : lw_At p s m meth c b L xs) : W p l e room_1 s m #[Value.ref b] below meth c s.heap [] 0 0 (lw_Z below #[Value.ref b] s) (entryFrame m ([Value.ref b] : List Value).toArray 4) := by
  obtain ⟨hx, hb, hr, hml, hown, hts0, hX, hbl, hlocks, hgv⟩ := C0
  have hts : ∀ w ∈ wsL_law, w.before #[Value.ref b] s = true := fun w hw => hts0 w (wsL_law_in w hw)
  obtain ⟨G, hK⟩ := law_K hts0
  have hN := law_N hts0
  have hF := law_F hts0 hgv
  have hO : va_AO RX2 s := va_AO.of (hts0 (.arrayOver (.object RX2)) (List.mem_of_getElem? (i := 242) (by decide +kernel)))
  have hown : s.vm.findClass RL = some m.cls := hown
  have C : LW p s m c G b L xs := ⟨hx, hb, hml, hown, hts, hX, hbl, hK, hN, hF, hL⟩
  have hA : ∀ q : Nat, s.heap.size ≤ q → (fun q => s.heap.size ≤ q) q := fun _ h => h
  have hS : va_S (fun q => s.heap.size ≤ q) s.heap s.heap [] := va_S.rf
  have hP : va_P G.1 vwCl [] s.heap := fun k q h => by cases h
  have hD : va_D (fun q => s.heap.size ≤ q) [] := ⟨fun i j p q h => (by cases h), fun k q h => (by cases h)⟩
  refine wk_enter (n := 4) (Nat.le_of_ble_eq_true rfl) (fun ls hl => ?_)
  have hl : lv_has ls 4 [(0, .ref b)] := hl
  refine va_new (ci := 7) (fs := [.null, .int 0, .null, .null, .null, .null, .null, .null, .null, .null, .null, .int 0, .long 0]) (C := RX7) (T := TX7) (N := 13) hx hb hts inlX7 tyX7 tyX7_ok hown (hts (.classLink RL 7 RX7) (List.mem_of_getElem? (i := 0) (by decide +kernel))) (hts (.instantiable RX7 13) (List.mem_of_getElem? (i := 1) (by decide +kernel))) (hts (.initialized RX7) (List.mem_of_getElem? (i := 2) (by decide +kernel))) hK hP hD hS hA rfl (fun j hj => by rcases (show j = 0 ∨ j = 1 ∨ j = 2 ∨ j = 3 ∨ j = 4 ∨ j = 5 ∨ j = 6 ∨ j = 7 ∨ j = 8 ∨ j = 9 ∨ j = 10 ∨ j = 11 ∨ j = 12 by omega) with rfl | rfl | rfl | rfl | rfl | rfl | rfl | rfl | rfl | rfl | rfl | rfl | rfl <;> rfl) (Nat.le_of_ble_eq_true rfl) (Nat.le_of_ble_eq_true rfl) dL_law_0 (fun x H hP hD hS => ?_)
  refine W.widen (k := 1) (n := 13) (Nat.le_of_ble_eq_true rfl) (Nat.le_of_ble_eq_true rfl) ?_
  refine lv_dup hx hb dL_law_3 rfl ?_
  refine wk_ctorR (va_runI (As := []) (rest := [.ref x]) ⟨hx, hb, hml, hown, hts⟩ (c_X7_init l G x H.size) (cwI 0 hts gL_law_X7_init rfl rfl rfl (hts (.initialized RX7) (List.mem_of_getElem? (i := 2) (by decide +kernel))) (hts (.methodLink RL 9 yX7_init) (List.mem_of_getElem? (i := 6) (by decide +kernel))) (hts (.instanceMethod yX7_init) (List.mem_of_getElem? (i := 7) (by decide +kernel))) rfl (by decide +kernel) ⟨Nat.le_of_ble_eq_true rfl, Nat.le_of_ble_eq_true rfl⟩) (PreK.preS ⟨PreM.mk (va_P_right hP) hK hN (va_D_right hD), hO⟩) rfl rfl hl.1 rfl (lv_room (Nat.le_of_ble_eq_true rfl)) dL_law_4 ⟨Nat.le_of_ble_eq_true rfl, Nat.le_of_ble_eq_true rfl⟩) hP hD hS hA (fun f H locs hP hD hS => ?_)
  refine W.widen (k := 60) (n := 599) (Nat.le_of_ble_eq_true rfl) (Nat.le_of_ble_eq_true rfl) ?_
  replace hP : va_P G.1 vwCl (WX G (ac x f) cx0) H := hP
  replace hD : va_D (fun q => s.heap.size ≤ q) (WX G (ac x f) cx0) := hD
  refine lv_astore_n (lv' := [(1, .ref x), (0, .ref b)]) hx hb dL_law_7 rfl hl (by decide) rfl (fun ls hl => ?_)
  refine va_new (ci := 8) (fs := [.int 0, .long 0, .null, .int 0, .int 0, .int 0, .int 0, .int 0, .int 0, .null, .null, .null, .null, .null, .int 0, .null, .null, .null, .null, .null, .int 0, .null, .null, .int 0]) (C := RX8) (T := TX8) (N := 24) hx hb hts inlX8 tyX8 tyX8_ok hown (hts (.classLink RL 10 RX8) (List.mem_of_getElem? (i := 3) (by decide +kernel))) (hts (.instantiable RX8 24) (List.mem_of_getElem? (i := 4) (by decide +kernel))) (hts (.initialized RX8) (List.mem_of_getElem? (i := 5) (by decide +kernel))) hK hP hD hS hA rfl (fun j hj => by rcases (show j = 0 ∨ j = 1 ∨ j = 2 ∨ j = 3 ∨ j = 4 ∨ j = 5 ∨ j = 6 ∨ j = 7 ∨ j = 8 ∨ j = 9 ∨ j = 10 ∨ j = 11 ∨ j = 12 ∨ j = 13 ∨ j = 14 ∨ j = 15 ∨ j = 16 ∨ j = 17 ∨ j = 18 ∨ j = 19 ∨ j = 20 ∨ j = 21 ∨ j = 22 ∨ j = 23 by omega) with rfl | rfl | rfl | rfl | rfl | rfl | rfl | rfl | rfl | rfl | rfl | rfl | rfl | rfl | rfl | rfl | rfl | rfl | rfl | rfl | rfl | rfl | rfl | rfl <;> rfl) (Nat.le_of_ble_eq_true rfl) (Nat.le_of_ble_eq_true rfl) dL_law_8 (fun y H hP hD hS => ?_)
  refine W.widen (k := 61) (n := 623) (Nat.le_of_ble_eq_true rfl) (Nat.le_of_ble_eq_true rfl) ?_
  refine lv_dup hx hb dL_law_11 rfl ?_
  refine wk_ctorR (va_runI (As := []) (rest := [.ref y]) ⟨hx, hb, hml, hown, hts⟩ (c_X8_init l G y H.size) (cwI 0 hts gL_law_X8_init rfl rfl rfl (hts (.initialized RX8) (List.mem_of_getElem? (i := 5) (by decide +kernel))) (hts (.methodLink RL 12 yX8_init) (List.mem_of_getElem? (i := 109) (by decide +kernel))) (hts (.instanceMethod yX8_init) (List.mem_of_getElem? (i := 110) (by decide +kernel))) rfl (by decide +kernel) ⟨Nat.le_of_ble_eq_true rfl, Nat.le_of_ble_eq_true rfl⟩) (PreK.preS ⟨PreM.mk (va_P_right hP) hK hN (va_D_right hD), hO⟩) rfl rfl hl.1 rfl (lv_room (Nat.le_of_ble_eq_true rfl)) dL_law_12 ⟨Nat.le_of_ble_eq_true rfl, Nat.le_of_ble_eq_true rfl⟩) hP hD hS hA (fun g H locs hP hD hS => ?_)
  refine W.widen (k := 74) (n := 1158) (Nat.le_of_ble_eq_true rfl) (Nat.le_of_ble_eq_true rfl) ?_
  refine lv_astore_n (lv' := [(2, .ref y), (1, .ref x), (0, .ref b)]) hx hb dL_law_15 rfl hl (by decide) rfl (fun ls hl => ?_)
  refine lv_iconst (v := 0) hx hb dL_law_16 (by decide) ?_
  refine lv_istore_n (lv' := [(3, .int 0), (2, .ref y), (1, .ref x), (0, .ref b)]) hx hb dL_law_17 rfl hl (by decide) rfl (fun ls hl => ?_)
  exact law_loop (a := ac x f) (d := ac y g) C hr hlocks rel0 hl hP hD hS

/-! the methods that change something -/
section EQV
variable {c : CX} {M : JX}
/-- an answer with the state behind it, on both sides -/
def Eq2 (x : Int32 × CX) (y : Int32 × JX) : Prop := x.1 = y.1 ∧ Rel x.2 y.2
theorem e_type (h : Rel c M) (u : Int32) : Eq2 (xType c u) (yType M u) := by
  obtain ⟨⟨a1, a2, a3⟩, hr⟩ := id h
  rw [xType, yType, pIn]
  by_cases q1 : u < 0
  · simp only [q1, if_true, decide_true, Bool.not_true, Bool.false_and, Bool.false_eq_true, if_false]
    exact ⟨rfl, h⟩
  · by_cases q2 : u ≤ 255
    · have q3 : ¬ 255 < u := Int32.not_lt.mpr q2
      simp only [q1, q2, q3, if_true, if_false, decide_false, Bool.not_false, Bool.and_self]
      obtain ⟨j, hj, rfl⟩ := nI_of2 (M := 255) (n := 255) rfl q1 q2
      by_cases q4 : qTy M = 200
      · rw [if_neg (by omega), if_pos q4]
        exact ⟨rfl, h⟩
      · rw [if_pos (by omega), if_neg q4, a1]
        refine ⟨rfl, ⟨rfl, show qTy M + 1 ≤ 200 by omega, fun k hk => ?_⟩, hr⟩
        have hk : k < qTy M + 1 := hk
        show upd (cTx c) (qTy M) (nI j) k = upd (qTx M) (qTy M) (nI j) k ∧ ∃ i : Nat, i < 256 ∧ upd (qTx M) (qTy M) (nI j) k = nI i
        by_cases z : k = qTy M
        · subst z
          rw [pk_us, pk_us]
          exact ⟨rfl, j, by omega, rfl⟩
        · rw [pk_un z, pk_un z]
          exact a3 k (by omega)
    · have q3 : 255 < u := Int32.not_le.mp q2
      simp only [q1, q2, q3, if_false, decide_true, decide_false, Bool.not_true, Bool.and_false, Bool.false_eq_true]
      exact ⟨rfl, h⟩
theorem e_clear (h : Rel c M) : Eq2 (xClear c) (yClear M) := by
  obtain ⟨⟨a1, a2, a3⟩, hr⟩ := id h
  exact ⟨congrArg nI a1, ⟨rfl, Nat.zero_le 200, fun k hk => absurd hk (Nat.not_lt_zero k)⟩, hr⟩
theorem note_N0 (M : JX) : qN (yNote M) = qN M := note_N M
theorem rel_mv (h : Rel c M) {o : Mo} {r : Ar} (hm : RM (qN M 0) (qN M 1) o r) : Rel (setM (sRem c) o) (wS (yNote M) r) := (rem_note h).setM (by rw [note_N]; exact hm)
theorem e_hands (h : Rel c M) (t f : Int32) : Eq2 (xHands c t f) (yHands M t f) := by
  have h7 := h.K.2.1
  have h5 := h.K.2.2.2.2.1
  rw [xHands, yHands, isT_eq h, isO_eq h]
  cases hq : pNoT (cK c) t
  · cases hp : pNoO (cK c) f
    · obtain ⟨j, hj, rfl⟩ := pNoT_n hq (by rw [h.K.1]; exact h7)
      obtain ⟨g, hg, rfl⟩ := pNoO_n hp (by rw [h.K.2.2.1]; exact h5)
      rw [h.K.1] at hj
      rw [h.K.2.2.1] at hg
      rw [nI_clamp (by omega)]
      exact ⟨(h.M.1 j hj).1, rel_mv h (h.M.h h7 hj hg)⟩
    · exact ⟨rfl, h⟩
  · exact ⟨rfl, h⟩
theorem e_washes (h : Rel c M) (t : Int32) : Eq2 (xWashes c t) (yWashes M t) := by
  have h7 := h.K.2.1
  rw [xWashes, yWashes, isT_eq h]
  cases hq : pNoT (cK c) t
  · obtain ⟨j, hj, rfl⟩ := pNoT_n hq (by rw [h.K.1]; exact h7)
    rw [h.K.1] at hj
    have hs : Sm (qN M 0) (qS M 14 ||| sh1 (nI j)) := h.M.2.2.2.2.2.2.2.1.or (Sm.sh hj (by omega))
    rw [h.M.2.2.1]
    simp only [Bool.false_eq_true, if_false, Bool.not_false, if_true]
    by_cases q : bitI (qS M 14) (nI j) = 1
    · rw [if_pos q, if_pos q]
      exact ⟨rfl, h⟩
    · rw [if_neg q, if_neg q]
      exact ⟨(hs.mono h7).pop, rel_mv h (h.M.wa h7 hs)⟩
  · exact ⟨rfl, h⟩
theorem xor0 (x : Int32) : x ^^^ 0 = x := by
  apply b_ext
  intro i _
  rw [b_xor, b_0, Bool.xor_false]
theorem e_hangs (h : Rel c M) (t : Int32) : Eq2 (xHangs c t) (yHangs M t) := by
  have h7 := h.K.2.1
  rw [xHangs, yHangs, isT_eq h]
  cases hq : pNoT (cK c) t
  · obtain ⟨j, hj, rfl⟩ := pNoT_n hq (by rw [h.K.1]; exact h7)
    rw [h.K.1] at hj
    have hs : Sm (qN M 0) (qS M 14 &&& iv (sh1 (nI j))) := h.M.2.2.2.2.2.2.2.1.andl
    have h15 := h.M.2.2.2.2.2.2.2.2.1
    have hx : Sm (qN M 0) (qS M 15 ^^^ sh1 (nI j)) := h15.xor (Sm.sh hj (by omega))
    rw [h.M.2.2.1, h.M.2.2.2.1, nI_clamp (by omega), (h.K.2.2.2.2.2.2.2 j hj).1]
    simp only [Bool.false_eq_true, if_false, Bool.not_false, if_true]
    by_cases q : bitI (qS M 14) (nI j) = 0
    · rw [if_pos q, if_pos q]
      exact ⟨rfl, h⟩
    · rw [if_neg q, if_neg q]
      by_cases z : qSo M j = 2
      · rw [if_pos z, if_pos z]
        exact ⟨rfl, rel_mv h ((h.M.wa h7 hs).tu h7 hx)⟩
      · rw [if_neg z, if_neg z, xor0]
        refine ⟨rfl, ?_⟩
        have e : upd (upd (qS M) 14 (qS M 14 &&& iv (sh1 (nI j)))) 15 (qS M 15) = upd (qS M) 14 (qS M 14 &&& iv (sh1 (nI j))) := by
          have := upd_self (upd (qS M) 14 (qS M 14 &&& iv (sh1 (nI j)))) 15
          rw [pk_un (show (15 : Nat) ≠ 14 by decide)] at this
          exact this
        show Rel _ (wS (yNote M) (upd (upd (qS M) 14 (qS M 14 &&& iv (sh1 (nI j)))) 15 (qS M 15)))
        rw [e]
        exact rel_mv h (h.M.wa h7 hs)
  · exact ⟨rfl, h⟩
theorem e_warms (h : Rel c M) (t : Int32) : Eq2 (xWarms c t) (yWarms M t) := by
  have h7 := h.K.2.1
  rw [xWarms, yWarms, isT_eq h]
  cases hq : pNoT (cK c) t
  · obtain ⟨j, hj, rfl⟩ := pNoT_n hq (by rw [h.K.1]; exact h7)
    rw [h.K.1] at hj
    rw [nI_clamp (by omega), (h.K.2.2.2.2.2.2.2 j hj).1, h.K.2.2.2.2.2.1]
    simp only [Bool.false_eq_true, if_false, Bool.not_false, if_true]
    have hw := h.K.2.2.2.2.2.2.1
    by_cases q : qSo M j = 1
    · rw [if_pos q, if_pos q]
      exact ⟨(h.M.2.1 j hj).1, rel_mv h (h.M.w (f := qN M 2) h7 hj (by omega))⟩
    · rw [if_neg q, if_neg q]
      exact ⟨rfl, h⟩
  · exact ⟨rfl, h⟩
theorem e_sickens (h : Rel c M) (f q : Int32) : Eq2 (xSickens c f q) (ySickens M f q) := by
  have h7 := h.K.2.1
  have h5 := h.K.2.2.2.2.1
  have hP : pIn q 0 1 = (!decide (q < 0) && !decide (1 < q)) := rfl
  rw [xSickens, ySickens, isO_eq h, hP]
  cases hq : pNoO (cK c) f
  · by_cases p1 : q < 0
    · simp only [p1]
      exact ⟨rfl, h⟩
    · by_cases p2 : 1 < q
      · simp only [p1, p2]
        exact ⟨rfl, h⟩
      · obtain ⟨j, hj, rfl⟩ := pNoO_n hq (by rw [h.K.2.2.1]; exact h5)
        rw [h.K.2.2.1] at hj
        obtain ⟨x, hx, rfl⟩ := nI_of2 (M := 1) (n := 1) rfl p1 (Int32.not_lt.mp p2)
        simp only [p1, p2]
        have hs : Sm (qN M 1) ((qS M 16 &&& iv (sh1 (nI j))) ||| (nI x <<< (nI j &&& 31))) := by
          refine h.M.2.2.2.2.2.2.2.2.2.1.andl.or ?_
          intro i i1 i2
          rw [b_shl j (by omega) _ i2, b_nI (by omega)]
          have : x.testBit (i - j) = false := Nat.testBit_lt_two_pow (Nat.lt_of_lt_of_le (show x < 2 ^ 1 by omega) (Nat.pow_le_pow_right (by omega) (by omega)))
          rw [this, Bool.and_false]
        refine ⟨congrArg (fun z => bitI z (nI j)) h.M.2.2.2.2.1, ?_⟩
        show Rel (sSi (sRem c) ((mSi (cM c) &&& iv (sh1 (nI j))) ||| (nI x <<< (nI j &&& 31)))) (wS (yNote M) (upd (qS M) 16 ((qS M 16 &&& iv (sh1 (nI j))) ||| (nI x <<< (nI j &&& 31)))))
        rw [h.M.2.2.2.2.1]
        exact rel_mv h (h.M.si h7 hs)
  · exact ⟨rfl, h⟩
theorem e_puts (h : Rel c M) (b : Int32) : Eq2 (xPuts c b) (yPuts M b) := by
  have h7 := h.K.2.1
  rw [xPuts, yPuts, no_B]
  cases hq : pNoB b
  · obtain ⟨j, hj, rfl⟩ := pNoB_n hq
    obtain ⟨x, hx, ex⟩ := h.M.2.2.2.2.2.2.2.2.2.2
    have e17 := h.M.2.2.2.2.2.1
    have e18 := h.M.2.2.2.2.2.2.1
    rw [eq_pass h.K h.M hj, e17, e18, ex]
    simp only [Bool.false_eq_true, if_false, Bool.not_false, if_true]
    have i1 : nI x < 999 ↔ x < 999 := nI_ltI (b := 999) (by omega) (by omega)
    have i2 : nI x = 999 ↔ x = 999 := nI_eq (b := 999) (by omega) (by omega)
    by_cases q : x = 999
    · rw [if_neg (by rw [i1]; omega), if_pos (i2.mpr q)]
      exact ⟨rfl, h⟩
    · rw [if_pos (i1.mpr (by omega)), if_neg (by rw [i2]; exact q)]
      generalize jPas (qN M 0) (qSo M) (qVo M) (qBi M) (qS M) (nI j) = y
      refine ⟨rfl, ?_⟩
      have m1 := ((h.M.pu h7 (x := x + 1) (by omega)).pa h7 (qS M 18 + b2i y)).cool h7
      have e : yPutS (qS M) (b2i y) = upd (upd (qS M) 17 (nI (x + 1))) 18 (qS M 18 + b2i y) := by
        rw [yPutS, ex, show (1 : Int32) = nI 1 from rfl, nI_add, pk_un (show (18 : Nat) ≠ 17 by decide)]
      show Rel (sCool (sPa (sPu (sRem c) (nI x + 1)) (qS M 18 + b2i y))) (wS (yNote M) (jCool (yPutS (qS M) (b2i y)) (qN M 0)))
      rw [e, show nI x + 1 = nI (x + 1) from nI_add x 1]
      exact rel_mv h m1
  · exact ⟨rfl, h⟩
theorem e_undo (h : Rel c M) : Eq2 (xUndo c) (yUndo M) := by
  obtain ⟨h1, h2, h3, h4, ⟨e1, e2, e3, e4⟩, h6, h7⟩ := id h
  rw [xUndo, yUndo, e1]
  by_cases q : qUm M = 0
  · rw [if_pos q, if_pos q]
    exact ⟨rfl, h⟩
  · rw [if_neg q, if_neg q, sRec, e1, if_neg q]
    have hx : pNx (cNx c) = (cNx c + 10 - qUm M + (qUm M - 1)) % 10 := by rw [pNx]; split <;> omega
    refine ⟨rfl, h1, h2, ?_, h4, ⟨rfl, show qUm M - 1 ≤ 10 by omega, ?_, fun i hi => ?_⟩, h6, h7⟩
    · show RM (qN M 0) (qN M 1) (cRi c (pNx (cNx c))) (jTake (qUn M) (qUm M - 1) (qS M))
      rw [hx]
      refine (e4 (qUm M - 1) (by omega)).cong h2.2.1 (fun k hk => ?_)
      rw [jTake, if_pos hk]
    · show pNx (cNx c) < 10
      rw [hx]
      omega
    · have hi : i < qUm M - 1 := hi
      show RM (qN M 0) (qN M 1) (cRi c ((pNx (cNx c) + 10 - (qUm M - 1) + i) % 10)) (fun k => qUn M (19 * i + k))
      have e : (pNx (cNx c) + 10 - (qUm M - 1) + i) % 10 = (cNx c + 10 - qUm M + i) % 10 := by rw [pNx]; split <;> omega
      rw [e]
      exact e4 i (by omega)
theorem e_record (h : Rel c M) (b q : Int32) : Eq2 (xRecord c b q) (yRecord M b q) := by
  obtain ⟨h1, h2, h3, h4, h5, h6, ⟨i1, i2, i3⟩, h8⟩ := id h
  have hP : pIn q 0 1 = (!decide (q < 0) && !decide (1 < q)) := rfl
  rw [xRecord, yRecord, no_B, hP]
  cases hq : pNoB b
  · by_cases p1 : q < 0
    · simp only [p1]
      exact ⟨rfl, h⟩
    · by_cases p2 : 1 < q
      · simp only [p1, p2]
        exact ⟨rfl, h⟩
      · simp only [p1, p2]
        obtain ⟨j, hj, rfl⟩ := pNoB_n hq
        simp only [decide_false, Bool.or_self, Bool.false_eq_true, if_false, Bool.not_false, Bool.and_self, if_true]
        rw [i1]
        by_cases z : qRm M = 6
        · rw [if_neg (by omega), if_pos z]
          exact ⟨rfl, h⟩
        · rw [if_pos (by omega), if_neg z]
          have e : sWrite c (nI j) (decide (q = 1)) = setI c (upd (iB (cI c)) (qRm M) (nI j), va_up (iO (cI c)) (qRm M) (decide (q = 1)), qRm M + 1) := by
            rw [sWrite, i1, if_pos (by omega)]
          rw [e]
          refine ⟨rfl, h1, h2, h3, h4, h5, h6, ⟨rfl, show qRm M + 1 ≤ 6 by omega, fun k hk => ?_⟩, h8⟩
          have hk : k < qRm M + 1 := hk
          show upd (iB (cI c)) (qRm M) (nI j) k = upd (qRb M) (qRm M) (nI j) k ∧ va_up (iO (cI c)) (qRm M) (decide (q = 1)) k = decide (upd (qRi M) (qRm M) q k = 1) ∧ ∃ i : Nat, i < 5 ∧ upd (qRb M) (qRm M) (nI j) k = nI i
          by_cases y : k = qRm M
          · subst y
            rw [pk_us, pk_us, pk_us, va_up, if_pos rfl]
            exact ⟨rfl, rfl, j, hj, rfl⟩
          · rw [pk_un y, pk_un y, pk_un y, va_up, if_neg y]
            exact i3 k (by omega)
  · exact ⟨rfl, h⟩
theorem e_forget (h : Rel c M) : Eq2 (xForget c) (yForget M) := by
  obtain ⟨h1, h2, h3, h4, h5, h6, ⟨i1, i2, i3⟩, h8⟩ := id h
  exact ⟨congrArg nI i1, h1, h2, h3, h4, h5, h6, ⟨rfl, Nat.zero_le 6, fun k hk => absurd hk (Nat.not_lt_zero k)⟩, h8⟩
theorem e_keep (h : Rel c M) (w : Int32) : Eq2 (xKeep c w) (yKeep M w) := by
  obtain ⟨h1, h2, h3, h4, h5, h6, h7⟩ := id h
  rw [xKeep, yKeep, no_I]
  cases hq : pNoI w
  · obtain ⟨j, hj, rfl⟩ := pNoI_n hq
    rw [nI_clamp (by omega)]
    refine ⟨h3.2.2.2.2.2.1, h1, h2, h3, h4, h5, fun i hi => ?_, h7⟩
    show bt (cKe c ||| sh1 (nI j)) i = va_up (qIk M) j true i ∧ (va_up (qIk M) j true i = true → RM (qN M 0) (qN M 1) (va_up (cIm c) j (cM c) i) (fun k => jPutU (qKe M) (qS M) j (19 * i + k)))
    rw [b_or, b_sh1 (by omega) (by omega)]
    by_cases z : i = j
    · subst z
      rw [va_up, if_pos rfl, va_up, if_pos rfl]
      refine ⟨by simp, fun _ => h3.cong h2.2.1 (fun k hk => ?_)⟩
      show jPutU (qKe M) (qS M) i (19 * i + k) = qS M k
      rw [jPutU, if_pos (by omega), show 19 * i + k - 19 * i = k by omega]
    · rw [va_up, if_neg z, va_up, if_neg z]
      refine ⟨by rw [(h6 i hi).1]; simp [z], fun y => ((h6 i hi).2 y).cong h2.2.1 (fun k hk => ?_)⟩
      show jPutU (qKe M) (qS M) j (19 * i + k) = qKe M (19 * i + k)
      rw [jPutU, if_neg (by omega)]
  · exact ⟨rfl, h⟩
theorem e_back (h : Rel c M) (w : Int32) : Eq2 (xBack c w) (yBack M w) := by
  obtain ⟨h1, h2, h3, h4, ⟨e1, e2, e3, e4⟩, h6, h7⟩ := id h
  rw [xBack, yBack, no_I]
  cases hq : pNoI w
  · obtain ⟨j, hj, rfl⟩ := pNoI_n hq
    rw [nI_clamp (by omega)]
    simp only [Bool.false_eq_true, if_false, Bool.not_false, if_true]
    have hb := bit0 (cKe c) (n := j) (by omega)
    cases z : qIk M j
    · rw [if_pos (hb.mpr (by rw [(h6 j hj).1, z]))]
      exact ⟨rfl, h⟩
    · rw [if_neg (fun y => by rw [hb, (h6 j hj).1, z] at y; cases y)]
      have hm : RM (qN M 0) (qN M 1) (cIm c j) (jTake (qKe M) j (qS M)) := ((h6 j hj).2 z).cong h2.2.1 (fun k hk => by rw [jTake, if_pos hk])
      exact ⟨hm.2.2.2.2.2.1, h1, h2, hm, h4, ⟨rfl, Nat.zero_le 10, e3, fun i hi => absurd hi (Nat.not_lt_zero i)⟩, h6, h7⟩
  · exact ⟨rfl, h⟩
theorem trtr (c : CX) (u v : Int64) : setTr (setTr c u) v = setTr c v := rfl
theorem ctr (c : CX) (u : Int64) : cTr (setTr c u) = u := rfl
theorem e_rate (h : Rel c M) (w t : Int32) : Eq2 (xRate c w t) (yRate M w t) := by
  have h7 := h.K.2.1
  rw [xRate, yRate, isT_eq h]
  cases hq : pNoT (cK c) t
  · obtain ⟨j, hj, rfl⟩ := pNoT_n hq (by rw [h.K.1]; exact h7)
    rw [h.K.1] at hj
    obtain ⟨-, k2, k3, k4⟩ := h.K.2.2.2.2.2.2.2 j hj
    have m2 := (h.M.2.1 j hj).1
    have m6 := h.M.2.2.2.2.2.1
    have ht := h.2.2.2.1
    rw [nI_clamp (by omega), k2, k3, m2, m6, (k4.mono (by omega)).pop]
    rcases wk_sw0_5 w with rfl | rfl | rfl | rfl | rfl | rfl | hw
    · have e1 : aThing c = setTr c (qTr M + 1) := by
        rw [aThing, ht]
      have e2 : yRaT 0 = 1 := by decide
      rw [e1, e2]
      exact ⟨rfl, h.tr _⟩
    · have e1 : aScep c = setTr c (qTr M + 11) := by
        rw [aScep, aThing, trtr, ctr, ht, Int64.add_assoc, show (10 : Int64) + 1 = 11 from by decide]
      have e2 : yRaT 1 = 11 := by decide
      rw [e1, e2]
      exact ⟨rfl, h.tr _⟩
    · have e1 : aOrb c = setTr c (qTr M + 101) := by
        rw [aOrb, aThing, trtr, ctr, ht, Int64.add_assoc, show (100 : Int64) + 1 = 101 from by decide]
      have e2 : yRaT 2 = 101 := by decide
      rw [e1, e2]
      exact ⟨rfl, h.tr _⟩
    · have e1 : aRing c = setTr c (qTr M + 1011) := by
        rw [aRing, aScep, aThing, trtr, trtr, ctr, ctr, ht, Int64.add_assoc, Int64.add_assoc, show (1000 : Int64) + (10 + 1) = 1011 from by decide]
      have e2 : yRaT 3 = 1011 := by decide
      rw [e1, e2]
      exact ⟨rfl, h.tr _⟩
    · have e1 : aSeal c = setTr c (qTr M + 10101) := by
        rw [aSeal, aOrb, aThing, trtr, trtr, ctr, ctr, ht, Int64.add_assoc, Int64.add_assoc, show (10000 : Int64) + (100 + 1) = 10101 from by decide]
      have e2 : yRaT 4 = 10101 := by decide
      rw [e1, e2]
      exact ⟨rfl, h.tr _⟩
    · have e1 : aSpoon c = setTr c (qTr M + 100001) := by
        rw [aSpoon, aThing, trtr, ctr, ht, Int64.add_assoc, show (100000 : Int64) + 1 = 100001 from by decide]
      have e2 : yRaT 5 = 100001 := by decide
      rw [e1, e2]
      exact ⟨rfl, h.tr _⟩
    · have hp : pIn w 0 5 = false := pIn_out rfl hw
      have hne : ∀ n : Int32, (0 ≤ n.toInt ∧ n.toInt ≤ 5) → ¬ w = n := fun n hn e => by rw [e] at hw; omega
      rw [hp]
      simp only [hne 0 (by decide), hne 1 (by decide), hne 2 (by decide), hne 3 (by decide), hne 4 (by decide), hne 5 (by decide)]
      exact ⟨rfl, h⟩
  · cases pIn w 0 5 <;> exact ⟨rfl, h⟩
end EQV

/-! numbers that are not as told, on both sides -/
theorem pIn_out {w M : Int32} {m : Int} (hM : M.toInt = m) (h : w.toInt < 0 ∨ m < w.toInt) : pIn w 0 M = false := by
  rw [pIn]
  rcases h with q | q
  · have : w < 0 := Int32.lt_iff_toInt_lt.mpr q
    simp [this]
  · have : M < w := Int32.lt_iff_toInt_lt.mpr (by rw [hM]; exact q)
    simp [this]
theorem no_T {n : Nat} (hn : n ≤ 7) (t : Int32) : jIsT n t = !decide (t < 0 ∨ nI n ≤ t) := by
  rw [jIsT, pIn]
  by_cases q : t < 0
  · simp [q]
  · obtain ⟨j, hj, rfl⟩ := nI_of q
    have key : ∀ n, n < 8 → ((nI n) - 1).toInt = (n : Int) - 1 := by decide +kernel
    have i1 : nI n - 1 < nI j ↔ n ≤ j := by
      rw [Int32.lt_iff_toInt_lt, key n (by omega), nI_toInt hj]
      omega
    have i2 : nI n ≤ nI j ↔ n ≤ j := nI_leI (by omega) hj
    simp only [q, i1, i2, decide_false, Bool.not_false, Bool.true_and, false_or]
theorem no_B (b : Int32) : pIn b 0 4 = !pNoB b := by
  rw [pIn, pNoB]
  by_cases q : b < 0
  · simp [q]
  · obtain ⟨j, hj, rfl⟩ := nI_of q
    have i1 : (4 : Int32) < nI j ↔ 4 < j := nI_ltI (a := 4) (by omega) hj
    have i2 : (5 : Int32) ≤ nI j ↔ 5 ≤ j := nI_leI (a := 5) (by omega) hj
    have i3 : 4 < j ↔ 5 ≤ j := by omega
    simp only [q, i1, i2, i3, decide_false, Bool.not_false, Bool.true_and, false_or]
theorem no_W (b : Int32) : pIn b 0 1 = !pNoW b := by
  rw [pIn, pNoW]
  by_cases q : b < 0 <;> by_cases z : 1 < b <;> simp [q, z]
theorem no_I (b : Int32) : pIn b 0 1 = !pNoI b := by
  rw [pIn, pNoI]
  by_cases q : b < 0
  · simp [q]
  · obtain ⟨j, hj, rfl⟩ := nI_of q
    have i1 : (1 : Int32) < nI j ↔ 1 < j := nI_ltI (a := 1) (by omega) hj
    have i2 : (2 : Int32) ≤ nI j ↔ 2 ≤ j := nI_leI (a := 2) (by omega) hj
    have i3 : 1 < j ↔ 2 ≤ j := by omega
    simp only [q, i1, i2, i3, decide_false, Bool.not_false, Bool.true_and, false_or]
theorem pNoB_n {t : Int32} (h : pNoB t = false) : ∃ j : Nat, j < 5 ∧ t = nI j := by
  simp only [pNoB, decide_eq_false_iff_not, not_or] at h
  rcases pk_ix t (show 5 < 2 ^ 31 by omega) with q | q | q
  · exact absurd q h.1
  · exact absurd q h.2
  · exact q
theorem pNoW_n {t : Int32} (h : pNoW t = false) : t = 0 ∨ t = 1 := by
  simp only [pNoW, decide_eq_false_iff_not, not_or] at h
  obtain ⟨j, hj, rfl⟩ := nI_of2 (M := 1) (n := 1) rfl h.1 (Int32.not_lt.mp h.2)
  have : j = 0 ∨ j = 1 := by omega
  rcases this with rfl | rfl
  · left; rfl
  · right; rfl
section EQR
variable {c : CX} {M : JX}
theorem isT_eq (h : Rel c M) (t : Int32) : jIsT (qN M 0) t = !pNoT (cK c) t := by
  rw [no_T h.K.2.1, pNoT, h.K.1]
theorem isO_eq (h : Rel c M) (t : Int32) : jIsT (qN M 1) t = !pNoO (cK c) t := by
  have := h.K.2.2.2.2.1
  rw [no_T (by omega), pNoO, h.K.2.2.1]
theorem spk_voi (h : Rel c M) {j : Nat} (hj : j < qN M 0) : bitI (pVoices (cK c) (cM c)) (nI j) = b2i (jSpk (qSo M) (qS M) j) := by
  have h7 := h.K.2.1
  rw [eq_voi h.K h.M, bitI_bt _ (by omega), b_voi _ _ h7 (by omega)]
  simp [hj]
theorem e_thing (h : Rel c M) (t w : Int32) : xThing c t w = yThing M t w := by
  have hT := isT_eq h t
  cases hq : pNoT (cK c) t
  · have h7 := h.K.2.1
    obtain ⟨j, hj, rfl⟩ := pNoT_n hq (by rw [h.K.1]; exact h7)
    rw [h.K.1] at hj
    rw [hq] at hT
    have hcl := nI_clamp (show j < 2 ^ 31 by omega)
    obtain ⟨k1, k2, k3, -⟩ := h.K.2.2.2.2.2.2.2 j hj
    have m1 := (h.M.1 j hj).1
    have m2 := (h.M.2.1 j hj).1
    have m3 := h.M.2.2.1
    have m4 := h.M.2.2.2.1
    have m5 := spk_voi h hj
    rw [xThing, yThing, hT, hq, hcl, k1, k2, k3, m1, m2, m3, m4, m5]
    rcases wk_sw0_7 w with rfl | rfl | rfl | rfl | rfl | rfl | rfl | rfl | hw
    · rfl
    · rfl
    · rfl
    · rfl
    · rfl
    · rfl
    · rfl
    · rfl
    · have hp : pIn w 0 7 = false := pIn_out rfl hw
      have hne : ∀ n : Int32, (0 ≤ n.toInt ∧ n.toInt ≤ 7) → ¬ w = n := fun n hn e => by rw [e] at hw; omega
      rw [hp]
      simp [hne 0 (by decide), hne 1 (by decide), hne 2 (by decide), hne 3 (by decide), hne 4 (by decide), hne 5 (by decide), hne 6 (by decide), hne 7 (by decide)]
  · rw [hq] at hT
    rw [xThing, yThing, hT, hq]
    rfl
theorem e_off (h : Rel c M) (t w : Int32) : xOff c t w = yOff M t w := by
  have hT := isO_eq h t
  cases hq : pNoO (cK c) t
  · have h5 := h.K.2.2.2.2.1
    obtain ⟨j, hj, rfl⟩ := pNoO_n hq (by rw [h.K.2.2.1]; exact h5)
    rw [h.K.2.2.1] at hj
    rw [hq] at hT
    rw [xOff, yOff, hT, hq, eq_hel h.K h.M hj, eq_vhe h.K h.M hj, h.M.2.2.2.2.1]
    rcases wk_sw0_2 w with rfl | rfl | rfl | hw
    · rfl
    · rfl
    · rfl
    · have hp : pIn w 0 2 = false := pIn_out rfl hw
      have hne : ∀ n : Int32, (0 ≤ n.toInt ∧ n.toInt ≤ 2) → ¬ w = n := fun n hn e => by rw [e] at hw; omega
      rw [hp]
      simp [hne 0 (by decide), hne 1 (by decide), hne 2 (by decide)]
  · rw [hq] at hT
    rw [xOff, yOff, hT, hq]
    rfl
theorem e_bill (h : Rel c M) (b w : Int32) : xBill c b w = yBill M b w := by
  have hT := no_B b
  cases hq : pNoB b
  · obtain ⟨j, hj, rfl⟩ := pNoB_n hq
    rw [hq] at hT
    rw [xBill, yBill, hT, hq, eq_pass h.K h.M hj, eq_voi h.K h.M, eq_yes h.K h.M hj, eq_votes h.K, eq_votes h.K]
    rcases wk_sw0_3 w with rfl | rfl | rfl | rfl | hw
    · rfl
    · rfl
    · rfl
    · rfl
    · have hp : pIn w 0 3 = false := pIn_out rfl hw
      have hne : ∀ n : Int32, (0 ≤ n.toInt ∧ n.toInt ≤ 3) → ¬ w = n := fun n hn e => by rw [e] at hw; omega
      rw [hp]
      simp [hne 0 (by decide), hne 1 (by decide), hne 2 (by decide), hne 3 (by decide)]
  · rw [hq] at hT
    rw [xBill, yBill, hT, hq]
    rfl
theorem e_now (h : Rel c M) (w : Int32) : xNow c w = yNow M w := by
  rw [xNow, yNow, eq_voi h.K h.M, eq_most h.K h.M, h.M.2.2.2.2.1, h.M.2.2.2.2.2.1, h.M.2.2.2.2.2.2.1, h.2.2.2.2.1.1]
  rcases wk_sw0_5 w with rfl | rfl | rfl | rfl | rfl | rfl | hw
  · rfl
  · rfl
  · rfl
  · rfl
  · rfl
  · rfl
  · have hp : pIn w 0 5 = false := pIn_out rfl hw
    have hne : ∀ n : Int32, (0 ≤ n.toInt ∧ n.toInt ≤ 5) → ¬ w = n := fun n hn e => by rw [e] at hw; omega
    rw [hp]
    simp [hne 0 (by decide), hne 1 (by decide), hne 2 (by decide), hne 3 (by decide), hne 4 (by decide), hne 5 (by decide)]
theorem e_count (h : Rel c M) (w : Int32) : xCount c w = yCount M w := by
  rw [xCount, yCount, h.K.1, h.K.2.2.1, h.K.2.2.2.2.2.1, h.I.1, h.1.1]
  rcases wk_sw0_4 w with rfl | rfl | rfl | rfl | rfl | hw
  · rfl
  · rfl
  · rfl
  · rfl
  · rfl
  · have hp : pIn w 0 2 = false := pIn_out (m := 2) rfl (by omega)
    have hne : ∀ n : Int32, (0 ≤ n.toInt ∧ n.toInt ≤ 4) → ¬ w = n := fun n hn e => by rw [e] at hw; omega
    rw [hp]
    simp [hne 0 (by decide), hne 1 (by decide), hne 2 (by decide), hne 3 (by decide), hne 4 (by decide)]
theorem jDec_nat (n : Nat) (S V s : Ar) (t : Nat) : ∃ k : Nat, k < 2 ^ 31 ∧ jDec n S V s t = nI k := by
  obtain ⟨k, h1, h2⟩ := jDec_n n S V s t
  exact ⟨k, by omega, h2⟩
theorem e_power (h : Rel c M) (t w : Int32) : xPower c t w = yPower M t w := by
  have hT := isT_eq h t
  have hW := no_W w
  cases hq : pNoT (cK c) t
  · cases hw : pNoW w
    · have h7 := h.K.2.1
      obtain ⟨j, hj, rfl⟩ := pNoT_n hq (by rw [h.K.1]; exact h7)
      rw [h.K.1] at hj
      rw [hq] at hT
      rw [hw] at hW
      have hcl := nI_clamp (show j < 2 ^ 31 by omega)
      obtain ⟨v, v1, v2, v3⟩ := jOrd_n (jOnes_7 (jVoi (qN M 0) (qSo M) (qS M)))
      have hb := b_voi (qSo M) (qS M) h7 (show j < 32 by omega)
      rw [xPower, yPower, hT, hW, hq, hw, hcl, eq_voi h.K h.M, eq_orders h.K h.M, v3]
      simp only [Bool.or_self, Bool.false_eq_true, if_false, Bool.not_false, Bool.and_self, if_true]
      cases hs : jSpk (qSo M) (qS M) j
      · rw [hs] at hb
        have hb : bt (jVoi (qN M 0) (qSo M) (qS M)) j = false := by rw [hb, Bool.and_false]
        rw [dec_no (by omega) hb, show (0 : Int32) = nI 0 from rfl, eq_term (by omega) (by omega) (by omega), if_neg (by decide)]
        rw [yRat, nI_clamp (by omega), nI_clamp (by omega), Nat.gcd_zero_left]
        rcases pNoW_n hw with rfl | rfl
        · rw [if_pos rfl, pk_div (by omega) (by omega) (by omega), Nat.zero_div]
          rfl
        · rw [if_neg (by decide), pk_div (by omega) (by omega) (by omega), Nat.div_self (by omega)]
          rfl
      · rw [hs] at hb
        have hb : bt (jVoi (qN M 0) (qSo M) (qS M)) j = true := by rw [hb]; simp [hj]
        obtain ⟨u, u1, u2⟩ := jDec_nat (qN M 0) (qSo M) (qVo M) (qS M) j
        rw [eq_dec h.K h.M (by omega) hb, u2, eq_term u1 (by omega) (by omega), if_pos rfl]
    · rw [hw] at hW
      rw [xPower, yPower, hW, hw]
      simp
  · rw [hq] at hT
    rw [xPower, yPower, hT, hq]
    rfl
theorem e_least (h : Rel c M) (w : Int32) : xLeast c w = yLeast M w := by
  have hW := no_W w
  have e : ∀ i, i < 128 → (fun i => pLea (cK c) (nI i) (pVoices (cK c) (cM c))) i = yLeaP M i := fun i _ => by
    show pLea (cK c) (nI i) (pVoices (cK c) (cM c)) = _
    rw [eq_voi h.K h.M, eq_lea h.K h.M, yLeaP]
  obtain ⟨h1, h2, -⟩ := jFir_eq (fun i => pLea (cK c) (nI i) (pVoices (cK c) (cM c))) 128 (by omega)
  rw [jFir_cong e] at h1 h2
  rw [xLeast, yLeast, hW, pLeaN, pLea1, h1, h2]
  cases pNoW w <;> rfl
theorem yDum_oF (M : JX) : yDum M = oF (fun t => jSpk (qSo M) (qS M) t && decide (jDec (qN M 0) (qSo M) (qVo M) (qS M) t = 0)) (qN M 0) := by
  rw [yDum]
  unfold yDumF oF
  apply fo_cong
  intro t y _
  show (y ||| if jSpk (qSo M) (qS M) t = true ∧ jDec (qN M 0) (qSo M) (qVo M) (qS M) t = 0 then sh1 (nI t) else 0) = (y ||| if (jSpk (qSo M) (qS M) t && decide (jDec (qN M 0) (qSo M) (qVo M) (qS M) t = 0)) = true then sh1 (nI t) else 0)
  cases jSpk (qSo M) (qS M) t
  · simp
  · by_cases z : jDec (qN M 0) (qSo M) (qVo M) (qS M) t = 0 <;> simp [z]
theorem e_dum (h : Rel c M) : pLess (cK c) (cM c) = yDum M := by rw [eq_dum h.K h.M, yDum_oF]
theorem e_sways (h : Rel c M) (b : Int32) : xSways c b = ySways M b := by
  have hB := no_B b
  rw [xSways, ySways, hB]
  cases hq : pNoB b
  · obtain ⟨j, hj, rfl⟩ := pNoB_n hq
    rw [eq_sway h.K h.M hj]
    rfl
  · rfl
theorem e_free (h : Rel c M) : pFree (cK c) (cM c) = yFree M := by
  rw [pFree, yFree]
  unfold pFreeF yFreeF
  rw [eq_voi h.K h.M]
  apply fo_cong
  intro b y hb
  rw [eq_sway h.K h.M hb]
theorem yTurn_fe (M : JX) (b : Int32) : yTurnF M b 128 = feF (tuQ (qN M 0) (qSo M) (qVo M) (qBi M) (qS M) b) 128 := by
  unfold yTurnF feF
  apply fo_cong
  intro i z _
  rw [tuQ]
  by_cases q1 : nI i &&& iv (jVoi (qN M 0) (qSo M) (qS M)) = 0
  · by_cases q2 : z = -9
    · cases jPBy (qN M 0) (qVo M) (jVoi (qN M 0) (qSo M) (qS M)) (jYes (qN M 0) (qBi M) (qS M) b ^^^ nI i) <;> simp [q1, q2]
    · by_cases q3 : jOnes z ≤ jOnes (nI i)
      · simp [q2, q3]
      · cases jPBy (qN M 0) (qVo M) (jVoi (qN M 0) (qSo M) (qS M)) (jYes (qN M 0) (qBi M) (qS M) b ^^^ nI i) <;> simp [q1, q2, q3]
  · simp [q1]
theorem e_turn (h : Rel c M) (b : Int32) : xTurn c b = yTurn M b := by
  have hB := no_B b
  rw [xTurn, yTurn, hB]
  cases hq : pNoB b
  · obtain ⟨j, hj, rfl⟩ := pNoB_n hq
    rw [eq_turn h.K h.M hj, yTurn_fe]
    rfl
  · rfl
theorem yHaG_fe (M : JX) (b well ofs : Int32) : ∀ n : Nat, (yHaG M b well ofs n).1 = feF (haQ (qN M 0) (qSo M) (qVo M) (qBi M) (qS M) well ofs b) n
  | 0 => rfl
  | n + 1 => by
    rw [yHaG, fo_s, ← yHaG, feF, fo_s, ← feF, ← yHaG_fe M b well ofs n, haQ]
    generalize (yHaG M b well ofs n).1 = z
    show (if jMay n ofs well z && jPas (qN M 0) (qSo M) (qVo M) (qBi M) (jHaw (qS M) (nI n) (jMay n ofs well z) well (qN M 0)) b then nI n else z) = _
    cases hm : jMay n ofs well z
    · rw [jMay] at hm
      generalize decide (nI n &&& iv ofs = 0) = a1 at hm ⊢
      generalize (decide (n = 0) || !decide (well = -9)) = a2 at hm ⊢
      generalize (decide (z = -9) || !decide (jOnes z ≤ jOnes (nI n))) = a3 at hm ⊢
      generalize jPas (qN M 0) (qSo M) (qVo M) (qBi M) (jHaw (qS M) (nI n) true well (qN M 0)) b = a4
      revert hm
      cases a1 <;> cases a2 <;> cases a3 <;> cases a4 <;> simp
    · rw [jMay] at hm
      generalize decide (nI n &&& iv ofs = 0) = a1 at hm ⊢
      generalize (decide (n = 0) || !decide (well = -9)) = a2 at hm ⊢
      generalize (decide (z = -9) || !decide (jOnes z ≤ jOnes (nI n))) = a3 at hm ⊢
      generalize jPas (qN M 0) (qSo M) (qVo M) (qBi M) (jHaw (qS M) (nI n) true well (qN M 0)) b = a4
      revert hm
      cases a1 <;> cases a2 <;> cases a3 <;> cases a4 <;> simp
theorem e_hand (h : Rel c M) (b : Int32) : xHand c b = (yHand M b).1 ∧ Rel c (yHand M b).2 := by
  have hB := no_B b
  rw [xHand, yHand, hB]
  cases hq : pNoB b
  · obtain ⟨j, hj, rfl⟩ := pNoB_n hq
    exact ⟨by rw [eq_hand h.K h.M hj]; exact (yHaG_fe M _ _ _ 128).symm, h⟩
  · exact ⟨rfl, h⟩
theorem e_swaps (h : Rel c M) (b : Int32) : xSwaps c b = (ySwaps M b).1 ∧ Rel c (ySwaps M b).2 := by
  have hB := no_B b
  rw [xSwaps, ySwaps, hB]
  cases hq : pNoB b
  · obtain ⟨j, hj, rfl⟩ := pNoB_n hq
    exact ⟨eq_swaps h.K h.M hj, h⟩
  · exact ⟨rfl, h⟩
theorem e_isFor (h : Rel c M) (t w : Int32) : xIsFor c t w = yIsFor M t w := by
  have hT := isT_eq h t
  have hW := no_W w
  rw [xIsFor, yIsFor, hT, hW]
  cases hq : pNoT (cK c) t
  · have h7 := h.K.2.1
    obtain ⟨j, hj, rfl⟩ := pNoT_n hq (by rw [h.K.1]; exact h7)
    rw [h.K.1] at hj
    rw [nI_clamp (by omega)]
    have e : ∀ i, i < 32 → (fun i => pSoFor (cK c) (cM c) (cI c) (nI j) (nI i) (pVoices (cK c) (cM c))) i = yIsP M j i := fun i _ => by
      show pSoFor (cK c) (cM c) (cI c) (nI j) (nI i) (pVoices (cK c) (cM c)) = _
      rw [eq_soFor h.K h.M h.I hj, yIsP]
    obtain ⟨h1, h2, -⟩ := jFir_eq (fun i => pSoFor (cK c) (cM c) (cI c) (nI j) (nI i) (pVoices (cK c) (cM c))) 32 (by omega)
    rw [jFir_cong e] at h1 h2
    rw [pPosN, pPos1, h1, h2]
    cases pNoW w <;> rfl
  · cases pNoW w <;> rfl
theorem e_who (h : Rel c M) : pWho (cK c) (cM c) (cI c) = (yWho M).1 ∧ Rel c (yWho M).2 := ⟨eq_who h.K h.M h.I, h⟩
theorem e_odds (h : Rel c M) (b p w : Int32) : xOdds c b p w = (yOdds M b p w).1 ∧ Rel c (yOdds M b p w).2 := by
  have hB := no_B b
  have hW := no_W w
  have hP : pIn p 0 10 = (!decide (p < 0) && !decide (10 < p)) := rfl
  rw [xOdds, yOdds, hB, hW, hP]
  cases hq : pNoB b
  · cases hw : pNoW w
    · by_cases p1 : p < 0
      · simp only [p1]
        exact ⟨rfl, h⟩
      · by_cases p2 : 10 < p
        · simp only [p1, p2]
          exact ⟨rfl, h⟩
        · obtain ⟨j, hj, rfl⟩ := pNoB_n hq
          obtain ⟨q, hq, rfl⟩ := nI_of2 (M := 10) (n := 10) rfl p1 (Int32.not_lt.mp p2)
          have h5 := h.K.2.2.2.2.1
          have u1 := yUpF_le M (nI j) hq h5 (2 ^ qN M 1)
          have u2 := pw_le h5
          have u3 : 10 ^ qN M 1 ≤ 100000 := Nat.le_trans (Nat.pow_le_pow_right (by omega) h5) (Nat.le_of_ble_eq_true rfl)
          have u4 : 0 < 10 ^ qN M 1 := Nat.pow_pos (by omega)
          have u5 : 2 ^ qN M 1 * 100000 ≤ 32 * 100000 := Nat.mul_le_mul_right _ u2
          simp only [p1, p2]
          refine ⟨?_, h⟩
          show pTerm (pChP (cK c) (cM c) (nI j) (nI q)) (pChan (cK c)) w = yRat (nI (yUpF M (nI j) (nI q).toNatClampNeg (2 ^ qN M 1))) (nI (10 ^ qN M 1)) w
          rw [pChP, pChan, h.K.2.2.1, eq_chan, eq_chP h.K h.M hj hq, nI_clamp (by omega), eq_term (by omega) (by omega) u4]
    · simp only [Bool.or_true, if_true, Bool.not_true, Bool.and_false, Bool.false_eq_true, if_false]
      exact ⟨trivial, h⟩
  · exact ⟨rfl, h⟩
end EQR

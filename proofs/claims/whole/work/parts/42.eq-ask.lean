/-! the greatest common divisor in 64 rounds -/
theorem gcdF_z (n : Nat) (x : Int32) : gcdF n x 0 = x := by
  cases n with
  | zero => rfl
  | succ n => rw [gcdF, if_pos rfl]
theorem gcdF_s {n u v : Nat} (hu : u < 2 ^ 31) (h0 : 0 < v) (hv : v < 2 ^ 31) : gcdF (n + 1) (nI u) (nI v) = gcdF n (nI v) (nI (u % v)) := by
  rw [gcdF, if_neg (nI_ne0 h0 hv), rem_n hu h0 hv]
theorem mod_half {v w : Nat} (h0 : 0 < w) (h : w < v) : 2 * (v % w) < v := by
  have h1 := Nat.mod_lt v h0
  have h2 := Nat.div_add_mod v w
  have h3 : 1 ≤ v / w := (Nat.le_div_iff_mul_le h0).mpr (by omega)
  have h4 : w * 1 ≤ w * (v / w) := Nat.mul_le_mul_left w h3
  omega
theorem gcdF_n : ∀ (n u v : Nat), v < 2 ^ n → u < 2 ^ 31 → v < 2 ^ 31 → gcdF (2 * n) (nI u) (nI v) = nI (Nat.gcd u v)
  | 0, u, v, h, _, _ => by
    have : v = 0 := by simpa using h
    subst this
    rw [Nat.gcd_zero_right]
    rfl
  | n + 1, u, v, h, hu, hv => by
    rcases Nat.eq_zero_or_pos v with q | q
    · subst q
      rw [Nat.gcd_zero_right]
      exact gcdF_z _ _
    · have h1 := Nat.mod_lt u q
      rw [show 2 * (n + 1) = 2 * n + 1 + 1 from rfl, gcdF_s hu q hv]
      rcases Nat.eq_zero_or_pos (u % v) with z | z
      · rw [z]
        rw [show nI 0 = 0 from rfl, gcdF_z, Nat.gcd_comm, Nat.gcd_rec, z, Nat.gcd_zero_left]
      · have h2 := mod_half z h1
        have e : Nat.gcd u v = Nat.gcd (u % v) (v % (u % v)) := by rw [Nat.gcd_comm u v, Nat.gcd_rec v u, Nat.gcd_rec (u % v) v, Nat.gcd_comm]
        rw [gcdF_s hv z (by omega), gcdF_n n _ _ (by rw [Nat.pow_succ] at h; omega) (by omega) (by omega), e]
theorem pGcd_n {u v : Nat} (hu : u < 2 ^ 31) (hv : v < 2 ^ 31) : pGcd (nI u) (nI v) = nI (Nat.gcd u v) := gcdF_n 32 u v (by omega) hu hv
theorem eq_term {u v : Nat} (hu : u < 2 ^ 31) (hv : v < 2 ^ 31) (h0 : 0 < v) (w : Int32) : pTerm (nI u) (nI v) w = yRat (nI u) (nI v) w := by
  rw [pTerm, yRat, pGcd_n hu hv, if_neg (gcd_z h0 hv), nI_clamp hu, nI_clamp hv]
/-! counts and firsts -/
theorem jFir_eq (P : Nat → Bool) : ∀ n : Nat, n < 2 ^ 31 → cntB P n = nI (jFir P n).1 ∧ firB P n = (jFir P n).2 ∧ ((jFir P n).1 = 0 ↔ firB P n = -9)
  | 0, _ => ⟨rfl, rfl, fun _ => rfl, fun _ => rfl⟩
  | n + 1, hn => by
    obtain ⟨h1, h2, h3⟩ := jFir_eq P n (by omega)
    have e : jFir P (n + 1) = if P n then ((jFir P n).1 + 1, if (jFir P n).1 = 0 then nI n else (jFir P n).2) else jFir P n := rfl
    have f : firB P (n + 1) = if firB P n = -9 then (if P n then nI n else -9) else firB P n := rfl
    have g : cntB P (n + 1) = if P n then cntB P n + 1 else cntB P n := rfl
    have hne : ¬ nI n = -9 := fun z => nI_pos (show n < 2 ^ 31 by omega) (by rw [z]; decide)
    rw [e, f, g]
    cases hp : P n
    · simp only [Bool.false_eq_true, if_false]
      refine ⟨h1, ?_, ?_⟩
      · by_cases q : firB P n = -9
        · rw [if_pos q, ← h2, q]
        · rw [if_neg q, h2]
      · by_cases q : firB P n = -9
        · rw [if_pos q]; exact ⟨fun _ => rfl, fun _ => h3.mpr q⟩
        · rw [if_neg q]; exact h3
    · simp only [if_true]
      refine ⟨?_, ?_, ?_⟩
      · rw [h1, show (1 : Int32) = nI 1 from rfl, nI_add]
      · by_cases q : firB P n = -9
        · rw [if_pos q, if_pos (h3.mpr q)]
        · rw [if_neg q, if_neg (fun z => q (h3.mp z)), h2]
      · refine ⟨fun z => absurd z (Nat.succ_ne_zero _), fun z => ?_⟩
        by_cases q : firB P n = -9
        · rw [if_pos q] at z; exact absurd z hne
        · rw [if_neg q] at z; exact absurd z q
theorem jFir_cong {P Q : Nat → Bool} {n : Nat} (h : ∀ i, i < n → P i = Q i) : jFir P n = jFir Q n := by
  unfold jFir
  exact fo_cong (fun i y hi => by rw [h i hi])
theorem allB_cong {P Q : Nat → Bool} : ∀ {n : Nat}, (∀ i, i < n → P i = Q i) → allB P n = allB Q n
  | 0, _ => rfl
  | n + 1, h => by rw [allB, allB, allB_cong (n := n) (fun i hi => h i (by omega)), h n (by omega)]
/-! the fewest -/
def feF (Q : Nat → Bool) : Nat → Int32 := fo (fun i z => if Q i && (decide (z = -9) || !decide (jOnes z ≤ jOnes (nI i))) then nI i else z) (-9)
theorem feF_ok (Q : Nat → Bool) : ∀ n : Nat, n ≤ 128 → feF Q n = -9 ∨ ∃ j : Nat, j < 128 ∧ feF Q n = nI j
  | 0, _ => Or.inl rfl
  | n + 1, h => by
    rw [feF, fo_s, ← feF]
    split
    · exact Or.inr ⟨n, by omega, rfl⟩
    · exact feF_ok Q n (by omega)
theorem fewer_eq {i : Nat} {z : Int32} (hi : i < 128) (hz : z = -9 ∨ ∃ j : Nat, j < 128 ∧ z = nI j) : pFewer (nI i) z = (decide (z = -9) || !decide (jOnes z ≤ jOnes (nI i))) := by
  rcases hz with rfl | ⟨j, hj, rfl⟩
  · simp [pFewer]
  · have hne : ¬ nI j = -9 := fun z => nI_pos (show j < 2 ^ 31 by omega) (by rw [z]; decide)
    rw [pFewer, pop_ones i hi, pop_ones j hj, Bool.decide_or, ← decide_not]
    congr 1
    exact decide_eq_decide.mpr Int32.not_le.symm
theorem feF_p {P Q : Nat → Bool} (hPQ : ∀ i, i < 128 → P i = Q i) : ∀ n : Nat, n ≤ 128 → fo (fun i r => if P i && pFewer (nI i) r then nI i else r) (-9) n = feF Q n
  | 0, _ => rfl
  | n + 1, h => by
    rw [fo_s, feF_p hPQ n (by omega), feF, fo_s, ← feF, fewer_eq (by omega) (feF_ok Q n (by omega)), hPQ n (by omega)]
section EQA
variable {k : Cn} {o : Mo} {N : Nat → Nat} {S V B r : Ar}
theorem voi_Sm (S r : Ar) {n : Nat} (hn : n ≤ 7) : Sm n (jVoi n S r) := Sm.oF (p := jSpk S r) (by omega)
/-! what officers hold -/
theorem jHel_oF (n : Nat) (s : Ar) (x : Int32) : jHel n s x = oF (fun t => decide (s t = x)) n := by
  unfold jHel jHelF oF
  apply fo_cong
  intro t y _
  show (y ||| if s t = x then sh1 (nI t) else 0) = (y ||| if decide (s t = x) = true then sh1 (nI t) else 0)
  by_cases q : s t = x
  · rw [if_pos q, if_pos (decide_eq_true q)]
  · rw [if_neg q, if_neg (by simpa using q)]
theorem eq_hel (hk : RK k N S V B) (hm : RM (N 0) (N 1) o r) {h : Nat} (hh : h < N 1) : pHeld k o (sh1 (nI h)) = jHel (N 0) r (nI h) := by
  have h5 := hk.2.2.2.2.1
  rw [pHeld, hk.1, eq_heldF hm _ h5, jHel_oF]
  apply oF_cong
  intro t ht
  obtain ⟨-, g, hg, h2⟩ := hm.1 t ht
  show bt (sh1 (nI h)) (r t).toNatClampNeg = decide (r t = nI h)
  rw [h2, nI_clamp (by omega), b_sh1 (by omega) (by omega)]
  exact decide_eq_decide.mpr (nI_eq (by omega) (by omega)).symm
theorem and_c (x y : Int32) : x &&& y = y &&& x := by
  apply b_ext
  intro i _
  rw [b_and, b_and, Bool.and_comm]
theorem eq_vhe (hk : RK k N S V B) (hm : RM (N 0) (N 1) o r) {h : Nat} (hh : h < N 1) : pVHeld k o (nI h) = jVHe (N 0) S V r (nI h) := by
  rw [pVHeld, jVHe, eq_votes hk, eq_voi hk hm, eq_hel hk hm hh, and_c]
theorem eq_mostF (hk : RK k N S V B) (hm : RM (N 0) (N 1) o r) : ∀ i : Nat, i < N 1 → ∃ h : Nat, h < N 1 ∧ pMostF k o i = (nI h, jVHe (N 0) S V r (nI h)) ∧ jMosF (N 0) S V r i = nI h
  | 0, hi => ⟨0, hi, by rw [pMostF, fo_0]; exact congrArg (fun z => ((0 : Int32), z)) (eq_vhe hk hm hi), rfl⟩
  | i + 1, hi => by
    obtain ⟨h, h1, h2, h3⟩ := eq_mostF hk hm i (by omega)
    have e1 : pMostF k o (i + 1) = if (pMostF k o i).2 < pVHeld k o (nI (i + 1)) then (nI (i + 1), pVHeld k o (nI (i + 1))) else pMostF k o i := rfl
    have e2 : jMosF (N 0) S V r (i + 1) = if jVHe (N 0) S V r (nI (i + 1)) ≤ jVHe (N 0) S V r (jMosF (N 0) S V r i) then jMosF (N 0) S V r i else nI (i + 1) := rfl
    rw [e1, e2, h2, h3, eq_vhe hk hm hi]
    by_cases q : jVHe (N 0) S V r (nI (i + 1)) ≤ jVHe (N 0) S V r (nI h)
    · rw [if_pos q, if_neg (Int32.not_lt.mpr q)]
      exact ⟨h, h1, rfl, rfl⟩
    · rw [if_neg q, if_pos (Int32.not_le.mp q)]
      exact ⟨i + 1, hi, rfl, rfl⟩
theorem eq_most (hk : RK k N S V B) (hm : RM (N 0) (N 1) o r) : pMost k o = jMos (N 0) (N 1) S V r := by
  have h1 := hk.2.2.2.1
  obtain ⟨h, -, h2, h3⟩ := eq_mostF hk hm (N 1 - 1) (by omega)
  rw [pMost, jMos, hk.2.2.1, h2, h3]
/-! sways, free -/
theorem and_sh1 (x : Int32) {t : Nat} (ht : t < 32) : x &&& sh1 (nI t) = 0 ↔ bt x t = false := by
  rw [and0]
  constructor
  · intro h
    have := h t ht
    rw [b_sh1 ht ht] at this
    simpa using this
  · intro h i hi
    rw [b_sh1 ht hi]
    by_cases q : i = t
    · subst q; simp [h]
    · simp [q]
theorem eq_sway (hk : RK k N S V B) (hm : RM (N 0) (N 1) o r) {j : Nat} (hj : j < 5) : pSway k o (nI j) = jSwy (N 0) S V B r (nI j) := by
  have h7 := hk.2.1
  rw [pSway, jSwy, hk.1]
  unfold pSwayF jSwyF
  rw [eq_voi hk hm, eq_yes hk hm hj]
  apply fo_cong
  intro t y ht
  rw [eq_passBy hk, eq_passBy hk, jSwyB]
  have h1 := and_sh1 (jVoi (N 0) S r) (t := t) (by omega)
  have h2 := bit1 (jVoi (N 0) S r) (n := t) (by omega)
  by_cases q : bt (jVoi (N 0) S r) t = true
  · rw [if_neg (fun z => by rw [h1.mp z] at q; cases q)]
    simp only [h2.mpr q, decide_true, Bool.true_and]
    split
    · rename_i z; simp [z, or0]
    · rename_i z; simp [z]
  · have q' : bt (jVoi (N 0) S r) t = false := by simpa using q
    rw [if_pos (h1.mpr q')]
    have : ¬ bitI (jVoi (N 0) S r) (nI t) = 1 := fun z => q (h2.mp z)
    simp [this, or0]
/-! power -/
theorem eq_car (hk : RK k N S V B) (hm : RM (N 0) (N 1) o r) (x : Int32) : pCar k x (jVoi (N 0) S r) = jCar (N 0) S V r x := by
  rw [pCar, jCar, eq_votes hk, eq_votes hk, ← decide_not]
  exact decide_eq_decide.mpr Int32.not_le.symm
theorem eq_orders (hk : RK k N S V B) (hm : RM (N 0) (N 1) o r) : pOrders k o = jOrd (jOnes (jVoi (N 0) S r)) := by
  rw [pOrders, eq_voi hk hm, ((voi_Sm S r hk.2.1).mono hk.2.1).pop]
  obtain ⟨q, hq, e⟩ := jOnes_n (jVoi (N 0) S r)
  rw [e]
  exact ord_eq q (by omega)
theorem within_t (x v : Int32) {t : Nat} (ht : t < 32) : x &&& iv (v &&& iv (sh1 (nI t))) = 0 ↔ x &&& iv v = 0 ∧ bt x t = false := by
  rw [and0, and0]
  constructor
  · intro h
    refine ⟨fun i hi => ?_, ?_⟩
    · have := h i hi
      rw [b_iv _ hi, b_and, b_iv _ hi] at this
      rw [b_iv _ hi]
      revert this
      cases bt x i <;> cases bt v i <;> simp
    · have := h t ht
      rw [b_iv _ ht, b_and, b_iv _ ht, b_sh1 ht ht] at this
      simpa using this
  · intro h i hi
    have h1 := h.1 i hi
    rw [b_iv _ hi] at h1
    rw [b_iv _ hi, b_and, b_iv _ hi, b_sh1 ht hi]
    by_cases q : i = t
    · subst q; simp [h.2]
    · simpa [q] using h1
theorem ones_sh1 : ∀ t, t < 7 → onN (sh1 (nI t)) 7 = 1 := by decide +kernel
theorem ord_val {i t : Nat} {v : Int32} (hi : i < 128) (ht : t < 7) (hv : Sm 7 v) (hvt : bt v t = true) (h1 : nI i &&& iv v = 0) (h2 : bt (nI i) t = false) :
    pOrd (pPop (nI i)) * pOrd (pPop ((v &&& iv (sh1 (nI t))) &&& iv (nI i))) = jOrd (jOnes (nI i)) * jOrd (jOnes v - 1 - jOnes (nI i)) := by
  have a1 := jOnes_on (nI i) 7 (by omega)
  have a2 := jOnes_on v 7 (by omega)
  have a3 := jOnes_on ((v &&& iv (sh1 (nI t))) &&& iv (nI i)) 7 (by omega)
  have s1 : onN (v &&& iv (sh1 (nI t))) 7 + onN (sh1 (nI t)) 7 = onN v 7 := by
    apply onN_sub
    intro j hj
    rw [b_and, b_iv _ (by omega), b_sh1 (by omega) (by omega)]
    refine ⟨fun q => ?_, rfl⟩
    have : j = t := by simpa using q
    rw [this]; exact hvt
  have s2 : onN ((v &&& iv (sh1 (nI t))) &&& iv (nI i)) 7 + onN (nI i) 7 = onN (v &&& iv (sh1 (nI t))) 7 := by
    apply onN_sub
    intro j hj
    refine ⟨fun q => ?_, by rw [b_and, b_iv (nI i) (by omega)]⟩
    rw [b_and, b_iv _ (by omega), b_sh1 (by omega) (by omega)]
    have z := (and0 _ _).mp h1 j (by omega)
    rw [b_iv _ (by omega), q] at z
    have hne : j ≠ t := fun e => by rw [e, h2] at q; cases q
    have hv2 : bt v j = true := by revert z; cases bt v j <;> simp
    simp [hne, hv2]
  rw [ones_sh1 t ht] at s1
  have l1 := onN_le (nI i) 7
  have l2 := onN_le v 7
  have l3 := onN_le ((v &&& iv (sh1 (nI t))) &&& iv (nI i)) 7
  have hz : Sm 7 ((v &&& iv (sh1 (nI t))) &&& iv (nI i)) := hv.andl.andl
  rw [pop_ones i hi, hz.pop]
  have e1 : jOnes (nI i) = nI (onN (nI i) 7) := a1
  have e2 : jOnes v = nI (onN v 7) := a2
  have e3 : jOnes ((v &&& iv (sh1 (nI t))) &&& iv (nI i)) = nI (onN ((v &&& iv (sh1 (nI t))) &&& iv (nI i)) 7) := a3
  rw [e1, e2, e3, ord_eq _ (by omega), ord_eq _ (by omega), show (1 : Int32) = nI 1 from rfl, pk_sub (by omega), pk_sub (by omega)]
  congr 3
  omega
theorem eq_dec (hk : RK k N S V B) (hm : RM (N 0) (N 1) o r) {t : Nat} (ht : t < 7) (hv : bt (jVoi (N 0) S r) t = true) : pDec k t (jVoi (N 0) S r) = jDec (N 0) S V r t := by
  have h7 := hk.2.1
  have hne : ¬ jVoi (N 0) S r &&& iv (sh1 (nI t)) = jVoi (N 0) S r := fun z => by
    have := congrArg (fun x => bt x t) z
    simp only [b_and, b_iv _ (show t < 32 by omega), b_sh1 (show t < 32 by omega) (show t < 32 by omega), hv] at this
    simp at this
  rw [pDec, if_neg hne, jDec]
  unfold pDecF jDecF
  apply fo_cong
  intro i y hi
  rw [eq_car hk hm, eq_car hk hm, pWithin]
  have hw := within_t (nI i) (jVoi (N 0) S r) (t := t) (by omega)
  have hb := bit0 (nI i) (n := t) (by omega)
  by_cases q : nI i &&& iv (jVoi (N 0) S r) = 0 ∧ bt (nI i) t = false
  · rw [decide_eq_true (hw.mpr q)]
    have q2 := hb.mpr q.2
    cases c1 : jCar (N 0) S V r (nI i)
    · cases c2 : jCar (N 0) S V r (nI i ||| sh1 (nI t))
      · simp [add0]
      · simp only [Bool.not_false, Bool.and_self, if_true]
        rw [if_pos ⟨q.1, q2, trivial, trivial⟩, ord_val hi ht ((voi_Sm S r h7).mono h7) hv q.1 q.2]
    · simp [add0]
  · rw [decide_eq_false (fun z => q (hw.mp z))]
    simp only [Bool.false_and, Bool.false_eq_true, if_false]
    rw [if_neg (fun z => q ⟨z.1, hb.mp z.2.1⟩)]
    exact (add0 y).symm
theorem dec_no {t : Nat} {v : Int32} (ht : t < 32) (hv : bt v t = false) : pDec k t v = 0 := by
  rw [pDec, if_pos]
  apply b_ext
  intro i hi
  rw [b_and, b_iv _ hi, b_sh1 ht hi]
  by_cases q : i = t
  · subst q; simp [hv]
  · simp [q]
theorem eq_dum (hk : RK k N S V B) (hm : RM (N 0) (N 1) o r) : pLess k o = oF (fun t => jSpk S r t && decide (jDec (N 0) S V r t = 0)) (N 0) := by
  have h7 := hk.2.1
  have e : pLess k o = oF (fun t => bt (jVoi (N 0) S r) t && decide (pDec k t (jVoi (N 0) S r) = 0)) 7 := by
    rw [pLess]
    unfold pLessF oF
    apply fo_cong
    intro t y ht
    rw [eq_voi hk hm]
    have hb := bit1 (jVoi (N 0) S r) (n := t) (by omega)
    by_cases q : bt (jVoi (N 0) S r) t = true
    · rw [if_pos (hb.mpr q)]
      by_cases z : pDec k t (jVoi (N 0) S r) = 0
      · simp [q, z]
      · simp [q, z, or0]
    · rw [if_neg (fun z => q (hb.mp z))]
      simp [q, or0]
  rw [e]
  apply b_ext
  intro i hi
  rw [b_oF _ _ (by omega) i hi, b_oF _ _ (by omega) i hi]
  have hb := b_voi S r h7 hi
  by_cases q : i < N 0
  · have hs : bt (jVoi (N 0) S r) i = jSpk S r i := by rw [hb]; simp [q]
    rw [← hs]
    cases hv : bt (jVoi (N 0) S r) i
    · simp
    · rw [eq_dec hk hm (by omega) hv]
      simp [q, show i < 7 by omega]
  · have hv : bt (jVoi (N 0) S r) i = false := by rw [hb]; simp [q]
    simp [q, hv]
theorem eq_lea (hk : RK k N S V B) (hm : RM (N 0) (N 1) o r) {x : Int32} : pLea k x (jVoi (N 0) S r) = jLea (N 0) S V r x := by
  have h7 := hk.2.1
  rw [pLea, jLea, jLea0, eq_car hk hm, pWithin]
  by_cases q : x &&& iv (jVoi (N 0) S r) = 0
  · congr 1
    have hb : ∀ t, t < 7 → pLeaB k x (jVoi (N 0) S r) t = jLeaB (N 0) S V r x t := by
      intro t ht
      rw [pLeaB, jLeaB, eq_car hk hm, bitI_bt _ (by omega)]
      cases bt x t
      · simp [b2i]
      · simp [b2i]
    rw [allB_cong hb]
    cases h : allB (jLeaB (N 0) S V r x) (N 0)
    · cases h2 : allB (jLeaB (N 0) S V r x) 7
      · rfl
      · rw [allB_iff] at h2
        rw [allB_iff.mpr (fun i hi => h2 i (by omega))] at h
        cases h
    · rw [allB_iff] at h ⊢
      intro i hi
      by_cases z : i < N 0
      · exact h i z
      · have hv := voi_Sm S r h7 i (by omega) (by omega)
        have hx := (and0 _ _).mp q i (by omega)
        rw [b_iv _ (by omega), hv] at hx
        have hx : bt x i = false := by simpa using hx
        rw [jLeaB, bitI_bt _ (by omega), hx]
        rfl
  · simp [q]
end EQA

/-! turn -/
section EQT
variable {k : Cn} {o : Mo} {N : Nat → Nat} {S V B r : Ar}
def tuQ (n : Nat) (S V B r : Ar) (b : Int32) (i : Nat) : Bool := decide (nI i &&& iv (jVoi n S r) = 0) && jPBy n V (jVoi n S r) (jYes n B r b ^^^ nI i)
theorem eq_turn (hk : RK k N S V B) (hm : RM (N 0) (N 1) o r) {j : Nat} (hj : j < 5) : pTurn k o (nI j) = feF (tuQ (N 0) S V B r (nI j)) 128 := by
  rw [pTurn]
  unfold pTurnF
  rw [eq_voi hk hm, eq_yes hk hm hj, ← feF_p (P := tuQ (N 0) S V B r (nI j)) (fun _ _ => rfl) 128 (Nat.le_refl _)]
  apply fo_cong
  intro i y hi
  rw [eq_passBy hk, tuQ, pWithin]
  cases decide (nI i &&& iv (jVoi (N 0) S r) = 0) <;> cases pFewer (nI i) y <;> cases jPBy (N 0) V (jVoi (N 0) S r) (jYes (N 0) B r (nI j) ^^^ nI i) <;> rfl
/-! hand -/
theorem jHaw_at (s : Ar) (x : Int32) (may : Bool) (well : Int32) : ∀ n t : Nat, jHaw s x may well n t = if t < n then (if bitI x (nI t) = 1 ∧ may = true then well else s t) else s t
  | 0, t => by rw [jHaw, fo_0, if_neg (Nat.not_lt_zero t)]
  | n + 1, t => by
    rw [jHaw, fo_s, ← jHaw]
    by_cases q : t = n
    · subst q
      rw [pk_us, if_pos (Nat.lt_succ_self t)]
    · rw [pk_un q, jHaw_at s x may well n t]
      have : (t < n + 1) ↔ (t < n) := by omega
      simp only [this]
theorem wel_dec : ∀ m, m < 6 → ∀ s, s < 2 ^ m → (pPop (nI s) < nI m ↔ ¬ jWelF (fun _ => nI s) m = -9) := by decide +kernel
theorem jWelF_r (r : Ar) : ∀ m, jWelF r m = jWelF (fun _ => r 16) m
  | 0 => rfl
  | m + 1 => by rw [jWelF, fo_s, ← jWelF, jWelF_r r m]; rfl
theorem jWelF_w (r : Ar) : ∀ m, m ≤ 32 → jWelF r m = -9 ∨ ∃ w : Nat, w < m ∧ jWelF r m = nI w ∧ bt (r 16) w = false
  | 0, _ => Or.inl rfl
  | m + 1, h => by
    rw [jWelF, fo_s, ← jWelF]
    split
    · rcases jWelF_w r m (by omega) with q | ⟨w, h1, h2, h3⟩
      · exact Or.inl q
      · exact Or.inr ⟨w, by omega, h2, h3⟩
    · rename_i q
      refine Or.inr ⟨m, by omega, rfl, ?_⟩
      cases z : bt (r 16) m
      · rfl
      · exact absurd ((bit1 _ (by omega)).mpr z) q
theorem b_ofs (n : Nat) (hn : n ≤ 7) (s : Ar) {i : Nat} (hi : i < 32) : ∀ m : Nat, m ≤ 32 → (bt (jOfsF n s m) i = true ↔ i < n ∧ ∃ h : Nat, h < m ∧ bt (s 16) h = true ∧ s i = nI h)
  | 0, _ => by
    rw [jOfsF, fo_0, b_0]
    constructor
    · intro q; cases q
    · rintro ⟨-, h, q, -⟩; exact absurd q (Nat.not_lt_zero h)
  | m + 1, hm => by
    rw [jOfsF, fo_s, ← jOfsF, b_or, Bool.or_eq_true, b_ofs n hn s hi m (by omega)]
    have hb := bit1 (s 16) (n := m) (by omega)
    constructor
    · rintro (⟨h1, h, h2, h3⟩ | q)
      · exact ⟨h1, h, by omega, h3⟩
      · by_cases z : bitI (s 16) (nI m) = 1
        · rw [if_pos z, jHel_oF, b_oF _ _ (by omega) i hi, Bool.and_eq_true] at q
          exact ⟨by simpa using q.1, m, by omega, hb.mp z, by simpa using q.2⟩
        · rw [if_neg z, b_0] at q; cases q
    · rintro ⟨h1, h, h2, h3, h4⟩
      by_cases z : h = m
      · subst z
        right
        rw [if_pos (hb.mpr h3), jHel_oF, b_oF _ _ (by omega) i hi]
        simp [h1, h4]
      · exact Or.inl ⟨h1, h, by omega, h3, h4⟩
theorem eq_ofs (hk : RK k N S V B) (hm : RM (N 0) (N 1) o r) : pHeld k o (mSi o) = jOfsF (N 0) r (N 1) := by
  have h7 := hk.2.1
  have h5 := hk.2.2.2.2.1
  rw [pHeld, hk.1, eq_heldF hm _ h5, hm.2.2.2.2.1]
  apply b_ext
  intro i hi
  rw [Bool.eq_iff_iff, b_ofs _ h7 _ hi _ (by omega), b_oF _ _ (by omega) i hi, Bool.and_eq_true, decide_eq_true_eq]
  constructor
  · rintro ⟨h1, h2⟩
    obtain ⟨-, h, hh, e⟩ := hm.1 i h1
    have h2 : bt (r 16) (r i).toNatClampNeg = true := h2
    rw [e, nI_clamp (by omega)] at h2
    exact ⟨h1, h, hh, h2, e⟩
  · rintro ⟨h1, h, hh, h2, e⟩
    refine ⟨h1, ?_⟩
    show bt (r 16) (r i).toNatClampNeg = true
    rw [e, nI_clamp (by omega)]
    exact h2
theorem eq_well (hk : RK k N S V B) (hm : RM (N 0) (N 1) o r) : pWell k o = !decide (jWelF r (N 1) = -9) := by
  have h5 := hk.2.2.2.2.1
  obtain ⟨x, hx, e⟩ := hm.2.2.2.2.2.2.2.2.2.1.lt (by omega)
  rw [pWell, hk.2.2.1, hm.2.2.2.2.1, jWelF_r, e, ← decide_not]
  exact decide_eq_decide.mpr (wel_dec (N 1) (by omega) x hx)
def haQ (n : Nat) (S V B r : Ar) (well ofs b : Int32) (i : Nat) : Bool := decide (nI i &&& iv ofs = 0) && (decide (i = 0) || !decide (well = -9)) && jPas n S V B (jHaw r (nI i) true well n) b
theorem within_0 {i : Nat} (h : i < 128) : nI i &&& iv 0 = 0 ↔ i = 0 := by
  have : ∀ i, i < 128 → (nI i &&& iv 0 = 0 ↔ i = 0) := by decide +kernel
  exact this i h
theorem eq_mov (hk : RK k N S V B) (hm : RM (N 0) (N 1) o r) {i : Nat} (hi : i < 128) : pWithin (nI i) (pMov k o) = (decide (nI i &&& iv (jOfsF (N 0) r (N 1)) = 0) && (decide (i = 0) || !decide (jWelF r (N 1) = -9))) := by
  rw [pWithin, pMov, eq_well hk hm, eq_ofs hk hm]
  by_cases q : jWelF r (N 1) = -9
  · simp only [q, decide_true, Bool.not_true, Bool.false_eq_true, if_false, Bool.or_false]
    by_cases z : i = 0
    · subst z
      have e : nI 0 &&& iv (jOfsF (N 0) r (N 1)) = 0 := by
        rw [and0]; intro j _; rw [show nI 0 = 0 from rfl, b_0]; rfl
      simp [(within_0 hi).mpr rfl, e]
    · have y : ¬ nI i &&& iv 0 = 0 := fun y => z ((within_0 hi).mp y)
      simp [z, y]
  · simp [q]
theorem able_Sm (hk : RK k N S V B) (hm : RM (N 0) (N 1) o r) {i : Nat} (hi : i < 32) : bt (pAble k o) i = (decide (i < N 0) && jAb S r i && !bt (r 14) i) := by
  have h7 := hk.2.1
  have hT : kT k = N 0 := hk.1
  rw [pAble, hT, eq_able hk hm, hm.2.2.1, b_and, b_iv _ hi, b_oF _ _ (by omega) i hi]
theorem haw_voi (hk : RK k N S V B) (hm : RM (N 0) (N 1) o r) {i : Nat} {well : Int32} (hi : i < 128) (hw : i = 0 ∨ ∃ w : Nat, w < N 1 ∧ well = nI w ∧ bt (r 16) w = false) : jVoi (N 0) S (jHaw r (nI i) true well (N 0)) = jVoi (N 0) S r ||| (nI i &&& pAble k o) := by
  have h7 := hk.2.1
  have h5 := hk.2.2.2.2.1
  apply b_ext
  intro t ht
  rw [b_voi _ _ h7 ht, b_or, b_and, b_voi _ _ h7 ht, able_Sm hk hm ht]
  by_cases q : t < N 0
  · have hs := spk_bt (S := S) hm h5 h7 q (r 16)
    rw [upd_id] at hs
    have e14 : jHaw r (nI i) true well (N 0) 14 = r 14 := by rw [jHaw_at, if_neg (by omega)]
    have e16 : jHaw r (nI i) true well (N 0) 16 = r 16 := by rw [jHaw_at, if_neg (by omega)]
    have e7 : jHaw r (nI i) true well (N 0) (7 + t) = r (7 + t) := by rw [jHaw_at, if_neg (by omega)]
    have et : jHaw r (nI i) true well (N 0) t = if bitI (nI i) (nI t) = 1 ∧ true = true then well else r t := by rw [jHaw_at, if_pos q]
    have hb := bit1 (nI i) (n := t) (by omega)
    rw [hs]
    rw [jSpk, e14, e16, e7, et]
    have d1 : decide (bitI (r 14) (nI t) = 0) = !bt (r 14) t := by
      rw [bitI_bt _ (by omega)]
      cases bt (r 14) t <;> decide
    rw [d1, jAb]
    by_cases z : bt (nI i) t = true
    · rw [if_pos ⟨hb.mpr z, rfl⟩]
      rcases hw with rfl | ⟨w, hw1, rfl, hw3⟩
      · rw [show nI 0 = 0 from rfl, b_0] at z; cases z
      · have d2 : bitI (r 16) (nI w) = 0 := (bit0 _ (by omega)).mpr hw3
        simp only [d2, z, q, decide_true, Bool.true_and, Bool.and_true]
        generalize (!decide (S t = 3)) = x1
        generalize (!decide (S t = 1) || !decide (r (7 + t) ≤ 0)) = x2
        cases bt (r 14) t <;> cases bt (r 16) (r t).toNatClampNeg <;> cases x1 <;> cases x2 <;> rfl
    · rw [if_neg (fun y => z (hb.mp y.1))]
      obtain ⟨-, h, hh, e⟩ := hm.1 t q
      have d2 : decide (bitI (r 16) (nI h) = 0) = !bt (r 16) h := by
        rw [bitI_bt _ (by omega)]
        cases bt (r 16) h <;> decide
      have z' : bt (nI i) t = false := by simpa using z
      rw [e, d2, nI_clamp (by omega), z']
      simp [q, Bool.and_assoc]
  · have z : bt (nI i) t = true → False ∨ True := fun _ => Or.inr trivial
    simp [q]
theorem eq_hand (hk : RK k N S V B) (hm : RM (N 0) (N 1) o r) {j : Nat} (hj : j < 5) : pHand k o (nI j) = feF (haQ (N 0) S V B r (jWelF r (N 1)) (jOfsF (N 0) r (N 1)) (nI j)) 128 := by
  have h7 := hk.2.1
  have h5 := hk.2.2.2.2.1
  rw [pHand]
  unfold pHandF
  rw [eq_voi hk hm, eq_yes hk hm hj, ← feF_p (P := haQ (N 0) S V B r (jWelF r (N 1)) (jOfsF (N 0) r (N 1)) (nI j)) (fun _ _ => rfl) 128 (Nat.le_refl _)]
  apply fo_cong
  intro i y hi
  rw [eq_passBy hk, eq_mov hk hm hi, haQ]
  cases q : (decide (nI i &&& iv (jOfsF (N 0) r (N 1)) = 0) && (decide (i = 0) || !decide (jWelF r (N 1) = -9)))
  · simp
  · have hw : i = 0 ∨ ∃ w : Nat, w < N 1 ∧ jWelF r (N 1) = nI w ∧ bt (r 16) w = false := by
      rw [Bool.and_eq_true, Bool.or_eq_true] at q
      rcases q.2 with z | z
      · exact Or.inl (by simpa using z)
      · rcases jWelF_w r (N 1) (by omega) with y | y
        · simp [y] at z
        · exact Or.inr y
    have e15 : jHaw r (nI i) true (jWelF r (N 1)) (N 0) 15 = r 15 := by rw [jHaw_at, if_neg (by omega)]
    have ey : jYes (N 0) B (jHaw r (nI i) true (jWelF r (N 1)) (N 0)) (nI j) = jYes (N 0) B r (nI j) := by rw [jYes_oF _ h7 _ _ hj, jYes_oF _ h7 _ _ hj, e15]
    rw [jPas, haw_voi hk hm hi hw, ey]
    simp only [Bool.true_and]
    cases pFewer (nI i) y <;> cases jPBy (N 0) V (jVoi (N 0) S r ||| (nI i &&& pAble k o)) (jYes (N 0) B r (nI j)) <;> rfl
end EQT

/-! what the class is told, and what the model is told -/
def RK (k : Cn) (N : Nat → Nat) (S V B : Ar) : Prop := kT k = N 0 ∧ N 0 ≤ 7 ∧ kO k = N 1 ∧ 1 ≤ N 1 ∧ N 1 ≤ 5 ∧ kW k = nI (N 2) ∧ N 2 ≤ 9 ∧ ∀ t, t < N 0 → kS k t = S t ∧ kV k t = V t ∧ kB k t = B t ∧ Sm 5 (B t)
/-- a moment of the class, a row of the model: n things, m officers -/
def RM (n m : Nat) (o : Mo) (r : Ar) : Prop := (∀ t, t < n → mH o t = r t ∧ ∃ h : Nat, h < m ∧ r t = nI h) ∧ (∀ t, t < n → mW o t = r (7 + t) ∧ ∃ w : Nat, w < 2 ^ 31 ∧ r (7 + t) = nI w) ∧ mWa o = r 14 ∧ mTu o = r 15 ∧ mSi o = r 16 ∧ mPu o = r 17 ∧ mPa o = r 18 ∧ Sm n (r 14) ∧ Sm n (r 15) ∧ Sm m (r 16) ∧ ∃ x : Nat, x ≤ 999 ∧ r 17 = nI x
def jAb (S r : Ar) (t : Nat) : Bool := !decide (S t = 3) && (!decide (S t = 1) || !decide (r (7 + t) ≤ 0))
theorem nIw_0 {w : Nat} (h : w < 2 ^ 31) : nI w = 0 ↔ nI w ≤ 0 := by
  constructor
  · intro q; rw [q]; decide
  · intro q
    have := nI_le0 h q
    rw [this]; rfl
section EQS
variable {k : Cn} {o : Mo} {N : Nat → Nat} {S V B r : Ar}
theorem eq_able (hk : RK k N S V B) (hm : RM (N 0) (N 1) o r) : pAbleF k o (N 0) = oF (jAb S r) (N 0) := by
  unfold pAbleF oF
  apply fo_cong
  intro t y ht
  obtain ⟨h1, -, -, -⟩ := hk.2.2.2.2.2.2.2 t ht
  obtain ⟨h2, w, hw, hw2⟩ := hm.2.1 t ht
  rw [h1, h2, jAb, hw2]
  by_cases q3 : S t = 3
  · simp [q3, or0]
  · by_cases q1 : S t = 1
    · by_cases q0 : nI w = 0
      · have q0' := (nIw_0 hw).mp q0
        simp [q1, q0, or0]
      · have q0' : ¬ nI w ≤ 0 := fun z => q0 ((nIw_0 hw).mpr z)
        simp [q1, q0, q0']
    · simp [q1, q3]
theorem eq_heldF (hm : RM (N 0) (N 1) o r) (x : Int32) (hx : N 1 ≤ 5) : pHeldF o x (N 0) = oF (fun t => bt x (r t).toNatClampNeg) (N 0) := by
  unfold pHeldF oF
  apply fo_cong
  intro t y ht
  obtain ⟨h1, h, hh, h2⟩ := hm.1 t ht
  show (if bitI x (mH o t) = 1 then y ||| sh1 (nI t) else y) = (y ||| if bt x (r t).toNatClampNeg = true then sh1 (nI t) else 0)
  rw [h1, h2, nI_clamp (by omega)]
  have := bit1 x (n := h) (by omega)
  by_cases q : bt x h = true
  · rw [if_pos (this.mpr q), if_pos q]
  · rw [if_neg (fun z => q (this.mp z)), if_neg q, or0]
theorem spk_bt {S r : Ar} {n m t : Nat} {o : Mo} (hm : RM n m o r) (hm5 : m ≤ 5) (hn : n ≤ 7) (ht : t < n) (s : Int32) : jSpk S (upd r 16 s) t = (!bt (r 14) t && !bt s (r t).toNatClampNeg && jAb S r t) := by
  obtain ⟨h1, h, hh, h2⟩ := hm.1 t ht
  have e14 : upd r 16 s 14 = r 14 := pk_un (by decide)
  have e16 : upd r 16 s 16 = s := pk_us
  have et : upd r 16 s t = r t := pk_un (by omega)
  have e7 : upd r 16 s (7 + t) = r (7 + t) := pk_un (by omega)
  have d1 : decide (bitI (r 14) (nI t) = 0) = !bt (r 14) t := by
    rw [bitI_bt _ (by omega)]
    cases bt (r 14) t <;> decide
  have d2 : decide (bitI s (nI h) = 0) = !bt s h := by
    rw [bitI_bt _ (by omega)]
    cases bt s h <;> decide
  rw [jSpk, e14, e16, et, e7, h2, d1, d2, nI_clamp (by omega), jAb, Bool.and_assoc]
theorem b_voi (S r : Ar) {n : Nat} (hn : n ≤ 7) {i : Nat} (hi : i < 32) : bt (jVoi n S r) i = (decide (i < n) && jSpk S r i) := b_oF (jSpk S r) n (by omega) i hi
theorem upd_id (r : Ar) : upd r 16 (r 16) = r := upd_self r 16
/-- who would speak, were so many sick -/
theorem eq_voiIf (hk : RK k N S V B) (hm : RM (N 0) (N 1) o r) (s : Int32) : pVoicesIf k o s = jVoi (N 0) S (upd r 16 s) := by
  have h7 := hk.2.1
  have h5 := hk.2.2.2.2.1
  have hT : kT k = N 0 := hk.1
  rw [pVoicesIf, pAble, pHeld, hT, eq_able hk hm, eq_heldF hm s h5, hm.2.2.1]
  apply b_ext
  intro i hi
  rw [b_and, b_and, b_iv _ hi, b_iv _ hi, b_oF _ _ (by omega) i hi, b_oF _ _ (by omega) i hi, b_voi _ _ h7 hi]
  by_cases q : i < N 0
  · rw [spk_bt hm h5 h7 q]
    simp [q, Bool.and_assoc, Bool.and_comm, Bool.and_left_comm]
  · simp [q]
theorem eq_voi (hk : RK k N S V B) (hm : RM (N 0) (N 1) o r) : pVoices k o = jVoi (N 0) S r := by
  rw [pVoices, eq_voiIf hk hm, hm.2.2.2.2.1, upd_id]
theorem eq_votes (hk : RK k N S V B) (x : Int32) : pVotes k x = jVot (N 0) V x := by
  rw [pVotes, jVot, hk.1]
  unfold pVotesF jVotF
  apply fo_cong
  intro t y ht
  obtain ⟨-, h2, -, -⟩ := hk.2.2.2.2.2.2.2 t ht
  rw [h2]
  split
  · rfl
  · exact (add0 y).symm
theorem eq_passBy (hk : RK k N S V B) (x y : Int32) : pPassBy k x y = jPBy (N 0) V x y := by
  rw [pPassBy, jPBy, eq_votes hk, eq_votes hk, ← decide_not]
  exact decide_eq_decide.mpr Int32.not_le.symm
theorem shl_bit (x : Int32) {j t : Nat} (hj : j < 32) (ht : t < 32) : bitI x (nI j) <<< (nI t &&& 31) = if bt x j then sh1 (nI t) else 0 := by
  rw [bitI_bt x hj]
  cases bt x j
  · exact shl0 ht
  · rfl
theorem eq_yesF (hk : RK k N S V B) {j : Nat} (hj : j < 5) : pYesF k (nI j) (N 0) = oF (fun t => bt (B t) j) (N 0) := by
  unfold pYesF oF
  apply fo_cong
  intro t y ht
  have h7 := hk.2.1
  obtain ⟨-, -, h3, -⟩ := hk.2.2.2.2.2.2.2 t ht
  rw [h3, shl_bit _ (by omega) (by omega)]
theorem xor_bit (x y : Int32) {j t : Nat} (hj : j < 32) (ht : t < 32) : ((x >>> (nI j &&& 31)) ^^^ (y >>> (nI t &&& 31))) &&& 1 = b2i (bt x j ^^ bt y t) := by
  apply b_ext
  intro i hi
  rw [b_and, b_xor, b_sshr j hj x hi, b_sshr t ht y hi, b_1 i hi, b_b2i _ hi]
  by_cases h : i = 0
  · subst h
    rw [if_pos (by omega), if_pos (by omega)]
    rfl
  · simp [h]
theorem jYes_oF (n : Nat) (hn : n ≤ 7) (B r : Ar) {j : Nat} (hj : j < 5) : jYes n B r (nI j) = oF (fun t => bt (B t) j ^^ bt (r 15) t) n := by
  unfold jYes jYesF oF
  apply fo_cong
  intro t y ht
  rw [xor_bit _ _ (by omega) (by omega)]
  show (y ||| if b2i (bt (B t) j ^^ bt (r 15) t) = 1 then sh1 (nI t) else 0) = (y ||| if (bt (B t) j ^^ bt (r 15) t) = true then sh1 (nI t) else 0)
  cases (bt (B t) j ^^ bt (r 15) t)
  · rw [if_neg (by decide), if_neg (by decide)]
  · rw [if_pos (by decide), if_pos (by decide)]
theorem eq_yes (hk : RK k N S V B) (hm : RM (N 0) (N 1) o r) {j : Nat} (hj : j < 5) : pYes k o (nI j) = jYes (N 0) B r (nI j) := by
  have h7 := hk.2.1
  have hT : kT k = N 0 := hk.1
  rw [pYes, hT, eq_yesF hk hj, jYes_oF _ h7 _ _ hj, hm.2.2.2.1]
  apply b_ext
  intro i hi
  rw [b_xor, b_oF _ _ (by omega) i hi, b_oF _ _ (by omega) i hi]
  by_cases q : i < N 0
  · simp [q]
  · rw [hm.2.2.2.2.2.2.2.2.1 i (by omega) hi]
    simp [q]
theorem eq_pass (hk : RK k N S V B) (hm : RM (N 0) (N 1) o r) {j : Nat} (hj : j < 5) : pPasses k o (nI j) = jPas (N 0) S V B r (nI j) := by
  rw [pPasses, jPas, eq_passBy hk, eq_voi hk hm, eq_yes hk hm hj]
/-- were so many sick -/
theorem eq_passIf (hk : RK k N S V B) (hm : RM (N 0) (N 1) o r) {j : Nat} (hj : j < 5) (s : Int32) : pPassBy k (pVoicesIf k o s) (pYes k o (nI j)) = jPas (N 0) S V B (upd r 16 s) (nI j) := by
  have e : jYes (N 0) B (upd r 16 s) (nI j) = jYes (N 0) B r (nI j) := by
    rw [jYes_oF _ hk.2.1 _ _ hj, jYes_oF _ hk.2.1 _ _ hj, pk_un (show (15 : Nat) ≠ 16 by decide)]
  rw [jPas, eq_passBy hk, eq_voiIf hk hm, eq_yes hk hm hj, e]
/-- were it for other bills -/
theorem eq_passFor (hk : RK k N S V B) (hm : RM (N 0) (N 1) o r) {j t : Nat} (hj : j < 5) (ht : t < N 0) (s : Nat) : pPassBy k (pVoices k o) (pYesIf k o (nI j) (nI t) (nI s)) = jPas (N 0) S V (upd B t (nI s)) r (nI j) := by
  have h7 := hk.2.1
  rw [jPas, eq_passBy hk, eq_voi hk hm]
  congr 1
  rw [pYesIf, eq_yes hk hm hj, jYes_oF _ h7 _ _ hj, jYes_oF _ h7 _ _ hj, hm.2.2.2.1, bitI_bt _ (show j < 32 by omega), bitI_bt _ (show t < 32 by omega)]
  have hx : b2i (bt (nI s) j) ^^^ b2i (bt (r 15) t) = b2i (bt (nI s) j ^^ bt (r 15) t) := by cases bt (nI s) j <;> cases bt (r 15) t <;> decide
  rw [hx]
  apply b_ext
  intro i hi
  rw [b_or, b_and, b_iv _ hi, b_sh1 (by omega) hi, b_oF _ _ (by omega) i hi, b_oF _ _ (by omega) i hi, b_shl t (by omega) _ hi, b_b2i _ (by omega)]
  by_cases q : i = t
  · subst q
    simp [ht, pk_us]
  · have e : (decide (t ≤ i) && ((bt (nI s) j ^^ bt (r 15) t) && decide (i - t = 0))) = false := by
      by_cases z : t ≤ i
      · have : ¬ i - t = 0 := by omega
        simp [this]
      · simp [z]
    rw [e, pk_un q]
    simp [q]
end EQS

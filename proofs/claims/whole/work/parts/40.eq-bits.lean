def bt (x : Int32) (i : Nat) : Bool := x.toBitVec.getLsbD i
theorem b_ext {x y : Int32} (h : ∀ i, i < 32 → bt x i = bt y i) : x = y := Int32.toBitVec_inj.mp (BitVec.eq_of_getLsbD_eq (fun i hi => h i hi))
theorem b_or (x y : Int32) (i : Nat) : bt (x ||| y) i = (bt x i || bt y i) := by unfold bt; rw [Int32.toBitVec_or, BitVec.getLsbD_or]
theorem b_and (x y : Int32) (i : Nat) : bt (x &&& y) i = (bt x i && bt y i) := by unfold bt; rw [Int32.toBitVec_and, BitVec.getLsbD_and]
theorem b_xor (x y : Int32) (i : Nat) : bt (x ^^^ y) i = (bt x i ^^ bt y i) := by unfold bt; rw [Int32.toBitVec_xor, BitVec.getLsbD_xor]
theorem b_big {x : Int32} {i : Nat} (h : 32 ≤ i) : bt x i = false := BitVec.getLsbD_of_ge _ _ h
theorem b_m1 : ∀ i, i < 32 → bt (-1) i = true := by decide +kernel
theorem b_0 (i : Nat) : bt 0 i = false := BitVec.getLsbD_zero
theorem s_l : ∀ n, n < 32 → ((nI n &&& 31).toBitVec.smod 32).toNat = n := by decide +kernel
theorem b_shl (n : Nat) (hn : n < 32) (x : Int32) {i : Nat} (hi : i < 32) : bt (x <<< (nI n &&& 31)) i = (decide (n ≤ i) && bt x (i - n)) := by
  unfold bt
  rw [Int32.toBitVec_shiftLeft]
  show (x.toBitVec <<< ((nI n &&& 31).toBitVec.smod 32).toNat).getLsbD i = _
  rw [s_l n hn, BitVec.getLsbD_shiftLeft]
  rcases Nat.lt_or_ge i n with h | h
  · simp [h, Nat.not_le.mpr h]
  · simp [hi, h, Nat.not_lt.mpr h]
theorem b_sshr (n : Nat) (hn : n < 32) (x : Int32) {i : Nat} (hi : i < 32) : bt (x >>> (nI n &&& 31)) i = if n + i < 32 then bt x (n + i) else bt x 31 := by
  unfold bt
  rw [Int32.toBitVec_shiftRight]
  show (x.toBitVec.sshiftRight ((nI n &&& 31).toBitVec.smod 32).toNat).getLsbD i = _
  rw [s_l n hn, BitVec.getLsbD_sshiftRight, BitVec.msb_eq_getLsbD_last]
  simp [hi]
/-! sets as bits -/
theorem b_1 : ∀ i, i < 32 → bt 1 i = decide (i = 0) := by decide +kernel
theorem b_iv (x : Int32) {i : Nat} (h : i < 32) : bt (iv x) i = !bt x i := by rw [iv, b_xor, b_m1 i h, Bool.xor_true]
theorem b_sh1 {n : Nat} (hn : n < 32) {i : Nat} (hi : i < 32) : bt (sh1 (nI n)) i = decide (i = n) := by
  rw [sh1, b_shl n hn _ hi, b_1 _ (by omega), ← Bool.decide_and]
  exact decide_eq_decide.mpr ⟨fun h => by omega, fun h => by omega⟩
theorem b_b2i (b : Bool) {i : Nat} (hi : i < 32) : bt (b2i b) i = (b && decide (i = 0)) := by
  cases b
  · exact b_0 i
  · rw [Bool.true_and]; exact b_1 i hi
theorem bitI_bt (x : Int32) {n : Nat} (hn : n < 32) : bitI x (nI n) = b2i (bt x n) := by
  apply b_ext
  intro i hi
  rw [bitI, b_and, b_sshr n hn x hi, b_1 i hi, b_b2i _ hi]
  by_cases h : i = 0
  · subst h
    rw [if_pos (by omega)]
    rfl
  · simp [h]
theorem bit1 (x : Int32) {n : Nat} (hn : n < 32) : bitI x (nI n) = 1 ↔ bt x n = true := by rw [bitI_bt x hn]; cases bt x n <;> decide
theorem bit0 (x : Int32) {n : Nat} (hn : n < 32) : bitI x (nI n) = 0 ↔ bt x n = false := by rw [bitI_bt x hn]; cases bt x n <;> decide
theorem or0 (x : Int32) : x ||| 0 = x := by
  apply b_ext
  intro i _
  rw [b_or, b_0, Bool.or_false]
theorem add0 (x : Int32) : x + 0 = x := Int32.add_zero x
theorem shl0 {t : Nat} (ht : t < 32) : (0 : Int32) <<< (nI t &&& 31) = 0 := by
  apply b_ext
  intro i hi
  rw [b_shl t ht _ hi, b_0, b_0, Bool.and_false]
theorem and0 (x y : Int32) : x &&& y = 0 ↔ ∀ i, i < 32 → (bt x i && bt y i) = false := by
  constructor
  · intro h i _
    rw [← b_and, h, b_0]
  · intro h
    apply b_ext
    intro i hi
    rw [b_and, b_0]
    exact h i hi
/-- the set of those below n that p names -/
def oF (p : Nat → Bool) : Nat → Int32 := fo (fun t z => z ||| (if p t then sh1 (nI t) else 0)) 0
theorem b_oF (p : Nat → Bool) : ∀ n : Nat, n ≤ 32 → ∀ i, i < 32 → bt (oF p n) i = (decide (i < n) && p i)
  | 0, _, i, _ => by rw [oF, fo_0, b_0]; simp
  | n + 1, hn, i, hi => by
    rw [oF, fo_s, ← oF, b_or, b_oF p n (by omega) i hi]
    by_cases h : i = n
    · subst h
      cases hp : p i
      · simp [b_0]
      · simp [b_sh1 (show i < 32 by omega) hi]
    · have e : (i < n + 1) ↔ (i < n) := by omega
      cases hp : p n
      · simp [b_0, e]
      · simp [b_sh1 (show n < 32 by omega) hi, h, e]
theorem oF_cong {p q : Nat → Bool} {n : Nat} (h : ∀ t, t < n → p t = q t) : oF p n = oF q n := by
  unfold oF
  exact fo_cong (fun i y hi => by rw [h i hi])
/-- nothing from n on -/
def Sm (n : Nat) (x : Int32) : Prop := ∀ i, n ≤ i → i < 32 → bt x i = false
theorem Sm.lt {n : Nat} {x : Int32} (h : Sm n x) (hn : n ≤ 30) : ∃ j : Nat, j < 2 ^ n ∧ x = nI j := by
  refine ⟨x.toBitVec.toNat, ?_, Int32.toBitVec_inj.mp (by show _ = BitVec.ofNat 32 _; simp)⟩
  apply Nat.lt_pow_two_of_testBit
  intro i hi
  rcases Nat.lt_or_ge i 32 with q | q
  · exact h i hi q
  · exact b_big (x := x) q
theorem b_nI {j i : Nat} (hi : i < 32) : bt (nI j) i = j.testBit i := by
  show (BitVec.ofNat 32 j).getLsbD i = _
  rw [BitVec.getLsbD_ofNat]
  simp [hi]
theorem Sm.of {n j : Nat} (h : j < 2 ^ n) : Sm n (nI j) := by
  intro i h1 h2
  rw [b_nI h2]
  exact Nat.testBit_lt_two_pow (Nat.lt_of_lt_of_le h (Nat.pow_le_pow_right (by omega) h1))
theorem Sm.z (n : Nat) : Sm n 0 := fun i _ _ => b_0 i
theorem Sm.or {n : Nat} {x y : Int32} (h1 : Sm n x) (h2 : Sm n y) : Sm n (x ||| y) := fun i a b => by rw [b_or, h1 i a b, h2 i a b]; rfl
theorem Sm.xor {n : Nat} {x y : Int32} (h1 : Sm n x) (h2 : Sm n y) : Sm n (x ^^^ y) := fun i a b => by rw [b_xor, h1 i a b, h2 i a b]; rfl
theorem Sm.andl {n : Nat} {x y : Int32} (h1 : Sm n x) : Sm n (x &&& y) := fun i a b => by rw [b_and, h1 i a b]; rfl
theorem Sm.sh {n t : Nat} (h : t < n) (hn : n ≤ 32) : Sm n (sh1 (nI t)) := fun i a b => by rw [b_sh1 (by omega) b]; exact decide_eq_false (by omega)
theorem Sm.oF {p : Nat → Bool} {n : Nat} (hn : n ≤ 32) : Sm n (oF p n) := fun i a b => by rw [b_oF p n hn i b, decide_eq_false (by omega)]; rfl
theorem Sm.mono {n m : Nat} {x : Int32} (h : Sm n x) (hm : n ≤ m) : Sm m x := fun i a b => h i (by omega) b
/-! counting -/
theorem pop_ones : ∀ j, j < 128 → pPop (nI j) = jOnes (nI j) := by decide +kernel
theorem Sm.pop {x : Int32} (h : Sm 7 x) : pPop x = jOnes x := by
  obtain ⟨j, hj, rfl⟩ := h.lt (by omega)
  exact pop_ones j hj
theorem ord_eq : ∀ k, k < 8 → pOrd (nI k) = jOrd (nI k) := by decide +kernel
def onN (x : Int32) : Nat → Nat
  | 0 => 0
  | n + 1 => onN x n + (bt x n).toNat
theorem jOnes_on (x : Int32) : ∀ n, n ≤ 32 → jOnesF x n = nI (onN x n)
  | 0, _ => rfl
  | n + 1, h => by
    rw [jOnesF, fo_s, ← jOnesF, jOnes_on x n (by omega), bitI_bt x (by omega), onN, ← nI_add]
    cases bt x n <;> rfl
theorem onN_le (x : Int32) : ∀ n, onN x n ≤ n
  | 0 => Nat.le_refl 0
  | n + 1 => by
    have := onN_le x n
    have h2 : (bt x n).toNat ≤ 1 := Bool.toNat_le _
    rw [onN]
    omega
theorem onN_cong {x y : Int32} : ∀ n, (∀ i, i < n → bt x i = bt y i) → onN x n = onN y n
  | 0, _ => rfl
  | n + 1, h => by rw [onN, onN, onN_cong n (fun i hi => h i (by omega)), h n (by omega)]
/-- x without y, y within x -/
theorem onN_sub {x y z : Int32} : ∀ n, (∀ i, i < n → (bt y i = true → bt x i = true) ∧ bt z i = (bt x i && !bt y i)) → onN z n + onN y n = onN x n
  | 0, _ => rfl
  | n + 1, h => by
    have h1 := onN_sub n (fun i hi => h i (by omega))
    have h2 := h n (by omega)
    rw [onN, onN, onN, h2.2]
    cases hx : bt x n <;> cases hy : bt y n <;> simp [hx, hy] at h2 ⊢ <;> omega

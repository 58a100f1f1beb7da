/-! the model: puts, rate, trace, who, swaps, hand, isFor, odds, power -/
def jCool (s : Ar) : Nat → Ar := fo (fun t r => upd r (7 + t) (r (7 + t) - (if r (7 + t) ≤ 0 then 0 else 1))) s
theorem jCool_0 (s : Ar) : jCool s 0 = s := rfl
theorem jCool_s {s : Ar} {i : Nat} (x : Int32) (hx : x = if jCool s i (7 + i) ≤ 0 then 0 else 1) : upd (jCool s i) (7 + i) (jCool s i (7 + i) - x) = jCool s (i + 1) := by
  rw [hx]; rfl
def yPutS (s : Ar) (x : Int32) : Ar := upd (upd s 17 (s 17 + 1)) 18 (upd s 17 (s 17 + 1) 18 + x)
def yPuts (c : JX) (b : Int32) : Int32 × JX := if pIn b 0 4 then (if qS c 17 = 999 then (-2, c) else (b2i (jPas (qN c 0) (qSo c) (qVo c) (qBi c) (qS c) b), wS (yNote c) (jCool (yPutS (qS c) (b2i (jPas (qN c 0) (qSo c) (qVo c) (qBi c) (qS c) b))) (qN c 0)))) else (-1, c)
def yRaV (c : JX) (k : Int32) (t : Nat) : Int32 := if k = 0 then qVo c t else if k = 1 then qVo c t + jOnes (qBi c t) else if k = 2 then qVo c t - qS c (7 + t) else if k = 3 then 2 * (qVo c t + jOnes (qBi c t)) else if k = 4 then qVo c t - qS c (7 + t) + nI t else qVo c t + qS c 17
def yRaT (k : Int32) : Int64 := if k = 0 then 1 else if k = 1 then 11 else if k = 2 then 101 else if k = 3 then 1011 else if k = 4 then 10101 else 100001
def yRate (c : JX) (k t : Int32) : Int32 × JX := if pIn k 0 5 && jIsT (qN c 0) t then (yRaV c k t.toNatClampNeg, wTr c (qTr c + yRaT k)) else (-1000000, c)
theorem upd_upd (f : Ar) (i : Nat) (x y : Int32) : upd (upd f i x) i y = upd f i y := by
  funext k
  simp only [upd]
  split <;> rfl
def yWhoX : Nat → Int32
  | 0 => 0
  | n + 1 => sh1 (nI n)
def yWhoP (c : JX) (x : Int32) : Bool := jRec (qN c 0) (qSo c) (qVo c) (qBi c) (upd (qS c) 16 x) (qRb c) (qRi c) (qRm c)
def yWhoF (c : JX) : Nat → Int32 := fo (fun o z => z ||| (if yWhoP c (sh1 (nI o)) then sh1 (nI o) else 0)) (if yWhoP c 0 then 32 else 0)
def yWho (c : JX) : Int32 × JX := (yWhoF c (qN c 1), wW c (upd (qS c) 16 (yWhoX (qN c 1))))
def jSwR (s : Ar) (t e : Nat) : Ar := upd (upd s t (s e)) e (s t)
def ySwP (c : JX) (b : Int32) (t e : Nat) : Bool := !decide (qS c t = qS c e) && !decide (jPas (qN c 0) (qSo c) (qVo c) (qBi c) (jSwR (qS c) t e) b = jPas (qN c 0) (qSo c) (qVo c) (qBi c) (qS c) b)
def ySwG (c : JX) (b : Int32) (t : Nat) (r : Int32 × Ar) : Nat → Int32 × Ar := fo (fun e q => (q.1 + (if ySwP c b t e then 1 else 0), jSwR (qS c) t e)) r
def ySwF (c : JX) (b : Int32) : Nat → Int32 × Ar := fo (fun t r => ySwG c b t r t) (0, qW c)
def ySwaps (c : JX) (b : Int32) : Int32 × JX := if pIn b 0 4 then ((ySwF c b (qN c 0)).1, wW c (ySwF c b (qN c 0)).2) else (-1, c)
theorem upd_self (f : Ar) (i : Nat) : upd f i (f i) = f := by
  funext k
  simp only [upd]
  split
  · rename_i h; rw [h]
  · rfl
def yIsP (c : JX) (t i : Nat) : Bool := jRec (qN c 0) (qSo c) (qVo c) (upd (qBi c) t (nI i)) (qS c) (qRb c) (qRi c) (qRm c)
def yIsFor (c : JX) (t w : Int32) : Int32 := if jIsT (qN c 0) t && pIn w 0 1 then (if w = 0 then nI (jFir (yIsP c t.toNatClampNeg) 32).1 else (jFir (yIsP c t.toNatClampNeg) 32).2) else -1
def jWelF (s : Ar) : Nat → Int32 := fo (fun o z => if bitI (s 16) (nI o) = 1 then z else nI o) (-9)
def jOfsF (n : Nat) (s : Ar) : Nat → Int32 := fo (fun o z => z ||| (if bitI (s 16) (nI o) = 1 then jHel n s (nI o) else 0)) 0
def jHaw (s : Ar) (x : Int32) (may : Bool) (well : Int32) : Nat → Ar := fo (fun t w => upd w t (if bitI x (nI t) = 1 ∧ may = true then well else s t)) s
def jMay (i : Nat) (ofs well its : Int32) : Bool := decide (nI i &&& iv ofs = 0) && (decide (i = 0) || !decide (well = -9)) && (decide (its = -9) || !decide (jOnes its ≤ jOnes (nI i)))
def yHaG (c : JX) (b well ofs : Int32) : Nat → Int32 × Ar := fo (fun i z => (if jMay i ofs well z.1 && jPas (qN c 0) (qSo c) (qVo c) (qBi c) (jHaw (qS c) (nI i) (jMay i ofs well z.1) well (qN c 0)) b then nI i else z.1, jHaw (qS c) (nI i) (jMay i ofs well z.1) well (qN c 0))) (-9, qW c)
def yHaF (c : JX) (b : Int32) : Int32 × Ar := yHaG c b (jWelF (qS c) (qN c 1)) (jOfsF (qN c 0) (qS c) (qN c 1)) 128
def yHand (c : JX) (b : Int32) : Int32 × JX := if pIn b 0 4 then ((yHaF c b).1, wW c (yHaF c b).2) else (-1, c)
theorem jHaw_0 (s : Ar) (x : Int32) (may : Bool) (well : Int32) : jHaw s x may well 0 = s := rfl
theorem jHaw_s {s : Ar} {x : Int32} {may : Bool} {well : Int32} {t : Nat} (v : Int32) (hv : v = if bitI x (nI t) = 1 ∧ may = true then well else s t) : upd (jHaw s x may well t) t v = jHaw s x may well (t + 1) := by
  rw [hv]; rfl
theorem jOrd_n {x : Int32} (h : x ≤ 7) : ∃ k : Nat, 1 ≤ k ∧ k ≤ 5040 ∧ jOrd x = nI k := by
  have h2 := Int32.le_iff_toInt_le.mp h
  have h3 : (7 : Int32).toInt = 7 := by decide
  rw [h3] at h2
  have h4 : (x.toInt - 1).toNat ≤ 6 := by omega
  rw [jOrd]
  generalize (x.toInt - 1).toNat = m at h4 ⊢
  have key : ∀ m, m < 7 → 1 ≤ (jOrdF m).toNatClampNeg ∧ (jOrdF m).toNatClampNeg ≤ 5040 ∧ jOrdF m = nI (jOrdF m).toNatClampNeg := by decide +kernel
  obtain ⟨k1, k2, k3⟩ := key m (by omega)
  exact ⟨_, k1, k2, k3⟩
theorem jOrd2_n (x y : Int32) : ∃ k : Nat, k ≤ 5040 ∧ jOrd (jOnes x) * jOrd (jOnes y - 1 - jOnes x) = nI k := by
  obtain ⟨p, h1, h2⟩ := jOnes_n x
  obtain ⟨q, h3, h4⟩ := jOnes_n y
  rw [h2, h4]
  have key : ∀ p, p < 8 → ∀ q, q < 8 → (jOrd (nI p) * jOrd (nI q - 1 - nI p)).toNatClampNeg ≤ 5040 ∧ jOrd (nI p) * jOrd (nI q - 1 - nI p) = nI (jOrd (nI p) * jOrd (nI q - 1 - nI p)).toNatClampNeg := by decide +kernel
  obtain ⟨k1, k2⟩ := key p (by omega) q (by omega)
  exact ⟨_, k1, k2⟩
theorem jDecF_n (n : Nat) (S V s : Ar) (t : Nat) : ∀ m : Nat, ∃ k : Nat, k ≤ 5040 * m ∧ jDecF n S V s t m = nI k
  | 0 => ⟨0, Nat.le_refl 0, rfl⟩
  | m + 1 => by
    obtain ⟨k, h1, h2⟩ := jDecF_n n S V s t m
    rw [jDecF, fo_s, ← jDecF, h2]
    split
    · obtain ⟨j, h3, h4⟩ := jOrd2_n (nI m) (jVoi n S s)
      exact ⟨k + j, by omega, by rw [h4, nI_add]⟩
    · exact ⟨k, by omega, by rw [show (0 : Int32) = nI 0 from rfl, nI_add]; rfl⟩
theorem jDec_n (n : Nat) (S V s : Ar) (t : Nat) : ∃ k : Nat, k ≤ 645120 ∧ jDec n S V s t = nI k := jDecF_n n S V s t 128
def yRat (u v w : Int32) : Int32 := if w = 0 then u / nI (Nat.gcd u.toNatClampNeg v.toNatClampNeg) else v / nI (Nat.gcd u.toNatClampNeg v.toNatClampNeg)
def yPower (c : JX) (t w : Int32) : Int32 := if jIsT (qN c 0) t && pIn w 0 1 then (if jSpk (qSo c) (qS c) t.toNatClampNeg then yRat (jDec (qN c 0) (qSo c) (qVo c) (qS c) t.toNatClampNeg) (jOrd (jOnes (jVoi (qN c 0) (qSo c) (qS c)))) w else w) else -1
theorem gcd_z {u v : Nat} (h : 0 < v) (hv : v < 2 ^ 31) : ¬ nI (Nat.gcd u v) = 0 := nI_ne0 (Nat.gcd_pos_of_pos_right u h) (Nat.lt_of_le_of_lt (Nat.gcd_le_right u h) hv)
def jOdF (x : Int32) (q : Nat) : Nat → Nat := fo (fun o z => z * (if bitI x (nI o) = 1 then q else 10 - q)) 1
theorem jOdF_le (x : Int32) {q : Nat} (hq : q ≤ 10) : ∀ m : Nat, jOdF x q m ≤ 10 ^ m
  | 0 => Nat.le_refl 1
  | m + 1 => by
    have h := jOdF_le x hq m
    rw [jOdF, fo_s, ← jOdF, Nat.pow_succ]
    refine Nat.mul_le_mul h ?_
    split <;> omega
def yOdX (c : JX) : Nat → Int32
  | 0 => qS c 16
  | n + 1 => nI n
def yUpF (c : JX) (b : Int32) (q : Nat) : Nat → Nat := fo (fun i z => z + (if jPas (qN c 0) (qSo c) (qVo c) (qBi c) (upd (qS c) 16 (nI i)) b then jOdF (nI i) q (qN c 1) else 0)) 0
theorem yUpF_le (c : JX) (b : Int32) {q : Nat} (hq : q ≤ 10) (h5 : qN c 1 ≤ 5) : ∀ m : Nat, yUpF c b q m ≤ m * 100000
  | 0 => by rw [yUpF, fo_0]; exact Nat.zero_le _
  | m + 1 => by
    have h := yUpF_le c b hq h5 m
    have h2 := jOdF_le (nI m) hq (qN c 1)
    have h3 : 10 ^ qN c 1 ≤ 100000 := Nat.le_trans (Nat.pow_le_pow_right (by omega) h5) (Nat.le_of_ble_eq_true rfl)
    rw [yUpF, fo_s, ← yUpF, Nat.succ_mul]
    refine Nat.add_le_add h ?_
    split
    · exact Nat.le_trans h2 h3
    · exact Nat.zero_le _
def yOdds (c : JX) (b p w : Int32) : Int32 × JX := if pIn b 0 4 && pIn p 0 10 && pIn w 0 1 then (yRat (nI (yUpF c b p.toNatClampNeg (2 ^ qN c 1))) (nI (10 ^ qN c 1)) w, wW c (upd (qS c) 16 (yOdX c (2 ^ qN c 1)))) else (-1, c)

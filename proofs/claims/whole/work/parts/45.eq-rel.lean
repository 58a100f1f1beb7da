/-! the class beside the model -/
def Rel (c : CX) (M : JX) : Prop :=
  (cLe c = qTy M ∧ qTy M ≤ 200 ∧ ∀ k, k < qTy M → cTx c k = qTx M k ∧ ∃ j : Nat, j < 256 ∧ qTx M k = nI j) ∧
  RK (cK c) (qN M) (qSo M) (qVo M) (qBi M) ∧
  RM (qN M 0) (qN M 1) (cM c) (qS M) ∧
  cTr c = qTr M ∧
  (cKn c = qUm M ∧ qUm M ≤ 10 ∧ cNx c < 10 ∧ ∀ i, i < qUm M → RM (qN M 0) (qN M 1) (cRi c ((cNx c + 10 - qUm M + i) % 10)) (fun k => qUn M (19 * i + k))) ∧
  (∀ j, j < 2 → bt (cKe c) j = qIk M j ∧ (qIk M j = true → RM (qN M 0) (qN M 1) (cIm c j) (fun k => qKe M (19 * j + k)))) ∧
  RI (cI c) (qRb M) (qRi M) (qRm M) ∧
  OkD (cDr c, cRd c) ∧ qVa M < 2 ^ 31
theorem Rel.R {c : CX} {M : JX} (h : Rel c M) : OkR c := by
  obtain ⟨⟨a1, a2, -⟩, ⟨b1, b2, b3, b4, b5, -⟩, -, -, ⟨e1, e2, e3, -⟩, -, ⟨f1, f2, -⟩, -⟩ := h
  exact ⟨by omega, by omega, by omega, by omega, by omega, e3, by omega⟩
theorem Rel.J {c : CX} {M : JX} (h : Rel c M) : OkJ M := by
  obtain ⟨⟨a1, a2, -⟩, ⟨b1, b2, b3, b4, b5, -⟩, -, -, ⟨e1, e2, e3, -⟩, -, ⟨f1, f2, -⟩, -⟩ := h
  exact ⟨b2, b4, b5, a2, f2, e2⟩
theorem Rel.K {c : CX} {M : JX} (h : Rel c M) : RK (cK c) (qN M) (qSo M) (qVo M) (qBi M) := h.2.1
theorem Rel.M {c : CX} {M : JX} (h : Rel c M) : RM (qN M 0) (qN M 1) (cM c) (qS M) := h.2.2.1
theorem Rel.I {c : CX} {M : JX} (h : Rel c M) : RI (cI c) (qRb M) (qRi M) (qRm M) := h.2.2.2.2.2.2.1
theorem Rel.D {c : CX} {M : JX} (h : Rel c M) : OkD (cDr c, cRd c) := h.2.2.2.2.2.2.2.1
theorem Rel.w {c : CX} {M : JX} (h : Rel c M) (v : Ar) : Rel c (wW M v) := h
theorem Rel.setM {c : CX} {M : JX} (h : Rel c M) {o : Mo} {r : Ar} (hm : RM (qN M 0) (qN M 1) o r) : Rel (setM c o) (wS M r) := ⟨h.1, h.2.1, hm, h.2.2.2⟩
theorem Rel.tr {c : CX} {M : JX} (h : Rel c M) (v : Int64) : Rel (setTr c v) (wTr M v) := ⟨h.1, h.2.1, h.2.2.1, rfl, h.2.2.2.2⟩
/-! rows of the model that are alike for a moment -/
theorem RM.cong {n m : Nat} {o : Mo} {r q : Ar} (hn : n ≤ 7) (h : RM n m o r) (e : ∀ k, k < 19 → q k = r k) : RM n m o q := by
  obtain ⟨a1, a2, a3, a4, a5, a6, a7, a8, a9, a10, a11⟩ := h
  have e14 := e 14 (by omega)
  have e15 := e 15 (by omega)
  have e16 := e 16 (by omega)
  have e17 := e 17 (by omega)
  have e18 := e 18 (by omega)
  refine ⟨fun t ht => ?_, fun t ht => ?_, ?_, ?_, ?_, ?_, ?_, ?_, ?_, ?_, ?_⟩
  · rw [e t (by omega)]; exact a1 t ht
  · rw [e (7 + t) (by omega)]; exact a2 t ht
  · rw [e14]; exact a3
  · rw [e15]; exact a4
  · rw [e16]; exact a5
  · rw [e17]; exact a6
  · rw [e18]; exact a7
  · rw [e14]; exact a8
  · rw [e15]; exact a9
  · rw [e16]; exact a10
  · rw [e17]; exact a11
theorem RM.h {n m : Nat} {o : Mo} {r : Ar} (hn : n ≤ 7) (h : RM n m o r) {j f : Nat} (hj : j < n) (hf : f < m) : RM n m (upd (mH o) j (nI f), mW o, mWa o, mTu o, mSi o, mPu o, mPa o) (upd r j (nI f)) := by
  obtain ⟨a1, a2, a3, a4, a5, a6, a7, a8, a9, a10, a11⟩ := h
  refine ⟨fun t ht => ?_, fun t ht => ?_, ?_, ?_, ?_, ?_, ?_, ?_, ?_, ?_, ?_⟩
  · by_cases q : t = j
    · subst q
      rw [pk_us]
      exact ⟨pk_us, f, hf, rfl⟩
    · rw [pk_un q]
      exact ⟨(pk_un q).trans (a1 t ht).1, (a1 t ht).2⟩
  · rw [pk_un (by omega)]; exact a2 t ht
  · rw [pk_un (by omega)]; exact a3
  · rw [pk_un (by omega)]; exact a4
  · rw [pk_un (by omega)]; exact a5
  · rw [pk_un (by omega)]; exact a6
  · rw [pk_un (by omega)]; exact a7
  · rw [pk_un (by omega)]; exact a8
  · rw [pk_un (by omega)]; exact a9
  · rw [pk_un (by omega)]; exact a10
  · rw [pk_un (by omega)]; exact a11
theorem RM.w {n m : Nat} {o : Mo} {r : Ar} (hn : n ≤ 7) (h : RM n m o r) {j f : Nat} (hj : j < n) (hf : f < 2 ^ 31) : RM n m (mH o, upd (mW o) j (nI f), mWa o, mTu o, mSi o, mPu o, mPa o) (upd r (7 + j) (nI f)) := by
  obtain ⟨a1, a2, a3, a4, a5, a6, a7, a8, a9, a10, a11⟩ := h
  refine ⟨fun t ht => ?_, fun t ht => ?_, ?_, ?_, ?_, ?_, ?_, ?_, ?_, ?_, ?_⟩
  · rw [pk_un (by omega)]; exact a1 t ht
  · by_cases q : t = j
    · subst q
      rw [pk_us]
      exact ⟨pk_us, f, hf, rfl⟩
    · rw [pk_un (show 7 + t ≠ 7 + j by omega)]
      exact ⟨(pk_un q).trans (a2 t ht).1, (a2 t ht).2⟩
  · rw [pk_un (by omega)]; exact a3
  · rw [pk_un (by omega)]; exact a4
  · rw [pk_un (by omega)]; exact a5
  · rw [pk_un (by omega)]; exact a6
  · rw [pk_un (by omega)]; exact a7
  · rw [pk_un (by omega)]; exact a8
  · rw [pk_un (by omega)]; exact a9
  · rw [pk_un (by omega)]; exact a10
  · rw [pk_un (by omega)]; exact a11
theorem RM.wa {n m : Nat} {o : Mo} {r : Ar} (hn : n ≤ 7) (h : RM n m o r) {x : Int32} (hx : Sm n x) : RM n m (mH o, mW o, x, mTu o, mSi o, mPu o, mPa o) (upd r 14 x) := by
  obtain ⟨a1, a2, a3, a4, a5, a6, a7, a8, a9, a10, a11⟩ := h
  exact ⟨fun t ht => by rw [pk_un (by omega)]; exact a1 t ht, fun t ht => by rw [pk_un (by omega)]; exact a2 t ht, pk_us.symm, a4, a5, a6, a7, by rw [pk_us]; exact hx, a9, a10, a11⟩
theorem RM.tu {n m : Nat} {o : Mo} {r : Ar} (hn : n ≤ 7) (h : RM n m o r) {x : Int32} (hx : Sm n x) : RM n m (mH o, mW o, mWa o, x, mSi o, mPu o, mPa o) (upd r 15 x) := by
  obtain ⟨a1, a2, a3, a4, a5, a6, a7, a8, a9, a10, a11⟩ := h
  exact ⟨fun t ht => by rw [pk_un (by omega)]; exact a1 t ht, fun t ht => by rw [pk_un (by omega)]; exact a2 t ht, a3, pk_us.symm, a5, a6, a7, a8, by rw [pk_us]; exact hx, a10, a11⟩
theorem RM.si {n m : Nat} {o : Mo} {r : Ar} (hn : n ≤ 7) (h : RM n m o r) {x : Int32} (hx : Sm m x) : RM n m (mH o, mW o, mWa o, mTu o, x, mPu o, mPa o) (upd r 16 x) := by
  obtain ⟨a1, a2, a3, a4, a5, a6, a7, a8, a9, a10, a11⟩ := h
  exact ⟨fun t ht => by rw [pk_un (by omega)]; exact a1 t ht, fun t ht => by rw [pk_un (by omega)]; exact a2 t ht, a3, a4, pk_us.symm, a6, a7, a8, a9, by rw [pk_us]; exact hx, a11⟩
theorem RM.pu {n m : Nat} {o : Mo} {r : Ar} (hn : n ≤ 7) (h : RM n m o r) {x : Nat} (hx : x ≤ 999) : RM n m (mH o, mW o, mWa o, mTu o, mSi o, nI x, mPa o) (upd r 17 (nI x)) := by
  obtain ⟨a1, a2, a3, a4, a5, a6, a7, a8, a9, a10, a11⟩ := h
  exact ⟨fun t ht => by rw [pk_un (by omega)]; exact a1 t ht, fun t ht => by rw [pk_un (by omega)]; exact a2 t ht, a3, a4, a5, pk_us.symm, a7, a8, a9, a10, ⟨x, hx, pk_us⟩⟩
theorem RM.pa {n m : Nat} {o : Mo} {r : Ar} (hn : n ≤ 7) (h : RM n m o r) (x : Int32) : RM n m (mH o, mW o, mWa o, mTu o, mSi o, mPu o, x) (upd r 18 x) := by
  obtain ⟨a1, a2, a3, a4, a5, a6, a7, a8, a9, a10, a11⟩ := h
  exact ⟨fun t ht => by rw [pk_un (by omega)]; exact a1 t ht, fun t ht => by rw [pk_un (by omega)]; exact a2 t ht, a3, a4, a5, a6, pk_us.symm, a8, a9, a10, a11⟩
theorem coolN_at (w : Ar) : ∀ n t : Nat, coolN w n t = if t < n ∧ 0 < w t then w t - 1 else w t
  | 0, t => by rw [coolN, if_neg (fun q => Nat.not_lt_zero t q.1)]
  | n + 1, t => by
    have e : coolN w n n = w n := by rw [coolN_at w n n, if_neg (fun q => Nat.lt_irrefl n q.1)]
    rw [coolN, e]
    by_cases q : t = n
    · subst q
      by_cases z : 0 < w t
      · rw [if_pos z, pk_us, if_pos ⟨Nat.lt_succ_self t, z⟩]
      · rw [if_neg z, e, if_neg (fun y => z y.2)]
    · have i : (t < n + 1 ∧ 0 < w t) ↔ (t < n ∧ 0 < w t) := ⟨fun h => ⟨by omega, h.2⟩, fun h => ⟨by omega, h.2⟩⟩
      simp only [i]
      split
      · rw [pk_un q]; exact coolN_at w n t
      · exact coolN_at w n t
theorem jCool_at (s : Ar) : ∀ n k : Nat, jCool s n k = if 7 ≤ k ∧ k < 7 + n then s k - (if s k ≤ 0 then 0 else 1) else s k
  | 0, k => by rw [jCool, fo_0, if_neg (by omega)]
  | n + 1, k => by
    have e : jCool s n (7 + n) = s (7 + n) := by rw [jCool_at s n (7 + n), if_neg (by omega)]
    rw [jCool, fo_s, ← jCool, e]
    by_cases q : k = 7 + n
    · subst q
      rw [pk_us]
      exact (if_pos (show 7 ≤ 7 + n ∧ 7 + n < 7 + (n + 1) by omega)).symm
    · have i : (7 ≤ k ∧ k < 7 + (n + 1)) ↔ (7 ≤ k ∧ k < 7 + n) := by omega
      rw [pk_un q, jCool_at s n k]
      simp only [i]
theorem RM.cool {n m : Nat} {o : Mo} {r : Ar} (hn : n ≤ 7) (h : RM n m o r) : RM n m (mH o, coolN (mW o) 7, mWa o, mTu o, mSi o, mPu o, mPa o) (jCool r n) := by
  obtain ⟨a1, a2, a3, a4, a5, a6, a7, a8, a9, a10, a11⟩ := h
  have e : ∀ k, (k < 7 ∨ 7 + n ≤ k) → jCool r n k = r k := fun k hk => by rw [jCool_at, if_neg (by omega)]
  have e2 := coolN_at (mW o) 7
  have e3 := jCool_at r n
  generalize coolN (mW o) 7 = cw at e2 ⊢
  generalize jCool r n = jw at e e3 ⊢
  refine ⟨fun t ht => ?_, fun t ht => ?_, ?_, ?_, ?_, ?_, ?_, ?_, ?_, ?_, ?_⟩
  · rw [e t (by omega)]; exact a1 t ht
  · obtain ⟨b1, w, hw, b2⟩ := a2 t ht
    show cw t = jw (7 + t) ∧ ∃ w : Nat, w < 2 ^ 31 ∧ jw (7 + t) = nI w
    rw [e2, e3, if_pos (show 7 ≤ 7 + t ∧ 7 + t < 7 + n by omega), b1, b2]
    by_cases q : nI w ≤ 0
    · rw [if_neg (fun z => Int32.not_lt.mpr q z.2), if_pos q]
      exact ⟨(Int32.sub_zero _).symm, w, hw, Int32.sub_zero _⟩
    · have hp := nI_nle0 q
      rw [if_pos ⟨by omega, Int32.not_le.mp q⟩, if_neg q]
      exact ⟨rfl, w - 1, by omega, by rw [show (1 : Int32) = nI 1 from rfl, pk_sub (by omega)]⟩
  · rw [e 14 (by omega)]; exact a3
  · rw [e 15 (by omega)]; exact a4
  · rw [e 16 (by omega)]; exact a5
  · rw [e 17 (by omega)]; exact a6
  · rw [e 18 (by omega)]; exact a7
  · rw [e 14 (by omega)]; exact a8
  · rw [e 15 (by omega)]; exact a9
  · rw [e 16 (by omega)]; exact a10
  · rw [e 17 (by omega)]; exact a11
/-! what is noted, what is undone -/
theorem rem_note {c : CX} {M : JX} (h : Rel c M) : Rel (sRem c) (yNote M) := by
  obtain ⟨h1, h2, h3, h4, ⟨e1, e2, e3, e4⟩, h6, h7⟩ := h
  have hn := h2.2.1
  unfold yNote
  by_cases q : qUm M = 10
  · rw [if_pos q]
    refine ⟨h1, h2, h3, h4, ⟨?_, Nat.le_refl 10, ?_, fun i hi => ?_⟩, h6, h7⟩
    · show min (cKn c + 1) 10 = 10
      omega
    · show (if cNx c = 9 then 0 else cNx c + 1) < 10
      split <;> omega
    · have hi : i < 10 := hi
      have ei : ((if cNx c = 9 then 0 else cNx c + 1) + 10 - 10 + i) % 10 = (cNx c + 1 + i) % 10 := by split <;> omega
      show RM (qN M 0) (qN M 1) (va_up (cRi c) (cNx c) (cM c) (((if cNx c = 9 then 0 else cNx c + 1) + 10 - 10 + i) % 10)) (fun k => jPutU (jShift (qUn M)) (qS M) 9 (19 * i + k))
      rw [ei]
      by_cases z : i = 9
      · subst z
        rw [show (cNx c + 1 + 9) % 10 = cNx c by omega, va_up, if_pos rfl]
        refine h3.cong hn (fun k hk => ?_)
        show jPutU (jShift (qUn M)) (qS M) 9 (19 * 9 + k) = qS M k
        rw [jPutU, if_pos (by omega), show 19 * 9 + k - 19 * 9 = k by omega]
      · rw [va_up, if_neg (by omega)]
        have := e4 (i + 1) (by omega)
        rw [q, show (cNx c + 10 - 10 + (i + 1)) % 10 = (cNx c + 1 + i) % 10 by omega] at this
        refine this.cong hn (fun k hk => ?_)
        show jPutU (jShift (qUn M)) (qS M) 9 (19 * i + k) = qUn M (19 * (i + 1) + k)
        rw [jPutU, if_neg (by omega), jShift, if_pos (by omega)]
        congr 1
        omega
  · rw [if_neg q]
    refine ⟨h1, h2, h3, h4, ⟨?_, ?_, ?_, fun i hi => ?_⟩, h6, h7⟩
    · show min (cKn c + 1) 10 = qUm M + 1
      omega
    · show qUm M + 1 ≤ 10
      omega
    · show (if cNx c = 9 then 0 else cNx c + 1) < 10
      split <;> omega
    · have hi : i < qUm M + 1 := hi
      have ei : ((if cNx c = 9 then 0 else cNx c + 1) + 10 - (qUm M + 1) + i) % 10 = (cNx c + 10 - qUm M + i) % 10 := by split <;> omega
      show RM (qN M 0) (qN M 1) (va_up (cRi c) (cNx c) (cM c) (((if cNx c = 9 then 0 else cNx c + 1) + 10 - (qUm M + 1) + i) % 10)) (fun k => jPutU (qUn M) (qS M) (qUm M) (19 * i + k))
      rw [ei]
      by_cases z : i = qUm M
      · subst z
        rw [show (cNx c + 10 - qUm M + qUm M) % 10 = cNx c by omega, va_up, if_pos rfl]
        refine h3.cong hn (fun k hk => ?_)
        show jPutU (qUn M) (qS M) (qUm M) (19 * qUm M + k) = qS M k
        rw [jPutU, if_pos (by omega), show 19 * qUm M + k - 19 * qUm M = k by omega]
      · rw [va_up, if_neg (by omega)]
        refine (e4 i (by omega)).cong hn (fun k hk => ?_)
        show jPutU (qUn M) (qS M) (qUm M) (19 * i + k) = qUn M (19 * i + k)
        rw [jPutU, if_neg (by omega)]

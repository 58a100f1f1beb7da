/-! the council, once it is read -/
theorem jSe3_at (f : Ar) : ∀ n : Nat, n ≤ 7 → (∀ t, t < n → jSe3 f n t = f (7 + t)) ∧ ∀ k, n ≤ k → jSe3 f n k = f k
  | 0, _ => ⟨fun t h => absurd h (Nat.not_lt_zero t), fun _ _ => rfl⟩
  | n + 1, h => by
    obtain ⟨h1, h2⟩ := jSe3_at f n (by omega)
    rw [← jSe3_s]
    refine ⟨fun t ht => ?_, fun k hk => ?_⟩
    · by_cases q : t = n
      · subst q
        rw [pk_us]
        exact h2 (7 + t) (by omega)
      · rw [pk_un q]
        exact h1 t (by omega)
    · rw [pk_un (by omega)]
      exact h2 k (by omega)
theorem jSeH_at (g f : Ar) : ∀ n : Nat, (∀ t, t < n → jSeH g f n t = g t) ∧ ∀ k, n ≤ k → jSeH g f n k = f k
  | 0 => ⟨fun t h => absurd h (Nat.not_lt_zero t), fun _ _ => rfl⟩
  | n + 1 => by
    obtain ⟨h1, h2⟩ := jSeH_at g f n
    rw [← jSeH_s]
    refine ⟨fun t ht => ?_, fun k hk => ?_⟩
    · by_cases q : t = n
      · subst q
        rw [pk_us]
      · rw [pk_un q]
        exact h1 t (by omega)
    · rw [pk_un (by omega)]
      exact h2 k (by omega)
theorem fillN_at (v : Int32) (f : Ar) : ∀ n t : Nat, t < n → fillN v f n t = v
  | 0, t, h => absurd h (Nat.not_lt_zero t)
  | n + 1, t, h => by
    rw [← fillN_s]
    by_cases q : t = n
    · subst q; exact pk_us
    · rw [pk_un q]; exact fillN_at v f n t (by omega)
theorem rk_set {d : Cn} {wa : Bool} {b : BJ} (h : DB d wa b) : RK d (jSe1 b.1 3) (jSe3 b.2.1 (b.1 3)) (jSe3 b.2.2.1 (b.1 3)) (jSe3 b.2.2.2.1 (b.1 3)) := by
  obtain ⟨d1, d2, d3, d4, d5, d6, d7, d8, d9⟩ := h
  have s0 : jSe1 b.1 3 0 = b.1 3 := rfl
  have s1 : jSe1 b.1 3 1 = b.1 4 := rfl
  have s2 : jSe1 b.1 3 2 = b.1 5 := rfl
  refine ⟨by rw [s0]; exact d1, by rw [s0]; exact d2, by rw [s1]; exact d3, by rw [s1]; exact d4, by rw [s1]; exact d5, by rw [s2]; exact d6, by rw [s2]; exact d7, fun t ht => ?_⟩
  rw [s0] at ht
  obtain ⟨e1, e2, e3, e4, e5, -⟩ := d9 t ht
  rw [(jSe3_at b.2.1 _ d2).1 t ht, (jSe3_at b.2.2.1 _ d2).1 t ht, (jSe3_at b.2.2.2.1 _ d2).1 t ht]
  exact ⟨e1, e2, e3, e5⟩
theorem rm_set {d : Cn} {wa : Bool} {b : BJ} (h : DB d wa b) (w S : Ar) : RM (jSe1 b.1 3 0) (jSe1 b.1 3 1) (kF d, fillN 0 w 7, 0, 0, 0, 0, 0) (jSeH b.2.2.2.2.1 (fillN 0 S 19) (b.1 3)) := by
  obtain ⟨d1, d2, d3, d4, d5, d6, d7, d8, d9⟩ := h
  have s0 : jSe1 b.1 3 0 = b.1 3 := rfl
  have s1 : jSe1 b.1 3 1 = b.1 4 := rfl
  rw [s0, s1]
  obtain ⟨a1, a2⟩ := jSeH_at b.2.2.2.2.1 (fillN 0 S 19) (b.1 3)
  have a3 : ∀ k, 7 ≤ k → k < 19 → jSeH b.2.2.2.2.1 (fillN 0 S 19) (b.1 3) k = 0 := fun k h1 h2 => by rw [a2 k (by omega), fillN_at _ _ 19 k h2]
  have a4 : ∀ t, t < 7 → fillN 0 w 7 t = 0 := fun t ht => fillN_at 0 w 7 t ht
  generalize jSeH b.2.2.2.2.1 (fillN 0 S 19) (b.1 3) = row at a1 a2 a3
  generalize fillN 0 w 7 = ww at a4
  refine ⟨fun t ht => ?_, fun t ht => ?_, (a3 14 (by omega) (by omega)).symm, (a3 15 (by omega) (by omega)).symm, (a3 16 (by omega) (by omega)).symm, (a3 17 (by omega) (by omega)).symm, (a3 18 (by omega) (by omega)).symm, ?_, ?_, ?_, 0, by omega, a3 17 (by omega) (by omega)⟩
  · rw [a1 t ht]
    exact (d9 t ht).2.2.2 |>.elim (fun x y => ⟨x, y.2⟩)
  · rw [a3 (7 + t) (by omega) (by omega)]
    exact ⟨a4 t (by omega), 0, by omega, rfl⟩
  · rw [a3 14 (by omega) (by omega)]; exact Sm.z _
  · rw [a3 15 (by omega) (by omega)]; exact Sm.z _
  · rw [a3 16 (by omega) (by omega)]; exact Sm.z _
theorem rk_keep {k : Cn} {N N' : Nat → Nat} {S V B S' V' B' : Ar} (h : RK k N S V B) (hN : ∀ i, i < 3 → N' i = N i) (hS : ∀ i, i < 7 → S' i = S i ∧ V' i = V i ∧ B' i = B i) : RK k N' S' V' B' := by
  obtain ⟨a1, a2, a3, a4, a5, a6, a7, a8⟩ := h
  have n0 := hN 0 (by omega)
  have n1 := hN 1 (by omega)
  have n2 := hN 2 (by omega)
  refine ⟨by rw [n0]; exact a1, by rw [n0]; exact a2, by rw [n1]; exact a3, by rw [n1]; exact a4, by rw [n1]; exact a5, by rw [n2]; exact a6, by rw [n2]; exact a7, fun t ht => ?_⟩
  rw [n0] at ht
  obtain ⟨s1, s2, s3⟩ := hS t (by omega)
  rw [s1, s2, s3]
  exact a8 t ht
theorem neg10 {q : Nat} (h : q ≤ 200) : ¬ 0 ≤ (-10 - nI q : Int32) := by
  have : ∀ q, q < 201 → ¬ 0 ≤ (-10 - nI q : Int32) := by decide +kernel
  exact this q (by omega)
theorem e_council {c : CX} {M : JX} (h : Rel c M) : Eq2 (xCouncil c) (yCouncil M) := by
  obtain ⟨⟨a1, a2, a3⟩, h2, h3, h4, h5, h6, h7, h8, h9⟩ := id h
  have hag : Agr (cTx c) (qTx M) (qTy M) := a3
  have okz := ok_rdTx (tx := cTx c) (n := cLe c) h8
  have hst : HD (qTy M) 0 (rdBeg (cTx c) (cLe c) (cDr c, cRd c)) (jCs0 M) := by
    refine Or.inl ⟨?_, ?_, ?_, ?_, fun _ => rfl⟩
    · exact (nxT_fa _ _).1
    · exact (jAdv_ok (Nat.zero_le _)).2.2.1
    · exact adv_T hag (show min (cLe c) 200 = qTy M by omega) rfl (Nat.zero_le _)
    · show DB (newT (cDr c)) (rWa (nxT (cTx c) (min (cLe c) 200, 0, rTok (cRd c), rTP (cRd c), rNum (cRd c), -1, false))) (va_up (va_up (va_up (qN M) 3 0) 4 3) 5 2, qSo M, qVo M, qBi M, qHo M, false)
      rw [(nxT_fa _ _).2.1]
      exact ⟨rfl, Nat.zero_le 7, rfl, show 1 ≤ 3 by omega, show 3 ≤ 5 by omega, rfl, show 2 ≤ 9 by omega, rfl, fun t ht => absurd ht (Nat.not_lt_zero t)⟩
  obtain ⟨l1, l2⟩ := loop_T hag a2 201 0 _ _ hst
  obtain ⟨k1, k2, k3⟩ := jCo_keep (qTx M) (qTy M) 201 0 (jCs0 M)
  have kB : RjB (qTy M) (jCs0 M).1 := by
    have := jAdv_ok (tx := qTx M) (va := qVa M) (fa := -1) (Nat.zero_le (qTy M))
    exact ⟨this.1, this.2.1, this.2.2.2.2.2 h9⟩
  have kv := (k2 kB).2.2
  have ez : yCoZ M = jCo (qTx M) (qTy M) 201 0 (jCs0 M) := rfl
  have er : rdTx (cTx c) (cLe c) (cDr c, cRd c) = (if rFa (rdL (cTx c) 201 0 (rdBeg (cTx c) (cLe c) (cDr c, cRd c))).2.2 = -1 then nI (rdL (cTx c) 201 0 (rdBeg (cTx c) (cLe c) (cDr c, cRd c))).1 else -10 - rFa (rdL (cTx c) 201 0 (rdBeg (cTx c) (cLe c) (cDr c, cRd c))).2.2, (rdL (cTx c) 201 0 (rdBeg (cTx c) (cLe c) (cDr c, cRd c))).2) := rfl
  rw [xCouncil, yCouncil, ez]
  rw [er] at okz ⊢
  generalize jCo (qTx M) (qTy M) 201 0 (jCs0 M) = z at l1 l2 k1 k3 kv
  generalize rdL (cTx c) 201 0 (rdBeg (cTx c) (cLe c) (cDr c, cRd c)) = y at l1 l2 okz
  have okz : OkD y.2 := okz
  rcases l2 with ⟨f1, f2, f3, f4, -⟩ | ⟨q, q1, q2, q3⟩
  · have hm : ¬ 0 ≤ z.2.1.2.2.2.2 := by rw [f2]; decide
    rw [if_neg hm]
    simp only [f1, if_true]
    have hp : 0 ≤ nI y.1 := nI_pos' (by omega)
    rw [if_pos hp, l1]
    refine ⟨rfl, ⟨rfl, Nat.zero_le 200, fun k hk => absurd hk (Nat.not_lt_zero k)⟩, rk_set f4, rm_set f4 _ _, h4, ⟨rfl, Nat.zero_le 10, h5.2.2.1, fun i hi => absurd hi (Nat.not_lt_zero i)⟩, fun j hj => ?_, ⟨rfl, Nat.zero_le 6, fun k hk => absurd hk (Nat.not_lt_zero k)⟩, okz, kv⟩
    have e : va_up (va_up (qIk M) 0 false) 1 false j = false := by
      have : j = 0 ∨ j = 1 := by omega
      rcases this with rfl | rfl <;> rfl
    show bt 0 j = va_up (va_up (qIk M) 0 false) 1 false j ∧ (va_up (va_up (qIk M) 0 false) 1 false j = true → _)
    rw [e, b_0]
    exact ⟨rfl, fun z => by cases z⟩
  · have hm : 0 ≤ z.2.1.2.2.2.2 := by rw [q2]; exact nI_pos' (by omega)
    rw [if_pos hm]
    have hn : ¬ rFa y.2.2 = -1 := by rw [q3]; exact nI_m1 (by omega)
    simp only [hn, if_false]
    rw [q3, if_neg (neg10 (by omega)), q2]
    have kN : ∀ i, i < 3 → z.2.2.1 i = qN M i := fun i hi => (k1.1 i hi).trans (by
      show va_up (va_up (va_up (qN M) 3 0) 4 3) 5 2 i = qN M i
      rw [upN (by omega), upN (by omega), upN (by omega)])
    have e0 := kN 0 (by omega)
    have e1 := kN 1 (by omega)
    refine ⟨rfl, ⟨a1, a2, a3⟩, rk_keep h2 kN k1.2, ?_, h4, ?_, ?_, h7, okz, kv⟩
    · show RM (z.2.2.1 0) (z.2.2.1 1) (cM c) (qS M)
      rw [e0, e1]; exact h3
    · show cKn c = qUm M ∧ qUm M ≤ 10 ∧ cNx c < 10 ∧ ∀ i, i < qUm M → RM (z.2.2.1 0) (z.2.2.1 1) (cRi c ((cNx c + 10 - qUm M + i) % 10)) (fun k => qUn M (19 * i + k))
      rw [e0, e1]; exact h5
    · show ∀ j, j < 2 → bt (cKe c) j = qIk M j ∧ (qIk M j = true → RM (z.2.2.1 0) (z.2.2.1 1) (cIm c j) (fun k => qKe M (19 * j + k)))
      rw [e0, e1]; exact h6

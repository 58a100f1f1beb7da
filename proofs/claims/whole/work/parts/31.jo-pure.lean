/-! the model's reader: (next, token, place, value, fault), and what it lays down -/
abbrev RJ : Type := Nat × Int32 × Nat × Nat × Int32
/-- many, sort, votes, bills, holder, told -/
abbrev BJ : Type := (Nat → Nat) × Ar × Ar × Ar × Ar × Bool
abbrev SJ : Type := RJ × BJ
def wRJ (c : JX) (r : RJ) : JX := mkJ (qTr c) (qTx c) (qTy c) r.1 r.2.1 r.2.2.1 r.2.2.2.1 r.2.2.2.2 (qN c) (qSo c) (qVo c) (qBi c) (qHo c) (qTd c) (qS c) (qW c) (qKe c) (qIk c) (qUn c) (qUm c) (qRb c) (qRi c) (qRm c)
def wSJ (c : JX) (s : SJ) : JX := mkJ (qTr c) (qTx c) (qTy c) s.1.1 s.1.2.1 s.1.2.2.1 s.1.2.2.2.1 s.1.2.2.2.2 s.2.1 s.2.2.1 s.2.2.2.1 s.2.2.2.2.1 s.2.2.2.2.2.1 s.2.2.2.2.2.2 (qS c) (qW c) (qKe c) (qIk c) (qUn c) (qUm c) (qRb c) (qRi c) (qRm c)
def jLet (tx : Ar) (ty k : Nat) : Int32 := if k < ty then tx k else -1
theorem jLet_lt {tx : Ar} {ty k : Nat} {x : Int32} (h : jLet tx ty k = x) (hx : ¬ x = -1) : k < ty ∧ tx k = x := by
  by_cases q : k < ty
  · rw [jLet, if_pos q] at h
    exact ⟨q, h⟩
  · rw [jLet, if_neg q] at h
    exact absurd h.symm hx
theorem skF_y {tx : Ar} {ty n p : Nat} (h : jLet tx ty p = 32) : skF tx ty (n + 1) p = skF tx ty n (p + 1) := by
  have h1 := jLet_lt h (by decide)
  rw [skF, if_pos h1]
theorem skF_n {tx : Ar} {ty n p : Nat} (h : ¬ jLet tx ty p = 32) : skF tx ty n p = p := by
  cases n with
  | zero => rfl
  | succ n =>
    rw [skF, if_neg]
    intro q
    exact h (by rw [jLet, if_pos q.1]; exact q.2)
def jDgF (tx : Ar) (ty : Nat) : Nat → Nat → Nat → Nat × Nat
  | 0, p, v => (p, v)
  | n + 1, p, v => if pIn (jLet tx ty p) 48 57 = true then jDgF tx ty n (p + 1) (if 31 < v then v else 10 * v + dg (jLet tx ty p)) else (p, v)
def jDg (tx : Ar) (ty p : Nat) : Nat × Nat := jDgF tx ty (ty - p) p 0
theorem pIn_dig (x : Int32) : pIn x 48 57 = isDig x := by
  have h1 : (!decide (x < 48)) = decide (48 ≤ x) := by rw [← decide_not]; exact decide_eq_decide.mpr Int32.not_lt
  have h2 : (!decide (57 < x)) = decide (x ≤ 57) := by rw [← decide_not]; exact decide_eq_decide.mpr Int32.not_lt
  rw [pIn, isDig, h1, h2]
theorem jLet_dig {tx : Ar} {ty p : Nat} (h : pIn (jLet tx ty p) 48 57 = true) : p < ty ∧ isDig (jLet tx ty p) = true ∧ dg (jLet tx ty p) < 10 := by
  rw [pIn_dig] at h
  refine ⟨?_, h, dg_lt h⟩
  by_cases q : p < ty
  · exact q
  · rw [jLet, if_neg q] at h
    exact absurd h (by decide)
theorem jDgF_y {tx : Ar} {ty n p v : Nat} (h : pIn (jLet tx ty p) 48 57 = true) : jDgF tx ty (n + 1) p v = jDgF tx ty n (p + 1) (if 31 < v then v else 10 * v + dg (jLet tx ty p)) := by rw [jDgF, if_pos h]
theorem jDgF_n {tx : Ar} {ty n p v : Nat} (h : pIn (jLet tx ty p) 48 57 = false) : jDgF tx ty n p v = (p, v) := by
  cases n with
  | zero => rfl
  | succ n => rw [jDgF, if_neg (by rw [h]; decide)]
theorem jDig_i {x : Int32} (h : pIn x 48 57 = true) (m : Nat) : nI m + x - 48 = nI (m + dg x) := by
  rw [pIn_dig] at h
  obtain ⟨q, hq, rfl⟩ := dg_of h
  rw [dg, nI_clamp (by omega), nI_add]
  show nI (m + (48 + q)) - nI 48 = _
  rw [pk_sub (by omega)]
  congr 1
  omega
theorem jDgF_le (tx : Ar) (ty : Nat) : ∀ (n p v : Nat), p ≤ (jDgF tx ty n p v).1 ∧ (p ≤ ty → (jDgF tx ty n p v).1 ≤ ty) ∧ (v ≤ 319 → (jDgF tx ty n p v).2 ≤ 319)
  | 0, p, v => ⟨Nat.le_refl _, fun h => h, fun h => h⟩
  | n + 1, p, v => by
    by_cases h : pIn (jLet tx ty p) 48 57 = true
    · rw [jDgF_y h]
      have h1 := jLet_dig h
      have := jDgF_le tx ty n (p + 1) (if 31 < v then v else 10 * v + dg (jLet tx ty p))
      refine ⟨by omega, fun _ => this.2.1 (by omega), fun hv => this.2.2 ?_⟩
      split <;> omega
    · rw [jDgF, if_neg h]
      exact ⟨Nat.le_refl _, fun h => h, fun h => h⟩
theorem jDg_lt {tx : Ar} {ty p : Nat} (h : pIn (jLet tx ty p) 48 57 = true) : p < (jDg tx ty p).1 := by
  have h1 := jLet_dig h
  unfold jDg
  obtain ⟨n, hn⟩ : ∃ n, ty - p = n + 1 := ⟨ty - p - 1, by omega⟩
  rw [hn, jDgF_y h]
  have := (jDgF_le tx ty n (p + 1) (if 31 < 0 then 0 else 10 * 0 + dg (jLet tx ty p))).1
  omega
def jKi (j : Nat) : Int32 := if j = 59 then 3 else if j = 111 ∨ j = 116 ∨ j = 119 then 1 else 4
def jAdP (tx : Ar) (ty va : Nat) (fa : Int32) (p : Nat) : RJ := if 0 ≤ jLet tx ty p then (if pIn (jLet tx ty p) 48 57 = true then ((jDg tx ty p).1, (if 31 < (jDg tx ty p).2 ∨ ((jLet tx ty p).toNatClampNeg = 48 ∧ 1 < (jDg tx ty p).1 - p) then 4 else 2), p, (jDg tx ty p).2, fa) else (p + 1, jKi (jLet tx ty p).toNatClampNeg, p, (jLet tx ty p).toNatClampNeg, fa)) else (p, 0, p, va, fa)
def jAdv (tx : Ar) (ty ne va : Nat) (fa : Int32) : RJ := jAdP tx ty va fa (skB tx ty ne)
theorem clamp_lt (x : Int32) : x.toNatClampNeg < 2 ^ 31 := by
  by_cases h : x < 0
  · have h1 := Int32.lt_iff_toInt_lt.mp h
    have h2 : (0 : Int32).toInt = 0 := rfl
    show x.toInt.toNat < 2 ^ 31
    omega
  · obtain ⟨j, hj, rfl⟩ := nI_of h
    rw [nI_clamp hj]
    exact hj
theorem jAdv_ok {tx : Ar} {ty ne va : Nat} {fa : Int32} (h : ne ≤ ty) : (jAdv tx ty ne va fa).1 ≤ ty ∧ (jAdv tx ty ne va fa).2.2.1 ≤ ty ∧ (jAdv tx ty ne va fa).2.2.2.2 = fa ∧ ((jAdv tx ty ne va fa).2.1 = 0 ∨ ne < (jAdv tx ty ne va fa).1) ∧ ne ≤ (jAdv tx ty ne va fa).1 ∧ (va < 2 ^ 31 → (jAdv tx ty ne va fa).2.2.2.1 < 2 ^ 31) := by
  have hs := skF_le tx ty (ty - ne) ne
  have e : skB tx ty ne = skF tx ty (ty - ne) ne := rfl
  unfold jAdv jAdP
  rw [e]
  generalize skF tx ty (ty - ne) ne = p at hs
  have hp := hs.2 h
  split
  · rename_i h0
    have hl : p < ty := by
      by_cases q : p < ty
      · exact q
      · rw [jLet, if_neg q] at h0
        exact absurd h0 (by decide)
    split
    · rename_i hd
      have h1 := jDg_lt hd
      have h3 := jDgF_le tx ty (ty - p) p 0
      have h2 : (jDg tx ty p).1 ≤ ty := h3.2.1 hp
      have h4 : (jDg tx ty p).2 ≤ 319 := h3.2.2 (by omega)
      exact ⟨h2, hp, rfl, Or.inr (show ne < (jDg tx ty p).1 by omega), show ne ≤ (jDg tx ty p).1 by omega, fun _ => show (jDg tx ty p).2 < 2 ^ 31 by omega⟩
    · exact ⟨hl, hp, rfl, Or.inr (show ne < p + 1 by omega), show ne ≤ p + 1 by omega, fun _ => clamp_lt _⟩
  · exact ⟨hp, hp, rfl, Or.inl rfl, hs.1, fun h => h⟩
def jWl (fa : Int32) : Bool := !decide (0 ≤ fa)
theorem jWl_t {fa : Int32} (h : jWl fa = true) : ¬ 0 ≤ fa := by simpa [jWl] using h
theorem jWl_f {fa : Int32} (h : jWl fa = false) : 0 ≤ fa := by simpa [jWl] using h
def jTk (tx : Ar) (ty ne : Nat) (to : Int32) (pl va : Nat) (fa : Int32) (u : Bool) : Nat × RJ := if 0 ≤ fa then (0, ne, to, pl, va, fa) else if u = true then (va, jAdv tx ty ne va fa) else (0, ne, to, pl, va, nI pl)
abbrev jTkR (tx : Ar) (ty : Nat) (r : RJ) (u : Bool) : Nat × RJ := jTk tx ty r.1 r.2.1 r.2.2.1 r.2.2.2.1 r.2.2.2.2 u
def jNu (tx : Ar) (ty ne : Nat) (to : Int32) (pl va : Nat) (fa : Int32) (lo hi : Int32) : Nat × RJ := jTk tx ty ne to pl va fa (decide (to = 2) && pIn (nI va) lo hi)
abbrev jNuR (tx : Ar) (ty : Nat) (r : RJ) (lo hi : Int32) : Nat × RJ := jNu tx ty r.1 r.2.1 r.2.2.1 r.2.2.2.1 r.2.2.2.2 lo hi
def jIt (tx : Ar) (ty : Nat) (w : Int32) (r : RJ) (b : BJ) : SJ :=
  if w = 111 then ((jNuR tx ty r 1 5).2, va_up b.1 4 (jNuR tx ty r 1 5).1, b.2)
  else if w = 116 then
    ((jNuR tx ty (jNuR tx ty (jNuR tx ty (jNuR tx ty r 0 3).2 1 9).2 0 31).2 0 (nI (b.1 4) - 1)).2, va_up b.1 3 (b.1 3 + 1), upd b.2.1 (7 + b.1 3) (nI (jNuR tx ty r 0 3).1), upd b.2.2.1 (7 + b.1 3) (nI (jNuR tx ty (jNuR tx ty r 0 3).2 1 9).1), upd b.2.2.2.1 (7 + b.1 3) (nI (jNuR tx ty (jNuR tx ty (jNuR tx ty r 0 3).2 1 9).2 0 31).1), upd b.2.2.2.2.1 (b.1 3) (nI (jNuR tx ty (jNuR tx ty (jNuR tx ty (jNuR tx ty r 0 3).2 1 9).2 0 31).2 0 (nI (b.1 4) - 1)).1), b.2.2.2.2.2)
  else ((jNuR tx ty r 0 9).2, va_up b.1 5 (jNuR tx ty r 0 9).1, b.2.1, b.2.2.1, b.2.2.2.1, b.2.2.2.2.1, true)
def jU (i : Nat) (to : Int32) (va : Nat) (N : Nat → Nat) (td : Bool) : Bool := decide (to = 1) && (if nI va = 111 then decide (i = 0) else if nI va = 116 then decide (N 3 < 7) else !td)
def jSt1 (tx : Ar) (ty i : Nat) (s : SJ) : Nat × RJ := jTkR tx ty s.1 (jU i s.1.2.1 s.1.2.2.2.1 s.2.1 s.2.2.2.2.2.2)
def jSt2 (tx : Ar) (ty i : Nat) (s : SJ) : SJ := if 0 ≤ (jSt1 tx ty i s).2.2.2.2.2 then ((jSt1 tx ty i s).2, s.2) else jIt tx ty (nI (jSt1 tx ty i s).1) (jSt1 tx ty i s).2 s.2
def jStp (tx : Ar) (ty i : Nat) (s : SJ) : SJ := ((jTkR tx ty (jSt2 tx ty i s).1 (decide ((jSt2 tx ty i s).1.2.1 = 3))).2, (jSt2 tx ty i s).2)
def jCo (tx : Ar) (ty : Nat) : Nat → Nat → SJ → Nat × SJ
  | 0, i, s => (i, s)
  | n + 1, i, s => if 0 ≤ s.1.2.2.2.2 ∨ s.1.2.1 = 0 then (i, s) else jCo tx ty n (i + 1) (jStp tx ty i s)
theorem jCo_end {tx : Ar} {ty n i : Nat} {s : SJ} (h : 0 ≤ s.1.2.2.2.2 ∨ s.1.2.1 = 0) : jCo tx ty n i s = (i, s) := by
  cases n with
  | zero => rfl
  | succ n => rw [jCo, if_pos h]
theorem jCo_go {tx : Ar} {ty n i : Nat} {s : SJ} (h0 : 0 < n) (h1 : ¬ 0 ≤ s.1.2.2.2.2) (h2 : ¬ s.1.2.1 = 0) : jCo tx ty n i s = jCo tx ty (n - 1) (i + 1) (jStp tx ty i s) := by
  cases n with
  | zero => omega
  | succ n => rw [jCo, if_neg (fun q => q.elim h1 h2)]; rfl
/-! what holds of it -/
def RjB (ty : Nat) (r : RJ) : Prop := r.1 ≤ ty ∧ r.2.2.1 ≤ ty ∧ r.2.2.2.1 < 2 ^ 31
def jMu (ty : Nat) (r : RJ) : Nat := if 0 ≤ r.2.2.2.2 then 0 else (ty - r.1) + (if r.2.1 = 0 then 0 else 1)
theorem jTk_ok {tx : Ar} {ty : Nat} {r : RJ} {u : Bool} (h : RjB ty r) : RjB ty (jTkR tx ty r u).2 := by
  unfold jTkR jTk
  split
  · exact h
  · split
    · have := jAdv_ok (tx := tx) (va := r.2.2.2.1) (fa := r.2.2.2.2) h.1
      exact ⟨this.1, this.2.1, this.2.2.2.2.2 h.2.2⟩
    · exact h
theorem jTk_mu {tx : Ar} {ty : Nat} {r : RJ} {u : Bool} (ht : ty ≤ 200) (h : RjB ty r) : jMu ty (jTkR tx ty r u).2 ≤ jMu ty r ∧ (¬ 0 ≤ r.2.2.2.2 → ¬ r.2.1 = 0 → jMu ty (jTkR tx ty r u).2 < jMu ty r) := by
  by_cases hf : 0 ≤ r.2.2.2.2
  · have e : (jTkR tx ty r u).2 = r := by unfold jTkR jTk; rw [if_pos hf]
    rw [e]
    exact ⟨Nat.le_refl _, fun q => absurd hf q⟩
  · have hm : jMu ty r = (ty - r.1) + (if r.2.1 = 0 then 0 else 1) := by unfold jMu; rw [if_neg hf]
    cases u with
    | true =>
      have e : (jTkR tx ty r true).2 = jAdv tx ty r.1 r.2.2.2.1 r.2.2.2.2 := by unfold jTkR jTk; rw [if_neg hf]; rfl
      obtain ⟨h1, h2, h3, h4, h5, -⟩ := jAdv_ok (tx := tx) (va := r.2.2.2.1) (fa := r.2.2.2.2) h.1
      rw [e]
      generalize jAdv tx ty r.1 r.2.2.2.1 r.2.2.2.2 = z at h1 h2 h3 h4 h5
      have hz : jMu ty z = (ty - z.1) + (if z.2.1 = 0 then 0 else 1) := by unfold jMu; rw [h3, if_neg hf]
      have hk : jMu ty z ≤ ty - r.1 := by
        rw [hz]
        rcases h4 with q | q
        · rw [if_pos q]; omega
        · split <;> omega
      refine ⟨by rw [hm]; exact Nat.le_trans hk (Nat.le_add_right _ _), fun _ q => ?_⟩
      rw [hm, if_neg q]
      omega
    | false =>
      have e : (jTkR tx ty r false).2 = (r.1, r.2.1, r.2.2.1, r.2.2.2.1, nI r.2.2.1) := by unfold jTkR jTk; rw [if_neg hf]; rfl
      have hp : 0 ≤ nI r.2.2.1 := nI_pos' (by have := h.2.1; omega)
      have hz : jMu ty (r.1, r.2.1, r.2.2.1, r.2.2.2.1, nI r.2.2.1) = 0 := by unfold jMu; exact if_pos hp
      rw [e, hz]
      refine ⟨Nat.zero_le _, fun _ q => ?_⟩
      rw [hm, if_neg q]
      omega
theorem jTk_w {tx : Ar} {ty : Nat} {r : RJ} {u : Bool} (ht : ty ≤ 200) (h : RjB ty r) (h0 : ¬ 0 ≤ r.2.2.2.2) (h1 : ¬ 0 ≤ (jTkR tx ty r u).2.2.2.2.2) : u = true ∧ (jTkR tx ty r u).1 = r.2.2.2.1 := by
  unfold jTkR jTk at h1 ⊢
  rw [if_neg h0] at h1 ⊢
  cases u with
  | true => exact ⟨rfl, rfl⟩
  | false => exact absurd (nI_pos' (show r.2.2.1 < 2 ^ 31 by have := h.2.1; omega)) h1
theorem jTk_f {tx : Ar} {ty : Nat} {r : RJ} {u : Bool} (h0 : 0 ≤ r.2.2.2.2) : 0 ≤ (jTkR tx ty r u).2.2.2.2.2 := by
  unfold jTkR jTk
  rw [if_pos h0]
  exact h0
theorem jTk_ne {tx : Ar} {ty ne : Nat} {to : Int32} {pl va : Nat} {fa : Int32} {u : Bool} (h : ne ≤ ty) : (jTk tx ty ne to pl va fa u).2.1 ≤ ty := by
  unfold jTk
  split
  · exact h
  · split
    · exact (jAdv_ok h).1
    · exact h
theorem jIt_ne {tx : Ar} {ty : Nat} {w : Int32} {r : RJ} {b : BJ} (h : r.1 ≤ ty) : (jIt tx ty w r b).1.1 ≤ ty := by
  unfold jIt
  split
  · exact jTk_ne h
  · split
    · exact jTk_ne (jTk_ne (jTk_ne (jTk_ne h)))
    · exact jTk_ne h
theorem jNu_ok {tx : Ar} {ty : Nat} {r : RJ} {lo hi : Int32} (h : RjB ty r) : RjB ty (jNuR tx ty r lo hi).2 := jTk_ok h
theorem jNu_mu {tx : Ar} {ty : Nat} {r : RJ} {lo hi : Int32} (ht : ty ≤ 200) (h : RjB ty r) : jMu ty (jNuR tx ty r lo hi).2 ≤ jMu ty r := (jTk_mu ht h).1
theorem jNu_f {tx : Ar} {ty : Nat} {r : RJ} {lo hi : Int32} (h0 : 0 ≤ r.2.2.2.2) : 0 ≤ (jNuR tx ty r lo hi).2.2.2.2.2 := jTk_f h0
theorem jNu_in {tx : Ar} {ty : Nat} {r : RJ} {lo hi : Int32} (ht : ty ≤ 200) (h : RjB ty r) (h1 : ¬ 0 ≤ (jNuR tx ty r lo hi).2.2.2.2.2) : pIn (nI (jNuR tx ty r lo hi).1) lo hi = true ∧ (jNuR tx ty r lo hi).1 < 2 ^ 31 := by
  have h0 : ¬ 0 ≤ r.2.2.2.2 := fun q => h1 (jNu_f q)
  obtain ⟨h2, h3⟩ := jTk_w (tx := tx) (u := decide (r.2.1 = 2) && pIn (nI r.2.2.2.1) lo hi) ht h h0 h1
  have e : (jNuR tx ty r lo hi).1 = r.2.2.2.1 := h3
  rw [e]
  exact ⟨(Bool.and_eq_true_iff.mp h2).2, h.2.2⟩
theorem pIn_15 {v : Nat} (h : pIn (nI v) 1 5 = true) (hv : v < 2 ^ 31) : 1 ≤ v ∧ v ≤ 5 := by
  simp only [pIn, Bool.and_eq_true, Bool.not_eq_true', decide_eq_false_iff_not] at h
  have h1 := Int32.not_lt.mp h.1
  have h2 := Int32.not_lt.mp h.2
  exact ⟨(nI_leI (a := 1) (by omega) hv).mp h1, (nI_leI (b := 5) hv (by omega)).mp h2⟩
def JI (ty i : Nat) (s : SJ) (n : Nat) : Prop := RjB ty s.1 ∧ s.2.1 0 ≤ 7 ∧ 1 ≤ s.2.1 1 ∧ s.2.1 1 ≤ 5 ∧ s.2.1 3 ≤ 7 ∧ (¬ 0 ≤ s.1.2.2.2.2 → 1 ≤ s.2.1 4 ∧ s.2.1 4 ≤ 5) ∧ jMu ty s.1 ≤ n ∧ i + n ≤ 201
theorem jIt_ok {tx : Ar} {ty : Nat} {w : Int32} {r : RJ} {b : BJ} (ht : ty ≤ 200) (h : RjB ty r) (h7 : w = 116 → b.1 3 < 7) (h3 : b.1 3 ≤ 7) (h4 : 1 ≤ b.1 4 ∧ b.1 4 ≤ 5) :
    RjB ty (jIt tx ty w r b).1 ∧ jMu ty (jIt tx ty w r b).1 ≤ jMu ty r ∧ (jIt tx ty w r b).2.1 0 = b.1 0 ∧ (jIt tx ty w r b).2.1 1 = b.1 1 ∧ (jIt tx ty w r b).2.1 2 = b.1 2 ∧ (jIt tx ty w r b).2.1 3 ≤ 7 ∧ (¬ 0 ≤ (jIt tx ty w r b).1.2.2.2.2 → 1 ≤ (jIt tx ty w r b).2.1 4 ∧ (jIt tx ty w r b).2.1 4 ≤ 5) := by
  unfold jIt
  split
  · exact ⟨jNu_ok h, jNu_mu ht h, rfl, rfl, rfl, h3, fun q => have h9 := jNu_in ht h q; pIn_15 h9.1 h9.2⟩
  · split
    · rename_i hw
      have k1 := jNu_ok (tx := tx) (lo := 0) (hi := 3) h
      have k2 := jNu_ok (tx := tx) (lo := 1) (hi := 9) k1
      have k3 := jNu_ok (tx := tx) (lo := 0) (hi := 31) k2
      have k4 := jNu_ok (tx := tx) (lo := 0) (hi := nI (b.1 4) - 1) k3
      refine ⟨k4, ?_, rfl, rfl, rfl, h7 hw, fun _ => h4⟩
      exact Nat.le_trans (jNu_mu ht k3) (Nat.le_trans (jNu_mu ht k2) (Nat.le_trans (jNu_mu ht k1) (jNu_mu ht h)))
    · exact ⟨jNu_ok h, jNu_mu ht h, rfl, rfl, rfl, h3, fun _ => h4⟩
theorem jU_7 {i : Nat} {to : Int32} {va : Nat} {N : Nat → Nat} {td : Bool} (h : jU i to va N td = true) (hv : nI va = 116) : N 3 < 7 := by
  unfold jU at h
  rw [if_neg (by rw [hv]; decide), if_pos hv] at h
  simpa using (Bool.and_eq_true_iff.mp h).2
theorem JI_h7 {tx : Ar} {ty i n : Nat} {s : SJ} (ht : ty ≤ 200) (h : JI ty i s n) (h1 : ¬ 0 ≤ s.1.2.2.2.2) (h2 : ¬ 0 ≤ (jSt1 tx ty i s).2.2.2.2.2) (hw : nI (jSt1 tx ty i s).1 = 116) : s.2.1 3 < 7 := by
  obtain ⟨h3, h4⟩ := jTk_w (tx := tx) (u := jU i s.1.2.1 s.1.2.2.2.1 s.2.1 s.2.2.2.2.2.2) ht h.1 h1 h2
  have e : (jSt1 tx ty i s).1 = s.1.2.2.2.1 := h4
  rw [e] at hw
  exact jU_7 h3 hw
theorem JI_2 {tx : Ar} {ty i n : Nat} {s : SJ} (ht : ty ≤ 200) (h : JI ty i s n) (h1 : ¬ 0 ≤ s.1.2.2.2.2) (h2 : ¬ s.1.2.1 = 0) : 0 < n ∧ JI ty (i + 1) (jSt2 tx ty i s) (n - 1) := by
  obtain ⟨a1, a2, a3, a4, a5, a6, a7, a8⟩ := id h
  have b1 := jTk_ok (tx := tx) (u := jU i s.1.2.1 s.1.2.2.2.1 s.2.1 s.2.2.2.2.2.2) a1
  have b2 := (jTk_mu (tx := tx) (u := jU i s.1.2.1 s.1.2.2.2.1 s.2.1 s.2.2.2.2.2.2) ht a1).2 h1 h2
  have b1 : RjB ty (jSt1 tx ty i s).2 := b1
  have b2 : jMu ty (jSt1 tx ty i s).2 < jMu ty s.1 := b2
  refine ⟨by omega, ?_⟩
  unfold jSt2
  split
  · rename_i q
    exact ⟨b1, a2, a3, a4, a5, fun z => absurd q z, by show jMu ty (jSt1 tx ty i s).2 ≤ n - 1; omega, by omega⟩
  · rename_i q
    obtain ⟨d1, d2, d3, d4, d5, d6, d7⟩ := jIt_ok (tx := tx) (w := nI (jSt1 tx ty i s).1) (b := s.2) ht b1 (fun hw => JI_h7 ht h h1 q hw) a5 (a6 h1)
    exact ⟨d1, by rw [d3]; exact a2, by rw [d4]; exact a3, by rw [d4]; exact a4, d6, d7, by omega, by omega⟩
theorem JI_step {tx : Ar} {ty i n : Nat} {s : SJ} (ht : ty ≤ 200) (h : JI ty i s n) (h1 : ¬ 0 ≤ s.1.2.2.2.2) (h2 : ¬ s.1.2.1 = 0) : 0 < n ∧ JI ty (i + 1) (jStp tx ty i s) (n - 1) := by
  obtain ⟨h0, a1, a2, a3, a4, a5, a6, a7, a8⟩ := JI_2 (tx := tx) ht h h1 h2
  refine ⟨h0, jTk_ok a1, a2, a3, a4, a5, fun q => a6 (fun z => q (jTk_f z)), ?_, a8⟩
  exact Nat.le_trans (jTk_mu ht a1).1 a7
theorem JI_0 {tx : Ar} {ty va : Nat} {b : BJ} (ht : ty ≤ 200) (hv : va < 2 ^ 31) (h0 : b.1 0 ≤ 7) (h1 : 1 ≤ b.1 1) (h2 : b.1 1 ≤ 5) (h3 : b.1 3 ≤ 7) (h4 : 1 ≤ b.1 4) (h5 : b.1 4 ≤ 5) : JI ty 0 (jAdv tx ty 0 va (-1), b) 201 := by
  have h := jAdv_ok (tx := tx) (va := va) (fa := -1) (Nat.zero_le ty)
  refine ⟨⟨h.1, h.2.1, h.2.2.2.2.2 hv⟩, h0, h1, h2, h3, fun _ => ⟨h4, h5⟩, ?_, by omega⟩
  unfold jMu
  split
  · exact Nat.zero_le _
  · split <;> omega
/-! what a council is made of, once it is read -/
def jSe1 (N : Nat → Nat) : Nat → (Nat → Nat) := fo (fun k r => va_up r k (r (3 + k))) N
theorem jSe1_0 (N : Nat → Nat) : jSe1 N 0 = N := rfl
theorem jSe1_s (N : Nat → Nat) (i : Nat) : va_up (jSe1 N i) i (jSe1 N i (3 + i)) = jSe1 N (i + 1) := rfl
def jSe3 (f : Ar) : Nat → Ar := fo (fun t r => upd r t (r (7 + t))) f
theorem jSe3_0 (f : Ar) : jSe3 f 0 = f := rfl
theorem jSe3_s (f : Ar) (i : Nat) : upd (jSe3 f i) i (jSe3 f i (7 + i)) = jSe3 f (i + 1) := rfl
def jSeH (h f : Ar) : Nat → Ar := fo (fun t r => upd r t (h t)) f
theorem jSeH_0 (h f : Ar) : jSeH h f 0 = f := rfl
theorem jSeH_s (h f : Ar) (i : Nat) : upd (jSeH h f i) i (h i) = jSeH h f (i + 1) := rfl
theorem fillN_0 (v : Int32) (f : Ar) : fillN v f 0 = f := rfl
theorem fillN_s (v : Int32) (f : Ar) (i : Nat) : upd (fillN v f i) i v = fillN v f (i + 1) := rfl
theorem jSe1_30 (N : Nat → Nat) : jSe1 N 3 0 = N 3 := rfl
def wSet (c : JX) : JX := mkJ (qTr c) (qTx c) 0 (qNe c) (qTo c) (qPl c) (qVa c) (qFa c) (jSe1 (qN c) 3) (jSe3 (qSo c) (qN c 3)) (jSe3 (qVo c) (qN c 3)) (jSe3 (qBi c) (qN c 3)) (qHo c) (qTd c) (jSeH (qHo c) (fillN 0 (qS c) 19) (qN c 3)) (qW c) (qKe c) (va_up (va_up (qIk c) 0 false) 1 false) (qUn c) 0 (qRb c) (qRi c) 0
def jCs0 (c : JX) : SJ := (jAdv (qTx c) (qTy c) 0 (qVa c) (-1), va_up (va_up (va_up (qN c) 3 0) 4 3) 5 2, qSo c, qVo c, qBi c, qHo c, false)
def yCoZ (c : JX) : Nat × SJ := jCo (qTx c) (qTy c) 201 0 (jCs0 c)
def yCouncil (c : JX) : Int32 × JX := if 0 ≤ (yCoZ c).2.1.2.2.2.2 then (-10 - (yCoZ c).2.1.2.2.2.2, wSJ c (yCoZ c).2) else (nI (yCoZ c).1, wSet (wSJ c (yCoZ c).2))

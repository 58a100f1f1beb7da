/-! the two readers -/
def Agr (tx ty' : Ar) (ty : Nat) : Prop := ∀ k, k < ty → tx k = ty' k ∧ ∃ j : Nat, j < 256 ∧ ty' k = nI j
/-- a token of the class, a token of the model -/
def TokR (tok : Int32) (num : Nat) (to : Int32) (va : Nat) : Prop := (tok = -1 ∧ to = 0) ∨ (tok = -2 ∧ to = 2 ∧ num = va ∧ va ≤ 31) ∨ (tok = -3 ∧ to = 4) ∨ ∃ j : Nat, j < 256 ∧ tok = nI j ∧ to = jKi j ∧ va = j
def TkT (ty : Nat) (r : Rd) (m : RJ) : Prop := rLen r = ty ∧ rPl r = m.1 ∧ m.1 ≤ ty ∧ rTP r = m.2.2.1 ∧ m.2.2.1 ≤ ty ∧ TokR (rTok r) (rNum r) m.2.1 m.2.2.2.1
theorem skF_agr {tx tz : Ar} {ty : Nat} (h : Agr tx tz ty) : ∀ n p : Nat, skF tx ty n p = skF tz ty n p
  | 0, _ => rfl
  | n + 1, p => by
    rw [skF, skF]
    by_cases q : p < ty
    · rw [(h p q).1, skF_agr h n (p + 1)]
    · rw [if_neg (fun z => q z.1), if_neg (fun z => q z.1)]
theorem dgF_agr {tx tz : Ar} {ty : Nat} (h : Agr tx tz ty) : ∀ n p m v : Nat, m = min v 32 → (dgF tx ty n p m).1 = (jDgF tz ty n p v).1 ∧ (dgF tx ty n p m).2 = min (jDgF tz ty n p v).2 32
  | 0, _, _, _, e => ⟨rfl, e⟩
  | n + 1, p, m, v, e => by
    by_cases q : pIn (jLet tz ty p) 48 57 = true
    · obtain ⟨q1, q2, q3⟩ := jLet_dig q
      have ex : jLet tz ty p = tx p := by rw [jLet, if_pos q1, (h p q1).1]
      rw [jDgF_y q, dgF, if_pos ⟨q1, by rw [← ex]; exact q2⟩, ← ex]
      apply dgF_agr h n
      split <;> omega
    · have q' : pIn (jLet tz ty p) 48 57 = false := by simpa using q
      rw [jDgF_n q', dgF, if_neg]
      · exact ⟨rfl, e⟩
      · intro z
        have ex : jLet tz ty p = tx p := by rw [jLet, if_pos z.1, (h p z.1).1]
        rw [pIn_dig, ex] at q
        exact q z.2
theorem nxT_fa (tx : Ar) (r : Rd) : rFa (nxT tx r) = rFa r ∧ rWa (nxT tx r) = rWa r ∧ rLen (nxT tx r) = rLen r := by
  unfold nxT nxP
  split
  · exact ⟨rfl, rfl, rfl⟩
  · split
    · exact ⟨rfl, rfl, rfl⟩
    · exact ⟨rfl, rfl, rfl⟩
/-- one token further, on both sides -/
theorem adv_T {tx tz : Ar} {ty : Nat} (h : Agr tx tz ty) {r : Rd} {ne va : Nat} {fa : Int32} (h1 : rLen r = ty) (h2 : rPl r = ne) (h3 : ne ≤ ty) : TkT ty (nxT tx r) (jAdv tz ty ne va fa) := by
  have hs := skF_le tz ty (ty - ne) ne
  have e : skB tx (rLen r) (rPl r) = skF tz ty (ty - ne) ne := by rw [skB, h1, h2, skF_agr h]
  have e2 : skB tz ty ne = skF tz ty (ty - ne) ne := rfl
  unfold nxT jAdv
  rw [e, e2]
  generalize skF tz ty (ty - ne) ne = p at hs
  have hp := hs.2 h3
  unfold nxP jAdP
  rw [h1]
  by_cases q : ty ≤ p
  · have hl : jLet tz ty p = -1 := by rw [jLet, if_neg (by omega)]
    rw [if_pos q, hl, if_neg (by decide)]
    exact ⟨rfl, rfl, hp, rfl, hp, Or.inl ⟨rfl, rfl⟩⟩
  · obtain ⟨t1, j, hj, t2⟩ := h p (by omega)
    have hl : jLet tz ty p = nI j := by rw [jLet, if_pos (by omega), t2]
    rw [if_neg q, hl, if_pos (nI_pos' (by omega)), t1, t2, pIn_dig, nI_clamp (by omega)]
    by_cases d : isDig (nI j) = true
    · rw [if_pos d, if_pos d]
      have hd := dgF_agr h (ty - p) p 0 0 rfl
      have hb := jDgF_le tz ty (ty - p) p 0
      have hd1 : (dgB tx ty p).1 = (jDg tz ty p).1 := hd.1
      have hd2 : (dgB tx ty p).2 = min (jDg tz ty p).2 32 := hd.2
      have hb2 : (jDg tz ty p).1 ≤ ty := hb.2.1 hp
      unfold tkD
      refine ⟨rfl, hd1, hb2, rfl, hp, ?_⟩
      show TokR (if (tx p = 48 ∧ 1 < (dgB tx ty p).1 - p) ∨ 31 < (dgB tx ty p).2 then -3 else -2) (dgB tx ty p).2 (if 31 < (jDg tz ty p).2 ∨ (j = 48 ∧ 1 < (jDg tz ty p).1 - p) then 4 else 2) (jDg tz ty p).2
      rw [hd1, hd2, t1, t2]
      have e48 : nI j = 48 ↔ j = 48 := nI_eq (b := 48) (by omega) (by omega)
      by_cases z : 31 < (jDg tz ty p).2 ∨ (j = 48 ∧ 1 < (jDg tz ty p).1 - p)
      · rw [if_pos z, if_pos (by rw [e48]; omega)]
        exact Or.inr (Or.inr (Or.inl ⟨rfl, rfl⟩))
      · rw [if_neg z, if_neg (by rw [e48]; omega)]
        exact Or.inr (Or.inl ⟨rfl, rfl, by omega, by omega⟩)
    · rw [if_neg d, if_neg d]
      exact ⟨rfl, rfl, by show p + 1 ≤ ty; omega, rfl, hp, Or.inr (Or.inr (Or.inr ⟨j, hj, rfl, rfl, rfl⟩))⟩
/-- behind a fault nothing counts but the fault -/
def FaR (ty : Nat) (r : Rd) (m : RJ) : Prop := ∃ q : Nat, q ≤ ty ∧ m.2.2.2.2 = nI q ∧ rFa r = nI q
theorem nI_m1 {q : Nat} (h : q < 2 ^ 31) : ¬ nI q = -1 := fun z => nI_pos h (by rw [z]; decide)
theorem mkF_keep {r : Rd} (h : ¬ rFa r = -1) : mkF r = r := by rw [mkF, if_neg h]
theorem mkF_new {r : Rd} (h : rFa r = -1) : rFa (mkF r) = nI (rTP r) := by rw [mkF, if_pos h]
/-- ahead of a token that is still to be read by the class -/
def RR (tx : Ar) (ty : Nat) (r : Rd) (m : RJ) : Prop := (rFa r = -1 ∧ m.2.2.2.2 = -1 ∧ rLen r = ty ∧ TkT ty (nxT tx r) m) ∨ FaR ty r m
theorem FaR.f {ty : Nat} {r : Rd} {m : RJ} (ht : ty ≤ 200) (h : FaR ty r m) : 0 ≤ m.2.2.2.2 ∧ ¬ rFa r = -1 := by
  obtain ⟨q, h1, h2, h3⟩ := h
  rw [h2, h3]
  exact ⟨nI_pos' (by omega), nI_m1 (by omega)⟩
theorem rdN_fa {tx : Ar} {lo hi : Nat} {r : Rd} (h : ¬ rFa r = -1) : rFa (rdN tx lo hi r).2 = rFa r := by
  have h1 := (nxT_fa tx r).1
  unfold rdN
  split
  · exact h1
  · show rFa (mkF (nxT tx r)) = rFa r
    rw [mkF_keep (by rw [h1]; exact h), h1]
theorem jTk_far {tz : Ar} {ty : Nat} {m : RJ} {u : Bool} (h : 0 ≤ m.2.2.2.2) : (jTkR tz ty m u).2 = m := by
  unfold jTkR jTk
  rw [if_pos h]
theorem jNu_far {tz : Ar} {ty : Nat} {m : RJ} {lo hi : Int32} (h : 0 ≤ m.2.2.2.2) : (jNuR tz ty m lo hi).2 = m := jTk_far h
theorem Tok2 {tok : Int32} {num : Nat} {to : Int32} {va : Nat} (h : TokR tok num to va) : (tok = -2 ↔ to = 2) ∧ (to = 2 → num = va ∧ va ≤ 31) ∧ (tok = 59 ↔ to = 3) ∧ (tok = -1 ↔ to = 0) := by
  rcases h with ⟨h1, h2⟩ | ⟨h1, h2, h3, h4⟩ | ⟨h1, h2⟩ | ⟨j, hj, h1, h2, h3⟩
  · rw [h1, h2]; refine ⟨by decide, fun z => absurd z (by decide), by decide, by decide⟩
  · rw [h1, h2]; refine ⟨by decide, fun _ => ⟨h3, h4⟩, by decide, by decide⟩
  · rw [h1, h2]; refine ⟨by decide, fun z => absurd z (by decide), by decide, by decide⟩
  · have k2 : ¬ jKi j = 2 := by unfold jKi; split; decide; split <;> decide
    have k0 : ¬ jKi j = 0 := by unfold jKi; split; decide; split <;> decide
    have n2 : ¬ nI j = -2 := fun z => nI_pos (show j < 2 ^ 31 by omega) (by rw [z]; decide)
    have n1 : ¬ nI j = -1 := nI_m1 (by omega)
    have e59 : nI j = 59 ↔ j = 59 := nI_eq (b := 59) (by omega) (by omega)
    have k3 : jKi j = 3 ↔ j = 59 := by
      unfold jKi
      by_cases q : j = 59
      · simp [q]
      · rw [if_neg q]
        constructor
        · intro z
          revert z
          split
          · intro z; exact absurd z (by decide)
          · intro z; exact absurd z (by decide)
        · intro z; exact absurd z q
    rw [h1, h2]
    exact ⟨⟨fun z => absurd z n2, fun z => absurd z k2⟩, fun z => absurd z k2, by rw [e59, k3], ⟨fun z => absurd z n1, fun z => absurd z k0⟩⟩
theorem pIn_nat {v lo hi : Nat} (h1 : v < 2 ^ 31) (h2 : lo < 2 ^ 31) (h3 : hi < 2 ^ 31) : pIn (nI v) (nI lo) (nI hi) = decide (lo ≤ v ∧ v ≤ hi) := by
  rw [pIn, ← decide_not, ← decide_not, ← Bool.decide_and]
  exact decide_eq_decide.mpr (by rw [Int32.not_lt, Int32.not_lt, nI_leI h2 h1, nI_leI h1 h3])
/-- a number, on both sides -/
theorem num_T {tx tz : Ar} {ty : Nat} (h : Agr tx tz ty) (ht : ty ≤ 200) {r : Rd} {m : RJ} {lo hi : Nat} (hh : hi < 2 ^ 31) (hl : lo ≤ hi) (hr : RR tx ty r m) :
    RR tx ty (rdN tx lo hi r).2 (jNuR tz ty m (nI lo) (nI hi)).2 ∧ (¬ 0 ≤ (jNuR tz ty m (nI lo) (nI hi)).2.2.2.2.2 → (rdN tx lo hi r).1 = (jNuR tz ty m (nI lo) (nI hi)).1) := by
  rcases hr with ⟨f1, f2, f3, f4⟩ | hf
  · obtain ⟨g1, g2, g3, g4, g5, g6⟩ := id f4
    obtain ⟨k1, k2, -, -⟩ := Tok2 g6
    have hfa := (nxT_fa tx r).1
    have f2' : ¬ 0 ≤ m.2.2.2.2 := by rw [f2]; decide
    by_cases q : m.2.1 = 2
    · obtain ⟨n1, n2⟩ := k2 q
      by_cases z : lo ≤ m.2.2.2.1 ∧ m.2.2.2.1 ≤ hi
      · have e1 : rdN tx lo hi r = (rNum (nxT tx r), nxT tx r) := by rw [rdN, if_pos ⟨k1.mpr q, by rw [n1]; exact z⟩]
        have e2 : jNuR tz ty m (nI lo) (nI hi) = (m.2.2.2.1, jAdv tz ty m.1 m.2.2.2.1 m.2.2.2.2) := by
          unfold jNuR jNu jTk
          rw [if_neg f2', if_pos]
          rw [pIn_nat (by omega) (by omega) hh, decide_eq_true z, decide_eq_true q]
          rfl
        rw [e1, e2]
        refine ⟨Or.inl ⟨by rw [hfa]; exact f1, ?_, g1, adv_T h g1 g2 g3⟩, fun _ => n1⟩
        exact ((jAdv_ok g3).2.2.1).trans f2
      · have e1 : rdN tx lo hi r = (lo, mkF (nxT tx r)) := by
          rw [rdN, if_neg]
          rintro ⟨-, y⟩
          rw [n1] at y
          exact z y
        have e2 : jNuR tz ty m (nI lo) (nI hi) = (0, m.1, m.2.1, m.2.2.1, m.2.2.2.1, nI m.2.2.1) := by
          unfold jNuR jNu jTk
          rw [if_neg f2', if_neg]
          rw [pIn_nat (by omega) (by omega) hh, decide_eq_false z, Bool.and_false]
          decide
        rw [e1, e2]
        refine ⟨Or.inr ⟨m.2.2.1, g5, rfl, ?_⟩, fun y => absurd (nI_pos' (show m.2.2.1 < 2 ^ 31 by omega)) y⟩
        show rFa (mkF (nxT tx r)) = _
        rw [mkF_new (by rw [hfa]; exact f1), g4]
    · have e1 : rdN tx lo hi r = (lo, mkF (nxT tx r)) := by
        rw [rdN, if_neg]
        rintro ⟨y, -⟩
        exact q (k1.mp y)
      have e2 : jNuR tz ty m (nI lo) (nI hi) = (0, m.1, m.2.1, m.2.2.1, m.2.2.2.1, nI m.2.2.1) := by
        unfold jNuR jNu jTk
        rw [if_neg f2', if_neg]
        rw [decide_eq_false q, Bool.false_and]
        decide
      rw [e1, e2]
      refine ⟨Or.inr ⟨m.2.2.1, g5, rfl, ?_⟩, fun y => absurd (nI_pos' (show m.2.2.1 < 2 ^ 31 by omega)) y⟩
      show rFa (mkF (nxT tx r)) = _
      rw [mkF_new (by rw [hfa]; exact f1), g4]
  · have hf2 := hf.f ht
    obtain ⟨q, h1, h2, h3⟩ := hf
    refine ⟨Or.inr ⟨q, h1, by rw [jNu_far hf2.1]; exact h2, by rw [rdN_fa hf2.2]; exact h3⟩, fun y => ?_⟩
    rw [jNu_far hf2.1] at y
    exact absurd hf2.1 y
theorem num_in {tz : Ar} {ty : Nat} {m : RJ} {lo hi : Nat} (hl : lo ≤ hi) {tx : Ar} {r : Rd} : lo ≤ (rdN tx lo hi r).1 ∧ (rdN tx lo hi r).1 ≤ hi := rdN_in hl
theorem jNu_fa2 {tz : Ar} {ty : Nat} {m : RJ} {lo hi : Int32} (h : ¬ 0 ≤ (jNuR tz ty m lo hi).2.2.2.2.2) : ¬ 0 ≤ m.2.2.2.2 := fun q => h (jNu_f q)

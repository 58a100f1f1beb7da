/-! items, the council -/
/-- the draft of the class, what the model lays down -/
def DB (d : Cn) (wa : Bool) (b : BJ) : Prop := kT d = b.1 3 ∧ b.1 3 ≤ 7 ∧ kO d = b.1 4 ∧ 1 ≤ b.1 4 ∧ b.1 4 ≤ 5 ∧ kW d = nI (b.1 5) ∧ b.1 5 ≤ 9 ∧ wa = b.2.2.2.2.2 ∧ ∀ t, t < b.1 3 → kS d t = b.2.1 (7 + t) ∧ kV d t = b.2.2.1 (7 + t) ∧ kB d t = b.2.2.2.1 (7 + t) ∧ kF d t = b.2.2.2.2.1 t ∧ Sm 5 (b.2.2.2.1 (7 + t)) ∧ ∃ h : Nat, h < b.1 4 ∧ b.2.2.2.2.1 t = nI h
/-- ahead of an item -/
def HD (ty i : Nat) (c : DS) (s : SJ) : Prop := (rFa c.2 = -1 ∧ s.1.2.2.2.2 = -1 ∧ TkT ty c.2 s.1 ∧ DB c.1 (rWa c.2) s.2 ∧ (i = 0 → s.2.1 3 = 0)) ∨ FaR ty c.2 s.1
/-- within an item: what it told is read -/
def ID (tx : Ar) (ty : Nat) (c : DS) (s : SJ) : Prop := (rFa c.2 = -1 ∧ s.1.2.2.2.2 = -1 ∧ rLen c.2 = ty ∧ TkT ty (nxT tx c.2) s.1 ∧ DB c.1 (rWa c.2) s.2) ∨ FaR ty c.2 s.1
theorem rdN_wa (tx : Ar) (lo hi : Nat) (r : Rd) : rWa (rdN tx lo hi r).2 = rWa r := by
  have h1 := (nxT_fa tx r).2.1
  unfold rdN
  split
  · exact h1
  · exact ((mkF_len (nxT tx r)).2.2.2.2.2).trans h1
theorem RR.of {tx : Ar} {ty : Nat} {r : Rd} {m : RJ} (ht : ty ≤ 200) (h : RR tx ty r m) (h0 : ¬ 0 ≤ m.2.2.2.2) : rFa r = -1 ∧ m.2.2.2.2 = -1 ∧ rLen r = ty ∧ TkT ty (nxT tx r) m := by
  rcases h with h | h
  · exact h
  · exact absurd (h.f ht).1 h0
theorem RR.fa {tx : Ar} {ty : Nat} {r : Rd} {m : RJ} (h : RR tx ty r m) (h0 : 0 ≤ m.2.2.2.2) : FaR ty r m := by
  rcases h with h | h
  · rw [h.2.1] at h0; exact absurd h0 (by decide)
  · exact h
section EQC
variable {tx tz : Ar} {ty : Nat}
/-- o N -/
theorem it_o (h : Agr tx tz ty) (ht : ty ≤ 200) {d : Cn} {r : Rd} {m : RJ} {b : BJ} (hr : RR tx ty r m) (hd : DB d (rWa r) b) (h0 : b.1 3 = 0) :
    ID tx ty (offT d (rdN tx 1 5 r).1, (rdN tx 1 5 r).2) (jIt tz ty 111 m b) := by
  obtain ⟨n1, n2⟩ := num_T h ht (lo := 1) (hi := 5) (by omega) (by omega) hr
  have n3 := rdN_in (tx := tx) (lo := 1) (hi := 5) (r := r) (by omega)
  have n4 := rdN_wa tx 1 5 r
  have e : jIt tz ty 111 m b = ((jNuR tz ty m (nI 1) (nI 5)).2, va_up b.1 4 (jNuR tz ty m (nI 1) (nI 5)).1, b.2) := by rw [jIt, if_pos rfl]; rfl
  rw [e]
  generalize rdN tx 1 5 r = z at n1 n2 n3 n4
  generalize jNuR tz ty m (nI 1) (nI 5) = y at n1 n2
  by_cases q : 0 ≤ y.2.2.2.2.2
  · exact Or.inr (n1.fa q)
  · obtain ⟨f1, f2, f3, f4⟩ := n1.of ht q
    have ev := n2 q
    refine Or.inl ⟨f1, f2, f3, f4, ?_⟩
    obtain ⟨d1, d2, d3, d4, d5, d6, d7, d8, d9⟩ := hd
    show DB (offT d z.1) (rWa z.2) (va_up b.1 4 y.1, b.2)
    rw [n4, ev]
    refine ⟨d1, d2, rfl, ?_, ?_, d6, d7, d8, fun t h9 => ?_⟩
    · show 1 ≤ y.1
      omega
    · show y.1 ≤ 5
      omega
    · have h9 : t < b.1 3 := h9
      omega
/-- w N -/
theorem it_w (h : Agr tx tz ty) (ht : ty ≤ 200) {d : Cn} {r : Rd} {m : RJ} {b : BJ} {w : Int32} (hw1 : ¬ w = 111) (hw2 : ¬ w = 116) (hr : RR tx ty r m) (hd : DB d (rWa r) b) (hwa : rLen (wtR r) = rLen r) (hr2 : RR tx ty (wtR r) m) :
    ID tx ty (warT d (rdN tx 0 9 (wtR r)).1, (rdN tx 0 9 (wtR r)).2) (jIt tz ty w m b) := by
  obtain ⟨n1, n2⟩ := num_T h ht (lo := 0) (hi := 9) (by omega) (by omega) hr2
  have n3 := rdN_in (tx := tx) (lo := 0) (hi := 9) (r := wtR r) (by omega)
  have n4 := rdN_wa tx 0 9 (wtR r)
  have e : jIt tz ty w m b = ((jNuR tz ty m (nI 0) (nI 9)).2, va_up b.1 5 (jNuR tz ty m (nI 0) (nI 9)).1, b.2.1, b.2.2.1, b.2.2.2.1, b.2.2.2.2.1, true) := by rw [jIt, if_neg hw1, if_neg hw2]; rfl
  rw [e]
  generalize rdN tx 0 9 (wtR r) = z at n1 n2 n3 n4
  generalize jNuR tz ty m (nI 0) (nI 9) = y at n1 n2
  by_cases q : 0 ≤ y.2.2.2.2.2
  · exact Or.inr (n1.fa q)
  · obtain ⟨f1, f2, f3, f4⟩ := n1.of ht q
    have ev := n2 q
    refine Or.inl ⟨f1, f2, f3, f4, ?_⟩
    obtain ⟨d1, d2, d3, d4, d5, d6, d7, d8, d9⟩ := hd
    show DB (warT d z.1) (rWa z.2) (va_up b.1 5 y.1, b.2.1, b.2.2.1, b.2.2.2.1, b.2.2.2.2.1, true)
    rw [n4, ev]
    exact ⟨d1, d2, d3, d4, d5, rfl, show y.1 ≤ 9 by omega, rfl, d9⟩
/-- t S V F H -/
theorem it_t (h : Agr tx tz ty) (ht : ty ≤ 200) {d : Cn} {r : Rd} {m : RJ} {b : BJ} (hr : RR tx ty r m) (hd : DB d (rWa r) b) (h7 : b.1 3 < 7) :
    ID tx ty (addT d (rdN tx 0 3 r).1 (rdN tx 1 9 (rdN tx 0 3 r).2).1 (rdN tx 0 31 (rdN tx 1 9 (rdN tx 0 3 r).2).2).1 (rdN tx 0 (kO d - 1) (rdN tx 0 31 (rdN tx 1 9 (rdN tx 0 3 r).2).2).2).1, (rdN tx 0 (kO d - 1) (rdN tx 0 31 (rdN tx 1 9 (rdN tx 0 3 r).2).2).2).2) (jIt tz ty 116 m b) := by
  obtain ⟨d1, d2, d3, d4, d5, d6, d7, d8, d9⟩ := hd
  have eo : nI (b.1 4) - 1 = nI (kO d - 1) := by rw [d3, show (1 : Int32) = nI 1 from rfl, pk_sub d4]
  have e : jIt tz ty 116 m b = ((jNuR tz ty (jNuR tz ty (jNuR tz ty (jNuR tz ty m (nI 0) (nI 3)).2 (nI 1) (nI 9)).2 (nI 0) (nI 31)).2 (nI 0) (nI (kO d - 1))).2, va_up b.1 3 (b.1 3 + 1), upd b.2.1 (7 + b.1 3) (nI (jNuR tz ty m (nI 0) (nI 3)).1), upd b.2.2.1 (7 + b.1 3) (nI (jNuR tz ty (jNuR tz ty m (nI 0) (nI 3)).2 (nI 1) (nI 9)).1), upd b.2.2.2.1 (7 + b.1 3) (nI (jNuR tz ty (jNuR tz ty (jNuR tz ty m (nI 0) (nI 3)).2 (nI 1) (nI 9)).2 (nI 0) (nI 31)).1), upd b.2.2.2.2.1 (b.1 3) (nI (jNuR tz ty (jNuR tz ty (jNuR tz ty (jNuR tz ty m (nI 0) (nI 3)).2 (nI 1) (nI 9)).2 (nI 0) (nI 31)).2 (nI 0) (nI (kO d - 1))).1), b.2.2.2.2.2) := by
    rw [jIt, if_neg (by decide), if_pos rfl, eo]; rfl
  rw [e]
  obtain ⟨a1, a2⟩ := num_T h ht (lo := 0) (hi := 3) (by omega) (by omega) hr
  have a4 := rdN_wa tx 0 3 r
  have a5 := @jNu_fa2 tz ty m (nI 0) (nI 3)
  generalize rdN tx 0 3 r = z1 at a1 a2 a4 ⊢
  generalize jNuR tz ty m (nI 0) (nI 3) = y1 at a1 a2 a5 ⊢
  obtain ⟨b1, b2⟩ := num_T h ht (lo := 1) (hi := 9) (by omega) (by omega) a1
  have b4 := rdN_wa tx 1 9 z1.2
  have b5 := @jNu_fa2 tz ty y1.2 (nI 1) (nI 9)
  generalize rdN tx 1 9 z1.2 = z2 at b1 b2 b4 ⊢
  generalize jNuR tz ty y1.2 (nI 1) (nI 9) = y2 at b1 b2 b5 ⊢
  obtain ⟨c1, c2⟩ := num_T h ht (lo := 0) (hi := 31) (by omega) (by omega) b1
  have c3 := rdN_in (tx := tx) (lo := 0) (hi := 31) (r := z2.2) (by omega)
  have c4 := rdN_wa tx 0 31 z2.2
  have c5 := @jNu_fa2 tz ty y2.2 (nI 0) (nI 31)
  generalize rdN tx 0 31 z2.2 = z3 at c1 c2 c3 c4 ⊢
  generalize jNuR tz ty y2.2 (nI 0) (nI 31) = y3 at c1 c2 c5 ⊢
  obtain ⟨g1, g2⟩ := num_T h ht (lo := 0) (hi := kO d - 1) (by omega) (by omega) c1
  have g3 := rdN_in (tx := tx) (lo := 0) (hi := kO d - 1) (r := z3.2) (by omega)
  have g4 := rdN_wa tx 0 (kO d - 1) z3.2
  have g5 := @jNu_fa2 tz ty y3.2 (nI 0) (nI (kO d - 1))
  generalize rdN tx 0 (kO d - 1) z3.2 = z4 at g1 g2 g3 g4 ⊢
  generalize jNuR tz ty y3.2 (nI 0) (nI (kO d - 1)) = y4 at g1 g2 g5 ⊢
  by_cases q : 0 ≤ y4.2.2.2.2.2
  · exact Or.inr (g1.fa q)
  · have q3 := g5 q
    have q2 := c5 q3
    have q1 := b5 q2
    obtain ⟨f1, f2, f3, f4⟩ := g1.of ht q
    refine Or.inl ⟨f1, f2, f3, f4, ?_⟩
    show DB (addT d z1.1 z2.1 z3.1 z4.1) (rWa z4.2) _
    rw [g4, c4, b4, a4, addT, if_pos (by omega), a2 q1, b2 q2, c2 q3, g2 q, d1]
    have e3 := c2 q3
    have e4 := g2 q
    refine ⟨rfl, show b.1 3 + 1 ≤ 7 by omega, d3, d4, d5, d6, d7, d8, fun t h9 => ?_⟩
    have h9 : t < b.1 3 + 1 := h9
    show upd (kS d) (b.1 3) (nI y1.1) t = upd b.2.1 (7 + b.1 3) (nI y1.1) (7 + t) ∧ upd (kV d) (b.1 3) (nI y2.1) t = upd b.2.2.1 (7 + b.1 3) (nI y2.1) (7 + t) ∧ upd (kB d) (b.1 3) (nI y3.1) t = upd b.2.2.2.1 (7 + b.1 3) (nI y3.1) (7 + t) ∧ upd (kF d) (b.1 3) (nI y4.1) t = upd b.2.2.2.2.1 (b.1 3) (nI y4.1) t ∧ Sm 5 (upd b.2.2.2.1 (7 + b.1 3) (nI y3.1) (7 + t)) ∧ ∃ x : Nat, x < b.1 4 ∧ upd b.2.2.2.2.1 (b.1 3) (nI y4.1) t = nI x
    by_cases z : t = b.1 3
    · subst z
      simp only [pk_us]
      exact ⟨trivial, trivial, trivial, trivial, Sm.of (by omega), y4.1, by omega, rfl⟩
    · rw [pk_un z, pk_un z, pk_un z, pk_un z, pk_un (show 7 + t ≠ 7 + b.1 3 by omega), pk_un (show 7 + t ≠ 7 + b.1 3 by omega), pk_un (show 7 + t ≠ 7 + b.1 3 by omega), pk_un z]
      exact d9 t (by omega)
end EQC

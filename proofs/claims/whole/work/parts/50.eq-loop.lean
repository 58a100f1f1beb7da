/-! an item whole, all items -/
section EQL
variable {tx tz : Ar} {ty : Nat}
theorem ID.f {c : DS} {s : SJ} (h : FaR ty c.2 s.1) : ID tx ty c s := Or.inr h
/-- the ; that ends an item -/
theorem end_T (h : Agr tx tz ty) (ht : ty ≤ 200) {i : Nat} {c : DS} {s : SJ} (hd : ID tx ty c s) : HD ty (i + 1) (c.1, nxT tx (rdEnd tx c.2)) ((jTkR tz ty s.1 (decide (s.1.2.1 = 3))).2, s.2) := by
  have n1 := nxT_fa tx c.2
  rcases hd with ⟨f1, f2, f3, f4, f5⟩ | hf
  · obtain ⟨g1, g2, g3, g4, g5, g6⟩ := id f4
    obtain ⟨-, -, k3, -⟩ := Tok2 g6
    have f2' : ¬ 0 ≤ s.1.2.2.2.2 := by rw [f2]; decide
    by_cases q : s.1.2.1 = 3
    · have e1 : rdEnd tx c.2 = nxT tx c.2 := by rw [rdEnd, if_pos (k3.mpr q)]
      have e2 : (jTkR tz ty s.1 (decide (s.1.2.1 = 3))).2 = jAdv tz ty s.1.1 s.1.2.2.2.1 s.1.2.2.2.2 := by
        unfold jTkR jTk
        rw [if_neg f2', if_pos (decide_eq_true q)]
      have n2 := nxT_fa tx (nxT tx c.2)
      rw [e1, e2]
      refine Or.inl ⟨?_, ?_, adv_T h g1 g2 g3, ?_, fun z => absurd z (Nat.succ_ne_zero i)⟩
      · exact n2.1.trans (n1.1.trans f1)
      · exact ((jAdv_ok g3).2.2.1).trans f2
      · show DB c.1 (rWa (nxT tx (nxT tx c.2))) s.2
        rw [n2.2.1, n1.2.1]
        exact f5
    · have e1 : rdEnd tx c.2 = mkF (nxT tx c.2) := by rw [rdEnd, if_neg (fun z => q (k3.mp z))]
      have e2 : (jTkR tz ty s.1 (decide (s.1.2.1 = 3))).2 = (s.1.1, s.1.2.1, s.1.2.2.1, s.1.2.2.2.1, nI s.1.2.2.1) := by
        unfold jTkR jTk
        rw [if_neg f2', if_neg (by rw [decide_eq_false q]; decide)]
      rw [e1, e2]
      refine Or.inr ⟨s.1.2.2.1, g5, rfl, ?_⟩
      show rFa (nxT tx (mkF (nxT tx c.2))) = _
      rw [(nxT_fa tx (mkF (nxT tx c.2))).1, mkF_new (n1.1.trans f1), g4]
  · have hf2 := hf.f ht
    obtain ⟨q, h1, h2, h3⟩ := hf
    refine Or.inr ⟨q, h1, ?_, ?_⟩
    · show (jTkR tz ty s.1 (decide (s.1.2.1 = 3))).2.2.2.2.2 = _
      rw [jTk_far hf2.1]; exact h2
    · show rFa (nxT tx (rdEnd tx c.2)) = _
      rw [(nxT_fa tx (rdEnd tx c.2)).1, rdEnd]
      split
      · rw [n1.1]; exact h3
      · rw [mkF_keep (by rw [n1.1]; exact hf2.2), n1.1]; exact h3
theorem wt_fa (r : Rd) : rFa (wtR r) = rFa r := rfl
/-- what an item tells -/
theorem sw_T (h : Agr tx tz ty) (ht : ty ≤ 200) {i : Nat} {c : DS} {s : SJ} (f1 : rFa c.2 = -1) (f2 : s.1.2.2.2.2 = -1) (f3 : TkT ty c.2 s.1) (f4 : DB c.1 (rWa c.2) s.2) (f5 : i = 0 → s.2.1 3 = 0) (f6 : ¬ s.1.2.1 = 0) : ID tx ty (rdSw tx i c) (jSt2 tz ty i s) := by
  obtain ⟨g1, g2, g3, g4, g5, g6⟩ := id f3
  have f2' : ¬ 0 ≤ s.1.2.2.2.2 := by rw [f2]; decide
  have ep : rTP c.2 < 2 ^ 31 := by omega
  have hfn : ¬ rFa (mkF c.2) = -1 := by rw [mkF_new f1]; exact nI_m1 ep
  have hfe : rFa (mkF c.2) = nI s.1.2.2.1 := by rw [mkF_new f1, g4]
  have hu : ∀ u : Bool, jU i s.1.2.1 s.1.2.2.2.1 s.2.1 s.2.2.2.2.2.2 = u → jSt1 tz ty i s = if u = true then (s.1.2.2.2.1, jAdv tz ty s.1.1 s.1.2.2.2.1 s.1.2.2.2.2) else (0, s.1.1, s.1.2.1, s.1.2.2.1, s.1.2.2.2.1, nI s.1.2.2.1) := by
    intro u e
    rw [jSt1, e]
    unfold jTkR jTk
    rw [if_neg f2']
  -- it cannot stand there
  have no : jU i s.1.2.1 s.1.2.2.2.1 s.2.1 s.2.2.2.2.2.2 = false → rFa (rdSw tx i c).2 = nI s.1.2.2.1 → ID tx ty (rdSw tx i c) (jSt2 tz ty i s) := by
    intro e1 e2
    have e3 := hu false e1
    rw [if_neg (by decide)] at e3
    have e4 : jSt2 tz ty i s = ((s.1.1, s.1.2.1, s.1.2.2.1, s.1.2.2.2.1, nI s.1.2.2.1), s.2) := by
      rw [jSt2, e3]
      exact if_pos (nI_pos' (show s.1.2.2.1 < 2 ^ 31 by omega))
    rw [e4]
    exact Or.inr ⟨s.1.2.2.1, g5, rfl, e2⟩
  have yes : jU i s.1.2.1 s.1.2.2.2.1 s.2.1 s.2.2.2.2.2.2 = true → jSt2 tz ty i s = jIt tz ty (nI s.1.2.2.2.1) (jAdv tz ty s.1.1 s.1.2.2.2.1 s.1.2.2.2.2) s.2 := by
    intro e1
    have e3 := hu true e1
    rw [if_pos rfl] at e3
    rw [jSt2, e3]
    exact if_neg (by rw [(jAdv_ok g3).2.2.1]; exact f2')
  have ha : (jAdv tz ty s.1.1 s.1.2.2.2.1 s.1.2.2.2.2).2.2.2.2 = -1 := ((jAdv_ok g3).2.2.1).trans f2
  have hrr : RR tx ty c.2 (jAdv tz ty s.1.1 s.1.2.2.2.1 s.1.2.2.2.2) := Or.inl ⟨f1, ha, g1, adv_T h g1 g2 g3⟩
  rcases g6 with ⟨t1, t2⟩ | ⟨t1, t2, t3, t4⟩ | ⟨t1, t2⟩ | ⟨j, hj, t1, t2, t3⟩
  · exact absurd t2 f6
  · refine no (by rw [jU, t2]; rfl) ?_
    rw [rdSw, t1, if_neg (by decide), if_neg (by decide), if_neg (by decide)]
    exact hfe
  · refine no (by rw [jU, t2]; rfl) ?_
    rw [rdSw, t1, if_neg (by decide), if_neg (by decide), if_neg (by decide)]
    exact hfe
  · have n1 : nI j = 111 ↔ j = 111 := nI_eq (b := 111) (by omega) (by omega)
    have n2 : nI j = 116 ↔ j = 116 := nI_eq (b := 116) (by omega) (by omega)
    have n3 : nI j = 119 ↔ j = 119 := nI_eq (b := 119) (by omega) (by omega)
    by_cases q1 : j = 111
    · have e : rdSw tx i c = rdOff tx i c := by rw [rdSw, if_pos (by rw [t1, n1]; exact q1)]
      have eu : jU i s.1.2.1 s.1.2.2.2.1 s.2.1 s.2.2.2.2.2.2 = decide (i = 0) := by rw [jU, t2, t3, q1]; rfl
      by_cases z : i = 0
      · rw [yes (by rw [eu]; exact decide_eq_true z), e, rdOff, if_neg (by omega), t3, q1]
        have := it_o h ht hrr f4 (f5 z)
        rw [t3, q1] at this
        exact this
      · refine no (by rw [eu]; exact decide_eq_false z) ?_
        rw [e, rdOff, if_pos (by omega)]
        show rFa (rdN tx 1 5 (mkF c.2)).2 = _
        rw [rdN_fa hfn, hfe]
    · by_cases q2 : j = 116
      · have e : rdSw tx i c = rdThg tx c := by rw [rdSw, if_neg (by rw [t1, n1]; exact q1), if_pos (by rw [t1, n2]; exact q2)]
        have eu : jU i s.1.2.1 s.1.2.2.2.1 s.2.1 s.2.2.2.2.2.2 = decide (s.2.1 3 < 7) := by rw [jU, t2, t3, q2]; rfl
        have d1 := f4.1
        by_cases z : s.2.1 3 < 7
        · have er : rdThg tx c = (addT c.1 (rdN tx 0 3 c.2).1 (rdN tx 1 9 (rdN tx 0 3 c.2).2).1 (rdN tx 0 31 (rdN tx 1 9 (rdN tx 0 3 c.2).2).2).1 (rdN tx 0 (kO c.1 - 1) (rdN tx 0 31 (rdN tx 1 9 (rdN tx 0 3 c.2).2).2).2).1, (rdN tx 0 (kO c.1 - 1) (rdN tx 0 31 (rdN tx 1 9 (rdN tx 0 3 c.2).2).2).2).2) := by
            simp only [rdThg]
            rw [if_pos (show kT c.1 < 7 by omega)]
          rw [yes (by rw [eu]; exact decide_eq_true z), e, er, t3, q2]
          have := it_t h ht hrr f4 z
          rw [t3, q2] at this
          exact this
        · refine no (by rw [eu]; exact decide_eq_false z) ?_
          rw [e]
          simp only [rdThg]
          rw [if_neg (show ¬ kT c.1 < 7 by omega)]
          have x1 := rdN_fa (tx := tx) (lo := 0) (hi := 3) hfn
          have x2 := rdN_fa (tx := tx) (lo := 1) (hi := 9) (r := (rdN tx 0 3 (mkF c.2)).2) (by rw [x1]; exact hfn)
          have x3 := rdN_fa (tx := tx) (lo := 0) (hi := 31) (r := (rdN tx 1 9 (rdN tx 0 3 (mkF c.2)).2).2) (by rw [x2, x1]; exact hfn)
          have x4 := rdN_fa (tx := tx) (lo := 0) (hi := kO c.1 - 1) (r := (rdN tx 0 31 (rdN tx 1 9 (rdN tx 0 3 (mkF c.2)).2).2).2) (by rw [x3, x2, x1]; exact hfn)
          rw [x4, x3, x2, x1, hfe]
      · by_cases q3 : j = 119
        · have e : rdSw tx i c = rdWar tx c := by rw [rdSw, if_neg (by rw [t1, n1]; exact q1), if_neg (by rw [t1, n2]; exact q2), if_pos (by rw [t1, n3]; exact q3)]
          have eu : jU i s.1.2.1 s.1.2.2.2.1 s.2.1 s.2.2.2.2.2.2 = !s.2.2.2.2.2.2 := by rw [jU, t2, t3, q3]; rfl
          have dw : rWa c.2 = s.2.2.2.2.2.2 := f4.2.2.2.2.2.2.2.1
          cases z : s.2.2.2.2.2.2
          · rw [z] at dw
            have hr2 : RR tx ty (wtR c.2) (jAdv tz ty s.1.1 s.1.2.2.2.1 s.1.2.2.2.2) := Or.inl ⟨f1, ha, g1, adv_T h g1 g2 g3⟩
            have er : rdWar tx c = (warT c.1 (rdN tx 0 9 (wtR c.2)).1, (rdN tx 0 9 (wtR c.2)).2) := by rw [rdWar, dw]; rfl
            rw [yes (by rw [eu, z]; rfl), e, er]
            exact it_w h ht (by rw [t3, n1]; exact q1) (by rw [t3, n2]; exact q2) hrr f4 rfl hr2
          · rw [z] at dw
            refine no (by rw [eu, z]; rfl) ?_
            have er : rdWar tx c = (warT c.1 (rdN tx 0 9 (wtR (mkF c.2))).1, (rdN tx 0 9 (wtR (mkF c.2))).2) := by rw [rdWar, dw]; rfl
            rw [e, er]
            show rFa (rdN tx 0 9 (wtR (mkF c.2))).2 = _
            rw [rdN_fa (by rw [wt_fa]; exact hfn), wt_fa, hfe]
        · have e : rdSw tx i c = (c.1, mkF c.2) := by rw [rdSw, if_neg (by rw [t1, n1]; exact q1), if_neg (by rw [t1, n2]; exact q2), if_neg (by rw [t1, n3]; exact q3)]
          refine no ?_ (by rw [e]; exact hfe)
          have ek : ¬ jKi j = 1 := by
            unfold jKi
            split
            · decide
            · rw [if_neg (by omega)]; decide
          rw [jU, t2, decide_eq_false ek, Bool.false_and]
theorem loop_T (h : Agr tx tz ty) (ht : ty ≤ 200) : ∀ (n i : Nat) (c : DS) (s : SJ), HD ty i c s → (rdL tx n i c).1 = (jCo tz ty n i s).1 ∧ HD ty (jCo tz ty n i s).1 (rdL tx n i c).2 (jCo tz ty n i s).2
  | 0, _, _, _, hd => ⟨rfl, hd⟩
  | n + 1, i, c, s, hd => by
    rcases id hd with ⟨f1, f2, f3, f4, f5⟩ | hf
    · obtain ⟨-, -, -, k4⟩ := Tok2 f3.2.2.2.2.2
      have f2' : ¬ 0 ≤ s.1.2.2.2.2 := by rw [f2]; decide
      by_cases q : s.1.2.1 = 0
      · rw [rdL, if_pos (Or.inl (k4.mpr q)), jCo, if_pos (Or.inr q)]
        exact ⟨rfl, hd⟩
      · rw [rdL, if_neg (fun z => z.elim (fun y => q (k4.mp y)) (fun y => y f1)), jCo, if_neg (fun z => z.elim f2' q)]
        exact loop_T h ht n (i + 1) _ _ (end_T h ht (sw_T h ht f1 f2 f3 f4 f5 q))
    · have hf2 := hf.f ht
      rw [rdL, if_pos (Or.inr hf2.2), jCo, if_pos (Or.inl hf2.1)]
      exact ⟨rfl, hd⟩
end EQL
/-! what the model's reader leaves alone -/
def KeB (b b' : BJ) : Prop := (∀ k, k < 3 → b'.1 k = b.1 k) ∧ ∀ k, k < 7 → b'.2.1 k = b.2.1 k ∧ b'.2.2.1 k = b.2.2.1 k ∧ b'.2.2.2.1 k = b.2.2.2.1 k
theorem KeB.rf (b : BJ) : KeB b b := ⟨fun _ _ => rfl, fun _ _ => ⟨rfl, rfl, rfl⟩⟩
theorem KeB.tr {a b c : BJ} (h1 : KeB a b) (h2 : KeB b c) : KeB a c := ⟨fun k hk => (h2.1 k hk).trans (h1.1 k hk), fun k hk => ⟨(h2.2 k hk).1.trans (h1.2 k hk).1, (h2.2 k hk).2.1.trans (h1.2 k hk).2.1, (h2.2 k hk).2.2.trans (h1.2 k hk).2.2⟩⟩
theorem upN {f : Nat → Nat} {i v k : Nat} (h : k ≠ i) : va_up f i v k = f k := if_neg h
theorem jIt_keep (tz : Ar) (ty : Nat) (w : Int32) (r : RJ) (b : BJ) : KeB b (jIt tz ty w r b).2 := by
  unfold jIt
  split
  · exact ⟨fun k hk => upN (by omega), fun k _ => ⟨rfl, rfl, rfl⟩⟩
  · split
    · exact ⟨fun k hk => upN (by omega), fun k hk => ⟨pk_un (by omega), pk_un (by omega), pk_un (by omega)⟩⟩
    · exact ⟨fun k hk => upN (by omega), fun k _ => ⟨rfl, rfl, rfl⟩⟩
theorem jStp_keep (tz : Ar) (ty i : Nat) (s : SJ) : KeB s.2 (jStp tz ty i s).2 := by
  show KeB s.2 (jSt2 tz ty i s).2
  unfold jSt2
  split
  · exact KeB.rf s.2
  · exact jIt_keep _ _ _ _ _
theorem jIt_B {tz : Ar} {ty : Nat} {w : Int32} {r : RJ} {b : BJ} (h : RjB ty r) : RjB ty (jIt tz ty w r b).1 := by
  unfold jIt
  split
  · exact jNu_ok h
  · split
    · exact jNu_ok (jNu_ok (jNu_ok (jNu_ok h)))
    · exact jNu_ok h
theorem jStp_B {tz : Ar} {ty i : Nat} {s : SJ} (h : RjB ty s.1) : RjB ty (jStp tz ty i s).1 := by
  show RjB ty (jTkR tz ty (jSt2 tz ty i s).1 (decide ((jSt2 tz ty i s).1.2.1 = 3))).2
  apply jTk_ok
  have h1 : RjB ty (jSt1 tz ty i s).2 := jTk_ok h
  unfold jSt2
  split
  · exact h1
  · exact jIt_B h1
theorem jCo_keep (tz : Ar) (ty : Nat) : ∀ (n i : Nat) (s : SJ), KeB s.2 (jCo tz ty n i s).2.2 ∧ (RjB ty s.1 → RjB ty (jCo tz ty n i s).2.1) ∧ (jCo tz ty n i s).1 ≤ i + n
  | 0, i, s => ⟨KeB.rf _, fun h => h, Nat.le_refl _⟩
  | n + 1, i, s => by
    rw [jCo]
    split
    · exact ⟨KeB.rf _, fun h => h, Nat.le_add_right _ _⟩
    · obtain ⟨h1, h2, h3⟩ := jCo_keep tz ty n (i + 1) (jStp tz ty i s)
      exact ⟨(jStp_keep tz ty i s).tr h1, fun h => h2 (jStp_B h), by omega⟩

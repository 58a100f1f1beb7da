/-! swaps -/
theorem b_shb (d : Bool) {t i : Nat} (ht : t < 32) (hi : i < 32) : bt (b2i d <<< (nI t &&& 31)) i = (d && decide (i = t)) := by
  rw [b_shl t ht _ hi, b_b2i _ (by omega)]
  cases d
  · simp
  · simp only [Bool.true_and, ← Bool.decide_and]
    exact decide_eq_decide.mpr ⟨fun h => by omega, fun h => by omega⟩
theorem b_exch (x : Int32) {t u i : Nat} (ht : t < 32) (hu : u < 32) (hi : i < 32) (h : t ≠ u) : bt (pExch x (nI t) (nI u)) i = if i = t then bt x u else if i = u then bt x t else bt x i := by
  have hx : bitI x (nI t) ^^^ bitI x (nI u) = b2i (bt x t ^^ bt x u) := by
    rw [bitI_bt x ht, bitI_bt x hu]
    cases bt x t <;> cases bt x u <;> decide
  rw [pExch, hx, b_xor, b_xor, b_shb _ ht hi, b_shb _ hu hi]
  by_cases q : i = t
  · subst q
    simp [h] <;> cases bt x i <;> cases bt x u <;> rfl
  · by_cases z : i = u
    · subst z
      simp [q] <;> cases bt x i <;> cases bt x t <;> rfl
    · simp [q, z]
theorem spk_gen {S q r : Ar} {t h : Nat} {s : Int32} (ht : t < 32) (hh : h < 32) (e14 : q 14 = r 14) (e16 : q 16 = s) (et : q t = nI h) (e7 : q (7 + t) = r (7 + t)) : jSpk S q t = (!bt (r 14) t && !bt s h && jAb S r t) := by
  have d1 : decide (bitI (r 14) (nI t) = 0) = !bt (r 14) t := by
    rw [bitI_bt _ ht]
    cases bt (r 14) t <;> decide
  have d2 : decide (bitI s (nI h) = 0) = !bt s h := by
    rw [bitI_bt _ hh]
    cases bt s h <;> decide
  rw [jSpk, e14, e16, et, e7, d1, d2, jAb, Bool.and_assoc]
def sm (f : Nat → Int32) : Nat → Int32 := fo (fun i q => q + f i) 0
theorem sm_s (f : Nat → Int32) (n : Nat) : sm f (n + 1) = sm f n + f n := rfl
theorem sm_acc (f : Nat → Int32) : ∀ (n : Nat) (r : Int32), fo (fun i q => q + f i) r n = r + sm f n
  | 0, r => (add0 r).symm
  | n + 1, r => by rw [fo_s, sm_acc f n r, sm_s, Int32.add_assoc]
theorem sm_cong {f g : Nat → Int32} {n : Nat} (h : ∀ i, i < n → f i = g i) : sm f n = sm g n := fo_cong (fun i y hi => by rw [h i hi])
theorem sm_add (f g : Nat → Int32) : ∀ n : Nat, sm (fun i => f i + g i) n = sm f n + sm g n
  | 0 => rfl
  | n + 1 => by
    rw [sm_s, sm_add f g n, sm_s, sm_s]
    ac_rfl
theorem sm_tri (x : Nat → Nat → Int32) : ∀ n : Nat, sm (fun t => sm (fun i => x t (t + 1 + i)) (n - (t + 1))) n = sm (fun t => sm (fun e => x e t) t) n
  | 0 => rfl
  | n + 1 => by
    rw [sm_s, sm_s, ← sm_tri x n, show n + 1 - (n + 1) = 0 by omega, show sm (fun i => x n (n + 1 + i)) 0 = 0 from rfl, add0, ← sm_add]
    apply sm_cong
    intro t ht
    show sm (fun i => x t (t + 1 + i)) (n + 1 - (t + 1)) = sm (fun i => x t (t + 1 + i)) (n - (t + 1)) + x t n
    rw [show n + 1 - (t + 1) = n - (t + 1) + 1 by omega, sm_s, show t + 1 + (n - (t + 1)) = n by omega]
section EQW
variable {k : Cn} {o : Mo} {N : Nat → Nat} {S V B r : Ar}
theorem swr_voi (hk : RK k N S V B) (hm : RM (N 0) (N 1) o r) {t u : Nat} (htu : t < u) (hu : u < N 0) : pAble k o &&& pExch (iv (pHeld k o (mSi o))) (nI t) (nI u) = jVoi (N 0) S (jSwR r u t) := by
  have h7 := hk.2.1
  have h5 := hk.2.2.2.2.1
  apply b_ext
  intro i hi
  have hT : kT k = N 0 := hk.1
  rw [b_and, able_Sm hk hm hi, b_exch _ (by omega) (by omega) hi (by omega), b_voi _ _ h7 hi, pHeld, hT, eq_heldF hm _ h5, hm.2.2.2.2.1]
  by_cases q : i < N 0
  · have hb : ∀ j, j < N 0 → ∀ h : Nat, h < N 1 → r j = nI h → bt (iv (oF (fun t => bt (r 16) (r t).toNatClampNeg) (N 0))) j = !bt (r 16) h := by
      intro j hj h hh e
      rw [b_iv _ (by omega), b_oF _ _ (by omega) j (by omega)]
      show (!(decide (j < N 0) && bt (r 16) (r j).toNatClampNeg)) = _
      rw [e, nI_clamp (by omega)]
      simp [hj]
    have e14 : jSwR r u t 14 = r 14 := by rw [jSwR, pk_un (by omega), pk_un (by omega)]
    have e16 : jSwR r u t 16 = r 16 := by rw [jSwR, pk_un (by omega), pk_un (by omega)]
    have e7 : jSwR r u t (7 + i) = r (7 + i) := by rw [jSwR, pk_un (by omega), pk_un (by omega)]
    obtain ⟨-, hi', hi1, hi2⟩ := hm.1 i q
    obtain ⟨-, ht', ht1, ht2⟩ := hm.1 t (by omega)
    obtain ⟨-, hu', hu1, hu2⟩ := hm.1 u hu
    by_cases z : i = t
    · subst z
      have et : jSwR r u i i = nI hu' := by rw [jSwR, pk_us, hu2]
      rw [if_pos rfl, hb u hu hu' hu1 hu2, spk_gen (h := hu') (by omega) (by omega) e14 e16 et e7]
      simp only [q, decide_true, Bool.true_and]
      cases jAb S r i <;> cases bt (r 14) i <;> cases bt (r 16) hu' <;> rfl
    · by_cases y : i = u
      · subst y
        have et : jSwR r i t i = nI ht' := by rw [jSwR, pk_un z, pk_us, ht2]
        rw [if_neg z, if_pos rfl, hb t (by omega) ht' ht1 ht2, spk_gen (h := ht') (by omega) (by omega) e14 e16 et e7]
        simp only [q, decide_true, Bool.true_and]
        cases jAb S r i <;> cases bt (r 14) i <;> cases bt (r 16) ht' <;> rfl
      · have et : jSwR r u t i = nI hi' := by rw [jSwR, pk_un z, pk_un y, hi2]
        rw [if_neg z, if_neg y, hb i q hi' hi1 hi2, spk_gen (h := hi') (by omega) (by omega) e14 e16 et e7]
        simp only [q, decide_true, Bool.true_and]
        cases jAb S r i <;> cases bt (r 14) i <;> cases bt (r 16) hi' <;> rfl
  · simp [q]
end EQW
section EQM
variable {k : Cn} {o : Mo} {M : JX} {r : Ar}
theorem eq_swapP (hk : RK k (qN M) (qSo M) (qVo M) (qBi M)) (hm : RM (qN M 0) (qN M 1) o (qS M)) {j t u : Nat} (hj : j < 5) (htu : t < u) (hu : u < qN M 0) : pSwapP k o (nI j) t u = ySwP M (nI j) u t := by
  have h7 := hk.2.1
  have e15 : jSwR (qS M) u t 15 = qS M 15 := by rw [jSwR, pk_un (by omega), pk_un (by omega)]
  have ey : jYes (qN M 0) (qBi M) (jSwR (qS M) u t) (nI j) = jYes (qN M 0) (qBi M) (qS M) (nI j) := by rw [jYes_oF _ h7 _ _ hj, jYes_oF _ h7 _ _ hj, e15]
  have ev : pAble k o &&& iv (pHeld k o (mSi o)) = jVoi (qN M 0) (qSo M) (qS M) := eq_voi hk hm
  rw [pSwapP, ySwP, swr_voi hk hm htu hu, ev, eq_passBy hk, eq_passBy hk, eq_yes hk hm hj, jPas, jPas, ey, (hm.1 t (by omega)).1, (hm.1 u hu).1]
  congr 2
  exact decide_eq_decide.mpr ⟨fun h => h.symm, fun h => h.symm⟩
theorem ySwG_1 (c : JX) (b : Int32) (t : Nat) (q : Int32 × Ar) : ∀ n : Nat, (ySwG c b t q n).1 = q.1 + sm (fun e => if ySwP c b t e then 1 else 0) n
  | 0 => (add0 q.1).symm
  | n + 1 => by
    rw [ySwG, fo_s, ← ySwG, sm_s, ← Int32.add_assoc, ← ySwG_1 c b t q n]
theorem ySwF_1 (c : JX) (b : Int32) : ∀ n : Nat, (ySwF c b n).1 = sm (fun t => sm (fun e => if ySwP c b t e then 1 else 0) t) n
  | 0 => rfl
  | n + 1 => by rw [ySwF, fo_s, ← ySwF, ySwG_1, ySwF_1 c b n, sm_s]
theorem pSwapG_1 (k : Cn) (o : Mo) (b : Int32) (t : Nat) (q : Int32) (n : Nat) : pSwapG k o b t q n = q + sm (fun i => if pSwapP k o b t (t + 1 + i) then 1 else 0) n := by
  rw [← sm_acc]
  unfold pSwapG
  apply fo_cong
  intro i y _
  cases pSwapP k o b t (t + 1 + i)
  · simp
  · simp
theorem eq_swaps (hk : RK k (qN M) (qSo M) (qVo M) (qBi M)) (hm : RM (qN M 0) (qN M 1) o (qS M)) {j : Nat} (hj : j < 5) : pSwap k o (nI j) = (ySwF M (nI j) (qN M 0)).1 := by
  rw [ySwF_1, pSwap, hk.1]
  have e : pSwapF k o (nI j) (qN M 0) = sm (fun t => sm (fun i => (fun a c => if pSwapP k o (nI j) a c then (1 : Int32) else 0) t (t + 1 + i)) (qN M 0 - (t + 1))) (qN M 0) := by
    unfold pSwapF sm
    apply fo_cong
    intro t y _
    rw [pSwapG_1, hk.1]
    rfl
  rw [e]
  refine (sm_tri (fun a c => if pSwapP k o (nI j) a c then (1 : Int32) else 0) (qN M 0)).trans ?_
  apply sm_cong
  intro t ht
  apply sm_cong
  intro u hu
  show (if pSwapP k o (nI j) u t = true then (1 : Int32) else 0) = _
  rw [eq_swapP hk hm hj hu ht]
/-! odds -/
theorem eq_chan : ∀ m : Nat, pChanF m = nI (10 ^ m)
  | 0 => rfl
  | m + 1 => by rw [pChanF, fo_s, ← pChanF, eq_chan m, show (10 : Int32) = nI 10 from rfl, pk_mul, Nat.pow_succ]
theorem eq_chS (x : Int32) {q : Nat} (hq : q ≤ 10) : ∀ m : Nat, pChSF x (nI q) m = nI (jOdF x q m)
  | 0 => rfl
  | m + 1 => by
    rw [pChSF, fo_s, ← pChSF, eq_chS x hq m, jOdF, fo_s, ← jOdF]
    split
    · rw [pk_mul]
    · rw [show (10 : Int32) = nI 10 from rfl, pk_sub hq, pk_mul]
theorem eq_chP (hk : RK k (qN M) (qSo M) (qVo M) (qBi M)) (hm : RM (qN M 0) (qN M 1) o (qS M)) {j q : Nat} (hj : j < 5) (hq : q ≤ 10) : ∀ n : Nat, pChPF k o (nI j) (nI q) n = nI (yUpF M (nI j) q n)
  | 0 => rfl
  | n + 1 => by
    rw [pChPF, fo_s, ← pChPF, eq_chP hk hm hj hq n, yUpF, fo_s, ← yUpF, eq_passIf hk hm hj, pChS, hk.2.2.1, eq_chS _ hq]
    cases jPas (qN M 0) (qSo M) (qVo M) (qBi M) (upd (qS M) 16 (nI n)) (nI j)
    · rfl
    · exact nI_add _ _
/-! the record -/
def RI (i : Mi) (rb ri : Ar) (m : Nat) : Prop := iL i = m ∧ m ≤ 6 ∧ ∀ k, k < m → iB i k = rb k ∧ iO i k = decide (ri k = 1) ∧ ∃ j : Nat, j < 5 ∧ rb k = nI j
theorem eq_soFor {i : Mi} {rb ri : Ar} {m : Nat} (hk : RK k (qN M) (qSo M) (qVo M) (qBi M)) (hm : RM (qN M 0) (qN M 1) o (qS M)) (hi : RI i rb ri m) {t : Nat} (ht : t < qN M 0) (s : Nat) : pSoFor k o i (nI t) (nI s) (pVoices k o) = jRec (qN M 0) (qSo M) (qVo M) (upd (qBi M) t (nI s)) (qS M) rb ri m := by
  rw [pSoFor, jRec, hi.1]
  apply allB_cong
  intro x hx
  obtain ⟨h1, h2, j, hj, h3⟩ := hi.2.2 x hx
  rw [pSoForB, jRecB, h1, h2, h3, eq_passFor hk hm hj ht]
theorem eq_soSick {i : Mi} {rb ri : Ar} {m : Nat} (hk : RK k (qN M) (qSo M) (qVo M) (qBi M)) (hm : RM (qN M 0) (qN M 1) o (qS M)) (hi : RI i rb ri m) (s : Int32) : pSoSick k o i s = jRec (qN M 0) (qSo M) (qVo M) (qBi M) (upd (qS M) 16 s) rb ri m := by
  rw [pSoSick, jRec, hi.1]
  apply allB_cong
  intro x hx
  obtain ⟨h1, h2, j, hj, h3⟩ := hi.2.2 x hx
  rw [pSoSickB, jRecB, h1, h2, h3, eq_passIf hk hm hj]
theorem eq_who {i : Mi} (hk : RK k (qN M) (qSo M) (qVo M) (qBi M)) (hm : RM (qN M 0) (qN M 1) o (qS M)) (hi : RI i (qRb M) (qRi M) (qRm M)) : pWho k o i = yWhoF M (qN M 1) := by
  rw [pWho, hk.2.2.1]
  unfold pWhoF yWhoF yWhoP
  rw [eq_soSick hk hm hi]
  apply fo_cong
  intro t y _
  rw [eq_soSick hk hm hi]
  split
  · rename_i z; simp [z]
  · rename_i z; simp [z, or0]
end EQM

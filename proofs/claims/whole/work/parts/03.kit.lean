/-! OWN HELPERS over the kit: natural indexes, loops, calls that only read, calls that write a part of a world -/
section WK
variable {p : Program} {l : Launch} {e : Env} {R : Room} {s : State} {m : MethodId} {args : Array Value} {below : List Frame} {meth : Method} {c : Code} {H : Heap} {locs : List Loc} {cells slots : Nat} {Q : State → Prop}
variable {cc : ByteArray} {pc : Nat} {ls : Array Slot} {rest : List Value} {D : va_G} {cl : List vw_C} {A : Nat → Prop} {a : Nat} {tys : List (ClassId × FieldType)} {ws : va_W} {H0 : Heap}
theorem wk_iald (hexec : p.tables.exec = Jvm.exec) (hb : c.code = cc) (hK : va_K D cl tys s) (hP : va_P D cl ws H) (q0 t0 : Nat) {cA : ClassId} {n : Nat} {f : Nat → Int32} (ha : ws[q0]? = some (a, .inl (cA, n, .inl f))) (ht : tys[t0]? = some (cA, .int)) {i : Nat} (hi : i < n) (hn : n < 2 ^ 31) (hdg : decode cc pc = .ok (.iaload, 1))
    (kk : W p l e R s m args below meth c H locs cells slots Q (F0 m (pc + 1) ls (.int (f i) :: rest))) : W p l e R s m args below meth c H locs cells slots Q (F0 m pc ls (.int (nI i) :: .ref a :: rest)) := by
  refine va_iald hexec hb hK hP q0 t0 ha ht (vp_in_nI hi hn) hdg ?_
  rw [nI_clamp (Nat.lt_trans hi hn)]
  exact kk
theorem wk_cald (hexec : p.tables.exec = Jvm.exec) (hb : c.code = cc) (hK : va_K D cl tys s) (hP : va_P D cl ws H) (q0 t0 : Nat) {cA : ClassId} {n : Nat} {f : Nat → Int32} (ha : ws[q0]? = some (a, .inl (cA, n, .inl f))) (ht : tys[t0]? = some (cA, .char)) {i : Nat} (hi : i < n) (hn : n < 2 ^ 31) (hdg : decode cc pc = .ok (.caload, 1))
    (kk : W p l e R s m args below meth c H locs cells slots Q (F0 m (pc + 1) ls (.int (f i) :: rest))) : W p l e R s m args below meth c H locs cells slots Q (F0 m pc ls (.int (nI i) :: .ref a :: rest)) := by
  refine va_cald hexec hb hK hP q0 t0 ha ht (vp_in_nI hi hn) hdg ?_
  rw [nI_clamp (Nat.lt_trans hi hn)]
  exact kk
theorem wk_zald (hexec : p.tables.exec = Jvm.exec) (hb : c.code = cc) (hK : va_K D cl tys s) (hP : va_P D cl ws H) (q0 t0 : Nat) {cA : ClassId} {n : Nat} {f : Nat → Int32} (ha : ws[q0]? = some (a, .inl (cA, n, .inl f))) (ht : tys[t0]? = some (cA, .boolean)) {i : Nat} (hi : i < n) (hn : n < 2 ^ 31) (hdg : decode cc pc = .ok (.baload, 1))
    (kk : W p l e R s m args below meth c H locs cells slots Q (F0 m (pc + 1) ls (.int (f i) :: rest))) : W p l e R s m args below meth c H locs cells slots Q (F0 m pc ls (.int (nI i) :: .ref a :: rest)) := by
  refine va_zald hexec hb hK hP q0 t0 ha ht (vp_in_nI hi hn) hdg ?_
  rw [nI_clamp (Nat.lt_trans hi hn)]
  exact kk
theorem wk_aald (hexec : p.tables.exec = Jvm.exec) (hb : c.code = cc) (hK : va_K D cl tys s) (hP : va_P D cl ws H) (q0 t0 : Nat) {cA : ClassId} {C : String} {n : Nat} {f : Nat → Option Nat} (ha : ws[q0]? = some (a, .inl (cA, n, .inr (.inr (.inr (.inr f)))))) (ht : tys[t0]? = some (cA, .object C)) {i b : Nat} (hi : i < n) (hn : n < 2 ^ 31) (hf : f i = some b) (hdg : decode cc pc = .ok (.aaload, 1))
    (kk : W p l e R s m args below meth c H locs cells slots Q (F0 m (pc + 1) ls (.ref b :: rest))) : W p l e R s m args below meth c H locs cells slots Q (F0 m pc ls (.int (nI i) :: .ref a :: rest)) := by
  refine va_aldq hexec hb hK hP q0 t0 ha ht (vp_in_nI hi hn) hdg ?_
  rw [nI_clamp (Nat.lt_trans hi hn), hf]
  exact kk
theorem wk_iast (hexec : p.tables.exec = Jvm.exec) (hb : c.code = cc) (hK : va_K D cl tys s) (hP : va_P D cl ws H) (hD : va_D A ws) (hS : va_S A H0 H locs) (q0 t0 : Nat) {cA : ClassId} {n : Nat} {f : Nat → Int32} (ha : ws[q0]? = some (a, .inl (cA, n, .inl f))) (ht : tys[t0]? = some (cA, .int)) {i : Nat} {x : Int32} (hi : i < n) (hn : n < 2 ^ 31) (hdg : decode cc pc = .ok (.iastore, 1))
    (kk : ∀ (H1 : Heap) (locs1 : List Loc), va_P D cl (ws.set q0 (a, .inl (cA, n, .inl (upd f i x)))) H1 → va_D A (ws.set q0 (a, .inl (cA, n, .inl (upd f i x)))) → va_S A H0 H1 locs1 → W p l e R s m args below meth c H1 locs1 cells slots Q (F0 m (pc + 1) ls rest)) : W p l e R s m args below meth c H locs cells slots Q (F0 m pc ls (.int x :: .int (nI i) :: .ref a :: rest)) := by
  refine va_iast hexec hb hK hP hD hS q0 t0 ha ht (vp_in_nI hi hn) hdg ?_
  rw [nI_clamp (Nat.lt_trans hi hn)]
  exact kk
theorem wk_cast (hexec : p.tables.exec = Jvm.exec) (hb : c.code = cc) (hK : va_K D cl tys s) (hP : va_P D cl ws H) (hD : va_D A ws) (hS : va_S A H0 H locs) (q0 t0 : Nat) {cA : ClassId} {n : Nat} {f : Nat → Int32} (ha : ws[q0]? = some (a, .inl (cA, n, .inl f))) (ht : tys[t0]? = some (cA, .char)) {i : Nat} {x : Int32} (hi : i < n) (hn : n < 2 ^ 31) (hdg : decode cc pc = .ok (.castore, 1))
    (kk : ∀ (H1 : Heap) (locs1 : List Loc), va_P D cl (ws.set q0 (a, .inl (cA, n, .inl (upd f i (vp_nar .char x))))) H1 → va_D A (ws.set q0 (a, .inl (cA, n, .inl (upd f i (vp_nar .char x))))) → va_S A H0 H1 locs1 → W p l e R s m args below meth c H1 locs1 cells slots Q (F0 m (pc + 1) ls rest)) : W p l e R s m args below meth c H locs cells slots Q (F0 m pc ls (.int x :: .int (nI i) :: .ref a :: rest)) := by
  refine va_cast hexec hb hK hP hD hS q0 t0 ha ht (vp_in_nI hi hn) hdg ?_
  rw [nI_clamp (Nat.lt_trans hi hn)]
  exact kk
theorem wk_zast (hexec : p.tables.exec = Jvm.exec) (hb : c.code = cc) (hK : va_K D cl tys s) (hP : va_P D cl ws H) (hD : va_D A ws) (hS : va_S A H0 H locs) (q0 t0 : Nat) {cA : ClassId} {n : Nat} {f : Nat → Int32} (ha : ws[q0]? = some (a, .inl (cA, n, .inl f))) (ht : tys[t0]? = some (cA, .boolean)) {i : Nat} {x : Int32} (hi : i < n) (hn : n < 2 ^ 31) (hnar : vp_nar .boolean x = x) (hdg : decode cc pc = .ok (.bastore, 1))
    (kk : ∀ (H1 : Heap) (locs1 : List Loc), va_P D cl (ws.set q0 (a, .inl (cA, n, .inl (upd f i x)))) H1 → va_D A (ws.set q0 (a, .inl (cA, n, .inl (upd f i x)))) → va_S A H0 H1 locs1 → W p l e R s m args below meth c H1 locs1 cells slots Q (F0 m (pc + 1) ls rest)) : W p l e R s m args below meth c H locs cells slots Q (F0 m pc ls (.int x :: .int (nI i) :: .ref a :: rest)) := by
  refine va_zast hexec hb hK hP hD hS q0 t0 ha ht (vp_in_nI hi hn) hdg ?_
  rw [nI_clamp (Nat.lt_trans hi hn), hnar]
  exact kk
theorem wk_iadd (hexec : p.tables.exec = Jvm.exec) (hb : c.code = cc) {x y : Nat} (hdg : decode cc pc = .ok (.iadd, 1)) (k : W p l e R s m args below meth c H locs cells slots Q (F0 m (pc + 1) ls (.int (nI (x + y)) :: rest))) : W p l e R s m args below meth c H locs cells slots Q (F0 m pc ls (.int (nI y) :: .int (nI x) :: rest)) := by
  refine lv_iadd hexec hb hdg ?_
  rw [nI_add]
  exact k
theorem wk_imul (hexec : p.tables.exec = Jvm.exec) (hb : c.code = cc) {x y : Nat} (hdg : decode cc pc = .ok (.imul, 1)) (k : W p l e R s m args below meth c H locs cells slots Q (F0 m (pc + 1) ls (.int (nI (x * y)) :: rest))) : W p l e R s m args below meth c H locs cells slots Q (F0 m pc ls (.int (nI y) :: .int (nI x) :: rest)) := by
  refine lv_imul hexec hb hdg ?_
  rw [pk_mul]
  exact k
theorem wk_isub (hexec : p.tables.exec = Jvm.exec) (hb : c.code = cc) {x y : Nat} (h : y ≤ x) (hdg : decode cc pc = .ok (.isub, 1)) (k : W p l e R s m args below meth c H locs cells slots Q (F0 m (pc + 1) ls (.int (nI (x - y)) :: rest))) : W p l e R s m args below meth c H locs cells slots Q (F0 m pc ls (.int (nI y) :: .int (nI x) :: rest)) := by
  refine lv_isub hexec hb hdg ?_
  rw [pk_sub h]
  exact k
theorem wk_ge (hexec : p.tables.exec = Jvm.exec) (hb : c.code = cc) {x y : Nat} {off : Int} {tgt : Nat} (hx : x < 2 ^ 31) (hy : y < 2 ^ 31) (hdg : decode cc pc = .ok (.if_icmp .ge off, 3)) (ht : (pc : Int) + off = (tgt : Int))
    (kt : y ≤ x → W p l e R s m args below meth c H locs cells slots Q (F0 m tgt ls rest)) (kf : x < y → W p l e R s m args below meth c H locs cells slots Q (F0 m (pc + 3) ls rest)) : W p l e R s m args below meth c H locs cells slots Q (F0 m pc ls (.int (nI y) :: .int (nI x) :: rest)) :=
  lv_icmp_ge hexec hb hdg ht (fun h => kt ((nI_leI hy hx).mp h)) (fun h => kf (Nat.lt_of_not_le fun q => h ((nI_leI hy hx).mpr q)))
theorem wk_lt (hexec : p.tables.exec = Jvm.exec) (hb : c.code = cc) {x y : Nat} {off : Int} {tgt : Nat} (hx : x < 2 ^ 31) (hy : y < 2 ^ 31) (hdg : decode cc pc = .ok (.if_icmp .lt off, 3)) (ht : (pc : Int) + off = (tgt : Int))
    (kt : x < y → W p l e R s m args below meth c H locs cells slots Q (F0 m tgt ls rest)) (kf : y ≤ x → W p l e R s m args below meth c H locs cells slots Q (F0 m (pc + 3) ls rest)) : W p l e R s m args below meth c H locs cells slots Q (F0 m pc ls (.int (nI y) :: .int (nI x) :: rest)) :=
  lv_icmp_lt hexec hb hdg ht (fun h => kt ((nI_ltI hx hy).mp h)) (fun h => kf (Nat.le_of_not_lt fun q => h ((nI_ltI hx hy).mpr q)))
theorem wk_gt (hexec : p.tables.exec = Jvm.exec) (hb : c.code = cc) {x y : Nat} {off : Int} {tgt : Nat} (hx : x < 2 ^ 31) (hy : y < 2 ^ 31) (hdg : decode cc pc = .ok (.if_icmp .gt off, 3)) (ht : (pc : Int) + off = (tgt : Int))
    (kt : y < x → W p l e R s m args below meth c H locs cells slots Q (F0 m tgt ls rest)) (kf : x ≤ y → W p l e R s m args below meth c H locs cells slots Q (F0 m (pc + 3) ls rest)) : W p l e R s m args below meth c H locs cells slots Q (F0 m pc ls (.int (nI y) :: .int (nI x) :: rest)) :=
  lv_icmp_gt hexec hb hdg ht (fun h => kt ((nI_ltI hy hx).mp h)) (fun h => kf (Nat.le_of_not_lt fun q => h ((nI_ltI hy hx).mpr q)))
theorem wk_le (hexec : p.tables.exec = Jvm.exec) (hb : c.code = cc) {x y : Nat} {off : Int} {tgt : Nat} (hx : x < 2 ^ 31) (hy : y < 2 ^ 31) (hdg : decode cc pc = .ok (.if_icmp .le off, 3)) (ht : (pc : Int) + off = (tgt : Int))
    (kt : x ≤ y → W p l e R s m args below meth c H locs cells slots Q (F0 m tgt ls rest)) (kf : y < x → W p l e R s m args below meth c H locs cells slots Q (F0 m (pc + 3) ls rest)) : W p l e R s m args below meth c H locs cells slots Q (F0 m pc ls (.int (nI y) :: .int (nI x) :: rest)) :=
  lv_icmp_le hexec hb hdg ht (fun h => kt ((nI_leI hx hy).mp h)) (fun h => kf (Nat.lt_of_not_le fun q => h ((nI_leI hx hy).mpr q)))
theorem wk_eq (hexec : p.tables.exec = Jvm.exec) (hb : c.code = cc) {x y : Nat} {off : Int} {tgt : Nat} (hx : x < 2 ^ 31) (hy : y < 2 ^ 31) (hdg : decode cc pc = .ok (.if_icmp .eq off, 3)) (ht : (pc : Int) + off = (tgt : Int))
    (kt : x = y → W p l e R s m args below meth c H locs cells slots Q (F0 m tgt ls rest)) (kf : ¬ x = y → W p l e R s m args below meth c H locs cells slots Q (F0 m (pc + 3) ls rest)) : W p l e R s m args below meth c H locs cells slots Q (F0 m pc ls (.int (nI y) :: .int (nI x) :: rest)) :=
  lv_icmp_eq hexec hb hdg ht (fun h => kt ((nI_eq hx hy).mp h)) (fun h => kf fun q => h ((nI_eq hx hy).mpr q))
theorem wk_ne (hexec : p.tables.exec = Jvm.exec) (hb : c.code = cc) {x y : Nat} {off : Int} {tgt : Nat} (hx : x < 2 ^ 31) (hy : y < 2 ^ 31) (hdg : decode cc pc = .ok (.if_icmp .ne off, 3)) (ht : (pc : Int) + off = (tgt : Int))
    (kt : ¬ x = y → W p l e R s m args below meth c H locs cells slots Q (F0 m tgt ls rest)) (kf : x = y → W p l e R s m args below meth c H locs cells slots Q (F0 m (pc + 3) ls rest)) : W p l e R s m args below meth c H locs cells slots Q (F0 m pc ls (.int (nI y) :: .int (nI x) :: rest)) :=
  lv_icmp_ne hexec hb hdg ht (fun h => kt fun q => h ((nI_eq hx hy).mpr q)) (fun h => kf ((nI_eq hx hy).mp h))
/-- a method's entry -/
theorem wk_enter {vs : List Value} {n : Nat} (h : (lg_sl vs).length ≤ n) (k : ∀ ls : Array Slot, lv_has ls n (lv_args 0 vs) → W p l e R s m args below meth c H locs cells slots Q (F0 m 0 ls [])) : W p l e R s m args below meth c H locs cells slots Q (entryFrame m vs.toArray n) := by
  rw [lg_entry_eq]
  exact k _ (lv_entry vs h)
/-- the ends of a method that only reads -/
theorem wk_ret {v r : Int32} (hexec : p.tables.exec = Jvm.exec) (hb : c.code = cc) (hr : meth.sig.returnType = some .int) (hlocks : meth.locks = false) (hdg : decode cc pc = .ok (.ireturn, 1)) (he : v = r) : W p l e R s m args below meth c s.heap [] cells slots (MQ below (QcRead r) args s cells slots (fun _ => False)) (F0 m pc ls [.int v]) := by
  subst he
  exact W.iret hexec hb hr (fun t ht _ => ⟨rfl, ht⟩) (fun _ h => by cases h) hdg hlocks
theorem wk_zret {v r : Int32} (hexec : p.tables.exec = Jvm.exec) (hb : c.code = cc) (hr : meth.sig.returnType = some .boolean) (hlocks : meth.locks = false) (hdg : decode cc pc = .ok (.ireturn, 1)) (hn : narrow .boolean (.int v) = .int v) (he : v = r) : W p l e R s m args below meth c s.heap [] cells slots (MQ below (QcRead r) args s cells slots (fun _ => False)) (F0 m pc ls [.int v]) := by
  subst he
  exact W.zret hexec hb hr hn (fun t ht _ => ⟨rfl, ht⟩) (fun _ h => by cases h) hdg hlocks
/-- a loop of a method that only reads: I x n: the state x, n rounds at most are left -/
theorem wk_loop {σ : Type} {nL : Nat} (I : σ → Nat → Prop) (L : σ → List (Nat × Value)) (x0 : σ) (n0 : Nat) (h0 : I x0 n0) (hl : lv_has ls nL (L x0))
    (step : ∀ (n : Nat) (x : σ) (ls : Array Slot), I x n → lv_has ls nL (L x) → (∀ (y : σ) (k : Nat) (ls' : Array Slot), k < n → I y k → lv_has ls' nL (L y) → W p l e R s m args below meth c H locs cells slots Q (F0 m pc ls' rest)) → W p l e R s m args below meth c H locs cells slots Q (F0 m pc ls rest)) : W p l e R s m args below meth c H locs cells slots Q (F0 m pc ls rest) := by
  have key : ∀ (b n : Nat) (x : σ) (ls : Array Slot), n < b → I x n → lv_has ls nL (L x) → W p l e R s m args below meth c H locs cells slots Q (F0 m pc ls rest) := by
    intro b
    induction b with
    | zero => intro n x ls h; exact absurd h (Nat.not_lt_zero n)
    | succ b ih => intro n x ls h hI hl; exact step n x ls hI hl (fun y k ls' hk hI' hl' => ih k y ls' (by omega) hI' hl')
  exact key (n0 + 1) n0 x0 ls (Nat.lt_succ_self n0) h0 hl
/-- a loop that writes: its world is a function of the loop's state -/
theorem wk_loopM {σ : Type} {nL : Nat} {A0 : Nat → Prop} {H0 : Heap} (I : σ → Nat → Prop) (L : σ → List (Nat × Value)) (Wd : σ → va_W) (x0 : σ) (n0 : Nat) (h0 : I x0 n0) (hl : lv_has ls nL (L x0)) (hP : va_P D cl (Wd x0) H) (hD : va_D A0 (Wd x0)) (hS : va_S A0 H0 H locs)
    (step : ∀ (n : Nat) (x : σ) (ls : Array Slot) (H : Heap) (locs : List Loc), I x n → lv_has ls nL (L x) → va_P D cl (Wd x) H → va_D A0 (Wd x) → va_S A0 H0 H locs → (∀ (y : σ) (k : Nat) (ls' : Array Slot) (H : Heap) (locs : List Loc), k < n → I y k → lv_has ls' nL (L y) → va_P D cl (Wd y) H → va_D A0 (Wd y) → va_S A0 H0 H locs → W p l e R s m args below meth c H locs cells slots Q (F0 m pc ls' rest)) → W p l e R s m args below meth c H locs cells slots Q (F0 m pc ls rest)) : W p l e R s m args below meth c H locs cells slots Q (F0 m pc ls rest) := by
  have key : ∀ (b n : Nat) (x : σ) (ls : Array Slot) (H : Heap) (locs : List Loc), n < b → I x n → lv_has ls nL (L x) → va_P D cl (Wd x) H → va_D A0 (Wd x) → va_S A0 H0 H locs → W p l e R s m args below meth c H locs cells slots Q (F0 m pc ls rest) := by
    intro b
    induction b with
    | zero => intro n x ls H locs h; exact absurd h (Nat.not_lt_zero n)
    | succ b ih => intro n x ls H locs h hI hl hP hD hS; exact step n x ls H locs hI hl hP hD hS (fun y k ls' H locs hk hI' hl' hP hD hS => ih k y ls' H locs (by omega) hI' hl' hP hD hS)
  exact key (n0 + 1) n0 x0 ls H locs (Nat.lt_succ_self n0) h0 hl hP hD hS
/-- a call that only reads -/
theorem wk_read {r : Int32} {a0 : Array Value} {st0 : List Value} (hr : va_Run p l e R s m args below meth c H locs cells slots 0 0 (F0 m pc ls st0) rest (QcRead r a0) (fun _ => False)) (kk : W p l e R s m args below meth c H locs cells slots Q (F0 m (pc + 3) ls (.int r :: rest))) : W p l e R s m args below meth c H locs cells slots Q (F0 m pc ls st0) := W.callR hr.run kk
end WK
/-! a part of a world written anew, place by place -/
def setL (ws : va_W) : List Nat → va_W → va_W
  | i :: is, q :: qs => setL (ws.set i q) is qs
  | _, _ => ws
theorem setL_get : ∀ (is : List Nat) (w1 ws : va_W) (k : Nat) (q : Nat × va_E), is.length = w1.length → (setL ws is w1)[k]? = some q → (∃ j : Nat, is[j]? = some k ∧ w1[j]? = some q) ∨ (k ∉ is ∧ ws[k]? = some q)
  | [], w1, ws, k, q, _, h => Or.inr ⟨List.not_mem_nil, by cases w1 <;> exact h⟩
  | i :: is, [], ws, k, q, hlen, h => by cases hlen
  | i :: is, q0 :: qs, ws, k, q, hlen, h => by
    rcases setL_get is qs (ws.set i q0) k q (by simpa using hlen) h with ⟨j, h1, h2⟩ | ⟨h1, h2⟩
    · exact Or.inl ⟨j + 1, by simpa using h1, by simpa using h2⟩
    · by_cases hk : k = i
      · subst hk
        have hlt : k < ws.length := by
          have := (List.getElem?_eq_some_iff.mp h2).1
          simpa using this
        rw [List.getElem?_set_self hlt] at h2
        exact Or.inl ⟨0, rfl, by simpa using h2⟩
      · rw [List.getElem?_set_ne (Ne.symm hk)] at h2
        exact Or.inr ⟨fun z => by rcases List.mem_cons.mp z with z | z; exact hk z; exact h1 z, h2⟩
theorem wk_frame {A0 : Nat → Prop} {D : va_G} {cl : List vw_C} {ws wc w1 : va_W} {H H1 : Heap} (hP : va_P D cl ws H) (hD : va_D A0 ws) (isC : List Nat) (hC : isC.map (fun i => ws[i]?) = wc.map some) (ha : w1.map Prod.fst = wc.map Prod.fst)
    (hk : ∀ q : Nat, q < H.size → ¬ va_A wc H.size q → H1[q]? = H[q]?) (hP1 : va_P D cl w1 H1) : va_P D cl (setL ws isC w1) H1 ∧ va_D A0 (setL ws isC w1) := by
  have hlen : isC.length = w1.length := by
    have h1 := congrArg List.length hC
    have h2 := congrArg List.length ha
    simp at h1 h2
    omega
  have at' : ∀ (j : Nat) (q : Nat × va_E), wc[j]? = some q → ∃ i, isC[j]? = some i ∧ ws[i]? = some q := by
    intro j q hq
    have h1 : (isC.map (fun i => ws[i]?))[j]? = some (some q) := by rw [hC, List.getElem?_map, hq]; rfl
    rw [List.getElem?_map] at h1
    cases hi : isC[j]? with
    | none => rw [hi] at h1; cases h1
    | some i => rw [hi] at h1; exact ⟨i, rfl, Option.some.inj h1⟩
  have key : ∀ (k : Nat) (q : Nat × va_E), (setL ws isC w1)[k]? = some q → ∃ q0, ws[k]? = some q0 ∧ q0.1 = q.1 := by
    intro k q hq
    rcases setL_get isC w1 ws k q hlen hq with ⟨j, h1, h2⟩ | ⟨-, h2⟩
    · have h3 : (w1.map Prod.fst)[j]? = some q.1 := by rw [List.getElem?_map, h2]; rfl
      rw [ha, List.getElem?_map] at h3
      cases hw : wc[j]? with
      | none => rw [hw] at h3; cases h3
      | some q0 =>
        rw [hw] at h3
        obtain ⟨i, h4, h5⟩ := at' j q0 hw
        have h6 : i = k := Option.some.inj (h4.symm.trans h1)
        subst h6
        exact ⟨q0, h5, Option.some.inj h3⟩
    · exact ⟨q, h2, rfl⟩
  refine ⟨fun k q hq => ?_, fun i j x y hi hj hxy => ?_, fun k q hq => ?_⟩
  · rcases setL_get isC w1 ws k q hlen hq with ⟨j, -, h2⟩ | ⟨h1, h2⟩
    · exact hP1 j q h2
    · have hl := (hP k q h2).lt
      refine (hP k q h2).kept (hk q.1 hl fun h => ?_)
      rcases h with ⟨j, e, h⟩ | h
      · obtain ⟨i, h3, h4⟩ := at' j (q.1, e) h
        have h5 := hD.1 k i q (q.1, e) h2 h4 rfl
        subst h5
        exact h1 (List.mem_of_getElem? h3)
      · omega
  · obtain ⟨x0, h1, h2⟩ := key i x hi
    obtain ⟨y0, h3, h4⟩ := key j y hj
    exact hD.1 i j x0 y0 h1 h3 (h2.trans (hxy.trans h4.symm))
  · obtain ⟨q0, h1, h2⟩ := key k q hq
    rw [← h2]
    exact hD.2 k q0 h1
/-- the end of a method that writes: its answer, its world, nothing else -/
def Qm (D : va_G) (cl : List vw_C) (r : Option Value) (W1 : va_W) (A : Nat → Prop) : Array Value → State → Outcome → State → Prop := fun _ st oc t => oc = .returned r ∧ va_P D cl W1 t.heap ∧ va_F A st t
section WKM
variable {p : Program} {l : Launch} {e : Env} {R : Room} {s : State} {m : MethodId} {args : Array Value} {below : List Frame} {meth : Method} {c : Code} {H : Heap} {locs : List Loc} {cells slots : Nat} {Q : State → Prop}
variable {cc : ByteArray} {pc : Nat} {ls : Array Slot} {rest st0 : List Value} {D : va_G} {cl : List vw_C} {A A0 : Nat → Prop} {a : Array Value} {ws : va_W} {H0 : Heap} {mc ms : Nat}
theorem wk_call {r : Option Value} {W1 wc : va_W} (hr : va_Run p l e R s m args below meth c H locs cells slots mc ms (F0 m pc ls st0) rest (Qm D cl r W1 (va_A wc H.size) a) (va_A wc H.size)) (hP : va_P D cl ws H) (hD : va_D A0 ws) (hS : va_S A0 H0 H locs) (hA : ∀ q, H0.size ≤ q → A0 q) (isC : List Nat) (hC : isC.map (fun i => ws[i]?) = wc.map some) (ha : W1.map Prod.fst = wc.map Prod.fst)
    (kk : ∀ (H1 : Heap) (locs1 : List Loc), va_P D cl (setL ws isC W1) H1 → va_D A0 (setL ws isC W1) → va_S A0 H0 H1 locs1 → W p l e R s m args below meth c H1 locs1 (cells + mc) (slots + ms) Q (F0 m (pc + 3) ls (r.toList ++ rest))) : W p l e R s m args below meth c H locs cells slots Q (F0 m pc ls st0) := by
  intro T hT X
  obtain ⟨v, st₀, t, T', L, h0, X', hL, e1, e2, ⟨hv, hp1, hz, hk⟩, st⟩ := hr T hT X
  cases hv
  rw [h0] at hz hk
  have hF := va_free hD hS hA isC hC
  obtain ⟨hP2, hD2⟩ := wk_frame hP hD isC hC ha hk hp1
  obtain ⟨t2, a1, b1⟩ := kk T'.heap (locs ++ L) (by rw [e1]; exact hP2) hD2
    ⟨Nat.le_trans hS.1 (by rw [e1]; exact hz), fun q h1 h2 => by rw [e1, hk q (Nat.lt_of_lt_of_le h1 hS.1) (fun z => h2 (hF q z))]; exact hS.2.1 q h1 h2, fun q hq => by
      rcases List.mem_append.mp hq with h | h
      · exact hS.2.2 q h
      · exact hF _ (hL q h)⟩ T' rfl X'
  exact ⟨t2, st t2 a1, b1⟩
theorem wk_mret {v : Int32} {r : Option Value} {W1 : va_W} (hexec : p.tables.exec = Jvm.exec) (hb : c.code = cc) (hr : meth.sig.returnType = some .int) (hlocks : meth.locks = false) (hdg : decode cc pc = .ok (.ireturn, 1)) (hP : va_P D cl W1 H) (hS : va_S A s.heap H locs) (he : some (Value.int v) = r) : W p l e R s m args below meth c H locs cells slots (MQ below (Qm D cl r W1 A) args s cells slots A) (F0 m pc ls [.int v]) := by
  subst he
  exact W.iret hexec hb hr (fun t ht _ => ⟨rfl, by rw [ht]; exact hP, hS.F ht⟩) hS.2.2 hdg hlocks
theorem wk_mvret {W1 : va_W} (hexec : p.tables.exec = Jvm.exec) (hb : c.code = cc) (hr : meth.sig.returnType = none) (hlocks : meth.locks = false) (hdg : decode cc pc = .ok (.return_, 1)) (hP : va_P D cl W1 H) (hS : va_S A s.heap H locs) : W p l e R s m args below meth c H locs cells slots (MQ below (Qm D cl none W1 A) args s cells slots A) (F0 m pc ls []) :=
  W.vret hexec hb hr (fun t ht _ => ⟨rfl, by rw [ht]; exact hP, hS.F ht⟩) hS.2.2 hdg hlocks
theorem wk_mlret {v : Int64} {r : Option Value} {W1 : va_W} (hexec : p.tables.exec = Jvm.exec) (hb : c.code = cc) (hr : meth.sig.returnType = some .long) (hlocks : meth.locks = false) (hdg : decode cc pc = .ok (.lreturn, 1)) (hP : va_P D cl W1 H) (hS : va_S A s.heap H locs) (he : some (Value.long v) = r) : W p l e R s m args below meth c H locs cells slots (MQ below (Qm D cl r W1 A) args s cells slots A) (F0 m pc ls [.long v]) := by
  subst he
  exact W.lret hexec hb hr (fun t ht _ => ⟨rfl, by rw [ht]; exact hP, hS.F ht⟩) hS.2.2 hdg hlocks
end WKM
/-! what a method asks of its start -/
abbrev GG : Type := va_G × ClassId × ClassId × ClassId × ClassId
abbrev gC (G : GG) : ClassId := G.2.1
abbrev gI (G : GG) : ClassId := G.2.2.1
abbrev gZ (G : GG) : ClassId := G.2.2.2.1
abbrev gO (G : GG) : ClassId := G.2.2.2.2
def tysG (G : GG) : List (ClassId × FieldType) := [(gC G, .char), (gI G, .int), (gZ G, .boolean), (gO G, .object RX2)]
def nwL : List Cond := [.methodLinkNest RX6 40 yX7_bit RX7, .methodLinkNest RX6 86 yX7_isWithin RX7, .methodLinkNest RX4 37 yX7_isWithin RX7, .methodLinkNest RX4 44 yX7_bit RX7, .methodLinkNest RX3 24 yX2_init RX7, .methodLinkNest RX7 19 yX0_init RX7, .methodLinkNest RX7 38 yX2_init RX7]
def NW (U : State) : Prop := va_Nw (.methodLinkNest RX6 40 yX7_bit RX7) U ∧ va_Nw (.methodLinkNest RX6 86 yX7_isWithin RX7) U ∧ va_Nw (.methodLinkNest RX4 37 yX7_isWithin RX7) U ∧ va_Nw (.methodLinkNest RX4 44 yX7_bit RX7) U ∧ va_Nw (.methodLinkNest RX3 24 yX2_init RX7) U ∧ va_Nw (.methodLinkNest RX7 19 yX0_init RX7) U ∧ va_Nw (.methodLinkNest RX7 38 yX2_init RX7) U
theorem NW.same {u U : State} (h : u.vm = U.vm) (hZ : NW u) : NW U := by
  obtain ⟨h1, h2, h3, h4, h5, h6, h7⟩ := hZ
  exact ⟨h1.same rfl h, h2.same rfl h, h3.same rfl h, h4.same rfl h, h5.same rfl h, h6.same rfl h, h7.same rfl h⟩
theorem NW.warm {s U : State} (hW : s.WarmedH U.vm) (hZ : NW s) : NW U := by
  obtain ⟨h1, h2, h3, h4, h5, h6, h7⟩ := hZ
  exact ⟨h1.warmM hW, h2.warmM hW, h3.warmM hW, h4.warmM hW, h5.warmM hW, h6.warmM hW, h7.warmM hW⟩
/-- the start of a method: its world in the heap, the tables -/
def PreW (G : GG) (W0 : va_W) (U : State) (H : Heap) : Prop := va_P G.1 vwCl W0 H ∧ va_K G.1 vwCl (tysG G) U ∧ NW U
theorem PreW.blind {G : GG} {W0 : va_W} {av : List Value} : FrameBlind (va_Pc av (fun U => PreW G W0 U U.heap)) := by
  intro a U g mk h
  obtain ⟨h0, h1, h2, h3⟩ := h
  exact ⟨h0, h1, va_K.moved (u := U) (U := U.calling g mk a) (Vm.Alike.refl U.vm) h2, h3.same rfl⟩
theorem PreW.mv {G : GG} {W0 : va_W} {s U : State} {H : Heap} (h : PreW G W0 s H) (hU : U.heap = H) (hW : s.WarmedH U.vm) : PreW G W0 U U.heap := ⟨by rw [hU]; exact h.1, va_K.moved hW.alike h.2.1, h.2.2.warm hW⟩
theorem PreW.sub {G : GG} {W0 W1 : va_W} {s : State} {H : Heap} (h : PreW G W0 s H) (is : List Nat) (hs : is.filterMap (fun i => W0[i]?) = W1) : PreW G W1 s H := ⟨h.1.sub is hs, h.2⟩
theorem PreW.pre {G : GG} {W0 : va_W} {s : State} {H : Heap} (h : PreW G W0 s H) {b ci q0 : Nat} {q : vw_C} {fs : List Value} (hc : vwCl[ci]? = some q) (he : W0[q0]? = some (b, .inr (ci, fs))) {As : List Value} : PreV s H q.1 b (va_Pc (.ref b :: As) (fun U => PreW G W0 U U.heap)) As :=
  ⟨PreW.blind, va_recv h.2.1 h.1 hc he, fun _ hU hW => ⟨rfl, h.mv hU hW⟩⟩
theorem PreW.preS {G : GG} {W0 : va_W} {s : State} {H : Heap} (h : PreW G W0 s H) {As : List Value} : PreS s H (va_Pc As (fun U => PreW G W0 U U.heap)) As :=
  ⟨PreW.blind, fun _ hU hW => ⟨rfl, h.mv hU hW⟩⟩
/-- the start of a method that writes -/
def PreM (G : GG) (W0 : va_W) (sz : Nat) (U : State) (H : Heap) : Prop := PreW G W0 U H ∧ va_D (fun _ => True) W0 ∧ H.size = sz
theorem PreM.blind {G : GG} {W0 : va_W} {sz : Nat} {av : List Value} : FrameBlind (va_Pc av (fun U => PreM G W0 sz U U.heap)) := by
  intro a U g mk h
  obtain ⟨h0, ⟨h1, h2, h3⟩, h4, h5⟩ := h
  exact ⟨h0, ⟨h1, va_K.moved (u := U) (U := U.calling g mk a) (Vm.Alike.refl U.vm) h2, h3.same rfl⟩, h4, h5⟩
theorem PreM.mv {G : GG} {W0 : va_W} {sz : Nat} {s U : State} {H : Heap} (h : PreM G W0 sz s H) (hU : U.heap = H) (hW : s.WarmedH U.vm) : PreM G W0 sz U U.heap := ⟨h.1.mv hU hW, h.2.1, by rw [hU]; exact h.2.2⟩
/-- out of the caller's world: the callee's part -/
theorem PreM.of {G : GG} {W0 W1 : va_W} {A0 : Nat → Prop} {s : State} {H : Heap} (hP : va_P G.1 vwCl W0 H) (hK : va_K G.1 vwCl (tysG G) s) (hN : NW s) (hD : va_D A0 W0) (is : List Nat) (hn : va_nd is = true) (hs : is.map (fun i => W0[i]?) = W1.map some) : PreM G W1 H.size s H := by
  have hs2 : is.filterMap (fun i => W0[i]?) = W1 := by
    have : (is.map (fun i => W0[i]?)).filterMap id = W1 := by rw [hs]; simp
    rw [← this]; simp [List.filterMap_map]
  exact ⟨⟨hP.sub is hs2, hK, hN⟩, (hD.sub is hn hs).weaken (fun _ _ _ _ => trivial), rfl⟩
theorem PreM.pre {G : GG} {W0 : va_W} {sz : Nat} {s : State} {H : Heap} (h : PreM G W0 sz s H) {b ci q0 : Nat} {q : vw_C} {fs : List Value} (hc : vwCl[ci]? = some q) (he : W0[q0]? = some (b, .inr (ci, fs))) {As : List Value} : PreV s H q.1 b (va_Pc (.ref b :: As) (fun U => PreM G W0 sz U U.heap)) As :=
  ⟨PreM.blind, va_recv h.1.2.1 h.1.1 hc he, fun _ hU hW => ⟨rfl, h.mv hU hW⟩⟩
theorem PreM.preS {G : GG} {W0 : va_W} {sz : Nat} {s : State} {H : Heap} (h : PreM G W0 sz s H) {As : List Value} : PreS s H (va_Pc As (fun U => PreM G W0 sz U U.heap)) As :=
  ⟨PreM.blind, fun _ hU hW => ⟨rfl, h.mv hU hW⟩⟩
/-- truth values as ints -/
def b2i (b : Bool) : Int32 := if b then 1 else 0
theorem b2i_f {b : Bool} (h : b2i b = 0) : b = false := by cases b; rfl; exact absurd h (by decide)
theorem b2i_t {b : Bool} (h : ¬ b2i b = 0) : b = true := by cases b; exact absurd rfl h; rfl
theorem b2i_nar (b : Bool) : narrow .boolean (.int (b2i b)) = .int (b2i b) := by cases b <;> rfl
theorem b2i_fit (b : Bool) : fits .boolean (.int (b2i b)) = true := by cases b <;> rfl
theorem b2i_vnar (b : Bool) : vp_nar .boolean (b2i b) = b2i b := by cases b <;> rfl
theorem b2i_inj {x y : Bool} (h : b2i x = b2i y) : x = y := by cases x <;> cases y <;> first | rfl | exact absurd h (by decide)
theorem b2i_ninj {x y : Bool} (h : ¬ b2i x = b2i y) : ¬ x = y := fun q => h (congrArg b2i q)
theorem b2i_ct {P : Prop} [Decidable P] (h : P) : (1 : Int32) = b2i (decide P) := by simp [b2i, h]
theorem b2i_cf {P : Prop} [Decidable P] (h : ¬ P) : (0 : Int32) = b2i (decide P) := by simp [b2i, h]
/-- a count of rounds -/
def fo {α : Type} (f : Nat → α → α) (x : α) : Nat → α
  | 0 => x
  | n + 1 => f n (fo f x n)
theorem fo_s {α : Type} (f : Nat → α → α) (x : α) (n : Nat) : fo f x (n + 1) = f n (fo f x n) := rfl
theorem fo_0 {α : Type} (f : Nat → α → α) (x : α) : fo f x 0 = x := rfl
theorem fo_cong {α : Type} {f g : Nat → α → α} {x : α} : ∀ {n : Nat}, (∀ i y, i < n → f i y = g i y) → fo f x n = fo g x n
  | 0, _ => rfl
  | n + 1, h => by
    rw [fo_s, fo_s, fo_cong (n := n) (fun i y hi => h i y (Nat.lt_succ_of_lt hi)), h n _ (Nat.lt_succ_self n)]
theorem wk_i1 (n : Nat) : nI n + Int32.ofInt 1 = nI (n + 1) := nI_1 n
theorem wk_i4 (n : Nat) : nI n + Int32.ofInt 4 = nI (n + 4) := nI_add n 4
section WKC
variable {p : Program} {l : Launch} {e : Env} {R : Room} {s : State} {m : MethodId} {args : Array Value} {below : List Frame} {meth : Method} {c : Code} {H : Heap} {locs : List Loc} {cells slots : Nat} {Q : State → Prop}
variable {pc : Nat} {ls : Array Slot} {st : List Value}
/-- where two ways meet: a number on top, known by P -/
theorem wk_cut (pc2 : Nat) (rest : List Value) (P : Int32 → Prop) (k : ∀ x : Int32, P x → W p l e R s m args below meth c H locs cells slots Q (F0 m pc2 ls (.int x :: rest))) (j : (∀ x : Int32, P x → W p l e R s m args below meth c H locs cells slots Q (F0 m pc2 ls (.int x :: rest))) → W p l e R s m args below meth c H locs cells slots Q (F0 m pc ls st)) : W p l e R s m args below meth c H locs cells slots Q (F0 m pc ls st) := j k
end WKC
/-! the state of the class -/
abbrev Ar : Type := Nat → Int32
/-- what the text tells: things, officers, warmth, sort, votes, bills, first holders -/
abbrev Cn : Type := Nat × Nat × Int32 × Ar × Ar × Ar × Ar
abbrev kT (k : Cn) : Nat := k.1
abbrev kO (k : Cn) : Nat := k.2.1
abbrev kW (k : Cn) : Int32 := k.2.2.1
abbrev kS (k : Cn) : Ar := k.2.2.2.1
abbrev kV (k : Cn) : Ar := k.2.2.2.2.1
abbrev kB (k : Cn) : Ar := k.2.2.2.2.2.1
abbrev kF (k : Cn) : Ar := k.2.2.2.2.2.2
/-- a moment: holder, warmth, wash, turned, sick, put, passed -/
abbrev Mo : Type := Ar × Ar × Int32 × Int32 × Int32 × Int32 × Int32
abbrev mH (o : Mo) : Ar := o.1
abbrev mW (o : Mo) : Ar := o.2.1
abbrev mWa (o : Mo) : Int32 := o.2.2.1
abbrev mTu (o : Mo) : Int32 := o.2.2.2.1
abbrev mSi (o : Mo) : Int32 := o.2.2.2.2.1
abbrev mPu (o : Mo) : Int32 := o.2.2.2.2.2.1
abbrev mPa (o : Mo) : Int32 := o.2.2.2.2.2.2
/-- the record: bills, outcomes, lines -/
abbrev Mi : Type := Ar × (Nat → Bool) × Nat
abbrev iB (i : Mi) : Ar := i.1
abbrev iO (i : Mi) : Nat → Bool := i.2.1
abbrev iL (i : Mi) : Nat := i.2.2
/-- the reader: length, place, token, the token's place, number, fault, whether warmth was told -/
abbrev Rd : Type := Nat × Nat × Int32 × Nat × Nat × Int32 × Bool
/-- text, letters, told, draft, reader, moment, record, next, known, ring, images, kept, traced -/
abbrev CX : Type := Ar × Nat × Cn × Cn × Rd × Mo × Mi × Nat × Nat × (Nat → Mo) × (Nat → Mo) × Int32 × Int64
abbrev cTx (c : CX) : Ar := c.1
abbrev cLe (c : CX) : Nat := c.2.1
abbrev cK (c : CX) : Cn := c.2.2.1
abbrev cDr (c : CX) : Cn := c.2.2.2.1
abbrev cRd (c : CX) : Rd := c.2.2.2.2.1
abbrev cM (c : CX) : Mo := c.2.2.2.2.2.1
abbrev cI (c : CX) : Mi := c.2.2.2.2.2.2.1
abbrev cNx (c : CX) : Nat := c.2.2.2.2.2.2.2.1
abbrev cKn (c : CX) : Nat := c.2.2.2.2.2.2.2.2.1
abbrev cRi (c : CX) : Nat → Mo := c.2.2.2.2.2.2.2.2.2.1
abbrev cIm (c : CX) : Nat → Mo := c.2.2.2.2.2.2.2.2.2.2.1
abbrev cKe (c : CX) : Int32 := c.2.2.2.2.2.2.2.2.2.2.2.1
abbrev cTr (c : CX) : Int64 := c.2.2.2.2.2.2.2.2.2.2.2.2
abbrev eMain (a : Nat → Nat) (c : CX) : Nat × va_E := (a 0, .inr (7, [.ref (a 15), .int (nI (cLe c)), .ref (a 1), .ref (a 16), .ref (a 21), .ref (a 6), .ref (a 9), .ref (a 10), .ref (a 11), .ref (a 14), .ref (a 53), .int (cKe c), .long (cTr c)]))
abbrev eCn (a : Nat → Nat) (i : Nat) (k : Cn) : Nat × va_E := (a i, .inr (0, [.int (nI (kT k)), .int (nI (kO k)), .int (kW k), .ref (a (i + 1)), .ref (a (i + 2)), .ref (a (i + 3)), .ref (a (i + 4))]))
abbrev eMo (a : Nat → Nat) (i : Nat) (o : Mo) : Nat × va_E := (a i, .inr (2, [.ref (a (i + 1)), .ref (a (i + 2)), .int (mWa o), .int (mTu o), .int (mSi o), .int (mPu o), .int (mPa o)]))
abbrev eAr (G : GG) (a : Nat → Nat) (i n : Nat) (f : Ar) : Nat × va_E := (a i, .inl (gI G, n, .inl f))
/-- what the methods that only read need of the class: 0 main, 1 told (2 .. 5), 6 moment (7, 8), 9 vote, 10 power, 11 minutes (12, 13), 14 past -/
def WR (G : GG) (a : Nat → Nat) (c : CX) : va_W := [eMain a c, eCn a 1 (cK c), eAr G a 2 7 (kS (cK c)), eAr G a 3 7 (kV (cK c)), eAr G a 4 7 (kB (cK c)), eAr G a 5 7 (kF (cK c)), eMo a 6 (cM c), eAr G a 7 7 (mH (cM c)), eAr G a 8 7 (mW (cM c)), (a 9, .inr (6, [.ref (a 1), .ref (a 6)])), (a 10, .inr (4, [.ref (a 9)])), (a 11, .inr (1, [.ref (a 9), .ref (a 12), .ref (a 13), .int (nI (iL (cI c)))])), eAr G a 12 6 (iB (cI c)), (a 13, .inl (gZ G, 6, .inl (fun j => b2i (iO (cI c) j)))), (a 14, .inr (3, [.ref (a 22), .int (nI (cNx c)), .int (nI (cKn c))]))]
/-- what keeps every index in its row -/
def OkR (c : CX) : Prop := kT (cK c) ≤ 7 ∧ 1 ≤ kO (cK c) ∧ kO (cK c) ≤ 5 ∧ iL (cI c) ≤ 6 ∧ cLe c ≤ 200 ∧ cNx c < 10 ∧ cKn c ≤ 10
/-! words of the pure side -/
def bitI (x y : Int32) : Int32 := (x >>> (y &&& 31)) &&& 1
def iv (x : Int32) : Int32 := x ^^^ (-1)
def sh1 (y : Int32) : Int32 := (1 : Int32) <<< (y &&& 31)
/-! switches -/
theorem wk_sw0_2 (x : Int32) : x = 0 ∨ x = 1 ∨ x = 2 ∨ (x.toInt < 0 ∨ 2 < x.toInt) := by
  by_cases h : x.toInt < 0 ∨ 2 < x.toInt
  · simp only [h, or_true]
  · have h1 : ¬ x < 0 := fun q => h (Or.inl (Int32.lt_iff_toInt_lt.mp q))
    obtain ⟨j, hj, rfl⟩ := nI_of h1
    have h2 := nI_toInt hj
    have h3 : j ≤ 2 := by omega
    have h4 : j = 0 ∨ j = 1 ∨ j = 2 := by omega
    rcases h4 with rfl | rfl | rfl <;> decide
theorem wk_sw0_3 (x : Int32) : x = 0 ∨ x = 1 ∨ x = 2 ∨ x = 3 ∨ (x.toInt < 0 ∨ 3 < x.toInt) := by
  by_cases h : x.toInt < 0 ∨ 3 < x.toInt
  · simp only [h, or_true]
  · have h1 : ¬ x < 0 := fun q => h (Or.inl (Int32.lt_iff_toInt_lt.mp q))
    obtain ⟨j, hj, rfl⟩ := nI_of h1
    have h2 := nI_toInt hj
    have h3 : j ≤ 3 := by omega
    have h4 : j = 0 ∨ j = 1 ∨ j = 2 ∨ j = 3 := by omega
    rcases h4 with rfl | rfl | rfl | rfl <;> decide
theorem wk_sw0_4 (x : Int32) : x = 0 ∨ x = 1 ∨ x = 2 ∨ x = 3 ∨ x = 4 ∨ (x.toInt < 0 ∨ 4 < x.toInt) := by
  by_cases h : x.toInt < 0 ∨ 4 < x.toInt
  · simp only [h, or_true]
  · have h1 : ¬ x < 0 := fun q => h (Or.inl (Int32.lt_iff_toInt_lt.mp q))
    obtain ⟨j, hj, rfl⟩ := nI_of h1
    have h2 := nI_toInt hj
    have h3 : j ≤ 4 := by omega
    have h4 : j = 0 ∨ j = 1 ∨ j = 2 ∨ j = 3 ∨ j = 4 := by omega
    rcases h4 with rfl | rfl | rfl | rfl | rfl <;> decide
theorem wk_sw0_5 (x : Int32) : x = 0 ∨ x = 1 ∨ x = 2 ∨ x = 3 ∨ x = 4 ∨ x = 5 ∨ (x.toInt < 0 ∨ 5 < x.toInt) := by
  by_cases h : x.toInt < 0 ∨ 5 < x.toInt
  · simp only [h, or_true]
  · have h1 : ¬ x < 0 := fun q => h (Or.inl (Int32.lt_iff_toInt_lt.mp q))
    obtain ⟨j, hj, rfl⟩ := nI_of h1
    have h2 := nI_toInt hj
    have h3 : j ≤ 5 := by omega
    have h4 : j = 0 ∨ j = 1 ∨ j = 2 ∨ j = 3 ∨ j = 4 ∨ j = 5 := by omega
    rcases h4 with rfl | rfl | rfl | rfl | rfl | rfl <;> decide
theorem wk_sw0_7 (x : Int32) : x = 0 ∨ x = 1 ∨ x = 2 ∨ x = 3 ∨ x = 4 ∨ x = 5 ∨ x = 6 ∨ x = 7 ∨ (x.toInt < 0 ∨ 7 < x.toInt) := by
  by_cases h : x.toInt < 0 ∨ 7 < x.toInt
  · simp only [h, or_true]
  · have h1 : ¬ x < 0 := fun q => h (Or.inl (Int32.lt_iff_toInt_lt.mp q))
    obtain ⟨j, hj, rfl⟩ := nI_of h1
    have h2 := nI_toInt hj
    have h3 : j ≤ 7 := by omega
    have h4 : j = 0 ∨ j = 1 ∨ j = 2 ∨ j = 3 ∨ j = 4 ∨ j = 5 ∨ j = 6 ∨ j = 7 := by omega
    rcases h4 with rfl | rfl | rfl | rfl | rfl | rfl | rfl | rfl <;> decide
/-! counts, all, the first of a row -/
def allB (p : Nat → Bool) : Nat → Bool
  | 0 => true
  | n + 1 => allB p n && p n
theorem allB_no {p : Nat → Bool} : ∀ {n i : Nat}, i < n → p i = false → allB p n = false
  | 0, i, h, _ => absurd h (Nat.not_lt_zero i)
  | n + 1, i, h, hp => by
    rcases Nat.lt_or_ge i n with q | q
    · rw [allB, allB_no q hp, Bool.false_and]
    · have e : i = n := by omega
      subst e
      rw [allB, hp, Bool.and_false]
theorem allB_iff {p : Nat → Bool} : ∀ {n : Nat}, allB p n = true ↔ ∀ i, i < n → p i = true
  | 0 => ⟨fun _ i h => absurd h (Nat.not_lt_zero i), fun _ => rfl⟩
  | n + 1 => by
    rw [allB, Bool.and_eq_true, allB_iff (n := n)]
    refine ⟨fun h i hi => ?_, fun h => ⟨fun i hi => h i (by omega), h n (by omega)⟩⟩
    rcases Nat.lt_or_ge i n with q | q
    · exact h.1 i q
    · have e : i = n := by omega
      subst e
      exact h.2
def firB (p : Nat → Bool) : Nat → Int32
  | 0 => -9
  | n + 1 => if firB p n = -9 then (if p n then nI n else -9) else firB p n
theorem firB_no {p : Nat → Bool} : ∀ {n : Nat}, (∀ i, i < n → p i = false) → firB p n = -9
  | 0, _ => rfl
  | n + 1, h => by rw [firB, firB_no (n := n) (fun i hi => h i (by omega)), if_pos rfl, h n (by omega)]; rfl
theorem firB_yes {p : Nat → Bool} {i : Nat} (h1 : ∀ j, j < i → p j = false) (h2 : p i = true) (hi : i < 2 ^ 31) : ∀ {n : Nat}, i < n → firB p n = nI i
  | 0, h => absurd h (Nat.not_lt_zero i)
  | n + 1, h => by
    rcases Nat.lt_or_ge i n with q | q
    · rw [firB, firB_yes h1 h2 hi q, if_neg]
      intro z
      exact nI_pos hi (by rw [z]; decide)
    · have e : i = n := by omega
      subst e
      rw [firB, firB_no h1, if_pos rfl, h2]; rfl
def cntB (p : Nat → Bool) : Nat → Int32 := fo (fun i r => if p i then r + 1 else r) 0

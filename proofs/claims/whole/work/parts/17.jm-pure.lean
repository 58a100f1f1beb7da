/-! setters of the model's state, and what a write does to its world -/
def wTr (c : JX) (v : Int64) : JX := (v, qTx c, qTy c, qNe c, qTo c, qPl c, qVa c, qFa c, qN c, qSo c, qVo c, qBi c, qHo c, qTd c, qS c, qW c, qKe c, qIk c, qUn c, qUm c, qRb c, qRi c, qRm c)
def wTx (c : JX) (v : Ar) : JX := (qTr c, v, qTy c, qNe c, qTo c, qPl c, qVa c, qFa c, qN c, qSo c, qVo c, qBi c, qHo c, qTd c, qS c, qW c, qKe c, qIk c, qUn c, qUm c, qRb c, qRi c, qRm c)
def wTy (c : JX) (v : Nat) : JX := (qTr c, qTx c, v, qNe c, qTo c, qPl c, qVa c, qFa c, qN c, qSo c, qVo c, qBi c, qHo c, qTd c, qS c, qW c, qKe c, qIk c, qUn c, qUm c, qRb c, qRi c, qRm c)
def wNe (c : JX) (v : Nat) : JX := (qTr c, qTx c, qTy c, v, qTo c, qPl c, qVa c, qFa c, qN c, qSo c, qVo c, qBi c, qHo c, qTd c, qS c, qW c, qKe c, qIk c, qUn c, qUm c, qRb c, qRi c, qRm c)
def wTo (c : JX) (v : Int32) : JX := (qTr c, qTx c, qTy c, qNe c, v, qPl c, qVa c, qFa c, qN c, qSo c, qVo c, qBi c, qHo c, qTd c, qS c, qW c, qKe c, qIk c, qUn c, qUm c, qRb c, qRi c, qRm c)
def wPl (c : JX) (v : Nat) : JX := (qTr c, qTx c, qTy c, qNe c, qTo c, v, qVa c, qFa c, qN c, qSo c, qVo c, qBi c, qHo c, qTd c, qS c, qW c, qKe c, qIk c, qUn c, qUm c, qRb c, qRi c, qRm c)
def wVa (c : JX) (v : Nat) : JX := (qTr c, qTx c, qTy c, qNe c, qTo c, qPl c, v, qFa c, qN c, qSo c, qVo c, qBi c, qHo c, qTd c, qS c, qW c, qKe c, qIk c, qUn c, qUm c, qRb c, qRi c, qRm c)
def wFa (c : JX) (v : Int32) : JX := (qTr c, qTx c, qTy c, qNe c, qTo c, qPl c, qVa c, v, qN c, qSo c, qVo c, qBi c, qHo c, qTd c, qS c, qW c, qKe c, qIk c, qUn c, qUm c, qRb c, qRi c, qRm c)
def wN (c : JX) (v : Nat → Nat) : JX := (qTr c, qTx c, qTy c, qNe c, qTo c, qPl c, qVa c, qFa c, v, qSo c, qVo c, qBi c, qHo c, qTd c, qS c, qW c, qKe c, qIk c, qUn c, qUm c, qRb c, qRi c, qRm c)
def wSo (c : JX) (v : Ar) : JX := (qTr c, qTx c, qTy c, qNe c, qTo c, qPl c, qVa c, qFa c, qN c, v, qVo c, qBi c, qHo c, qTd c, qS c, qW c, qKe c, qIk c, qUn c, qUm c, qRb c, qRi c, qRm c)
def wVo (c : JX) (v : Ar) : JX := (qTr c, qTx c, qTy c, qNe c, qTo c, qPl c, qVa c, qFa c, qN c, qSo c, v, qBi c, qHo c, qTd c, qS c, qW c, qKe c, qIk c, qUn c, qUm c, qRb c, qRi c, qRm c)
def wBi (c : JX) (v : Ar) : JX := (qTr c, qTx c, qTy c, qNe c, qTo c, qPl c, qVa c, qFa c, qN c, qSo c, qVo c, v, qHo c, qTd c, qS c, qW c, qKe c, qIk c, qUn c, qUm c, qRb c, qRi c, qRm c)
def wHo (c : JX) (v : Ar) : JX := (qTr c, qTx c, qTy c, qNe c, qTo c, qPl c, qVa c, qFa c, qN c, qSo c, qVo c, qBi c, v, qTd c, qS c, qW c, qKe c, qIk c, qUn c, qUm c, qRb c, qRi c, qRm c)
def wTd (c : JX) (v : Bool) : JX := (qTr c, qTx c, qTy c, qNe c, qTo c, qPl c, qVa c, qFa c, qN c, qSo c, qVo c, qBi c, qHo c, v, qS c, qW c, qKe c, qIk c, qUn c, qUm c, qRb c, qRi c, qRm c)
def wS (c : JX) (v : Ar) : JX := (qTr c, qTx c, qTy c, qNe c, qTo c, qPl c, qVa c, qFa c, qN c, qSo c, qVo c, qBi c, qHo c, qTd c, v, qW c, qKe c, qIk c, qUn c, qUm c, qRb c, qRi c, qRm c)
def wW (c : JX) (v : Ar) : JX := (qTr c, qTx c, qTy c, qNe c, qTo c, qPl c, qVa c, qFa c, qN c, qSo c, qVo c, qBi c, qHo c, qTd c, qS c, v, qKe c, qIk c, qUn c, qUm c, qRb c, qRi c, qRm c)
def wKe (c : JX) (v : Ar) : JX := (qTr c, qTx c, qTy c, qNe c, qTo c, qPl c, qVa c, qFa c, qN c, qSo c, qVo c, qBi c, qHo c, qTd c, qS c, qW c, v, qIk c, qUn c, qUm c, qRb c, qRi c, qRm c)
def wIk (c : JX) (v : Nat → Bool) : JX := (qTr c, qTx c, qTy c, qNe c, qTo c, qPl c, qVa c, qFa c, qN c, qSo c, qVo c, qBi c, qHo c, qTd c, qS c, qW c, qKe c, v, qUn c, qUm c, qRb c, qRi c, qRm c)
def wUn (c : JX) (v : Ar) : JX := (qTr c, qTx c, qTy c, qNe c, qTo c, qPl c, qVa c, qFa c, qN c, qSo c, qVo c, qBi c, qHo c, qTd c, qS c, qW c, qKe c, qIk c, v, qUm c, qRb c, qRi c, qRm c)
def wUm (c : JX) (v : Nat) : JX := (qTr c, qTx c, qTy c, qNe c, qTo c, qPl c, qVa c, qFa c, qN c, qSo c, qVo c, qBi c, qHo c, qTd c, qS c, qW c, qKe c, qIk c, qUn c, v, qRb c, qRi c, qRm c)
def wRb (c : JX) (v : Ar) : JX := (qTr c, qTx c, qTy c, qNe c, qTo c, qPl c, qVa c, qFa c, qN c, qSo c, qVo c, qBi c, qHo c, qTd c, qS c, qW c, qKe c, qIk c, qUn c, qUm c, v, qRi c, qRm c)
def wRi (c : JX) (v : Ar) : JX := (qTr c, qTx c, qTy c, qNe c, qTo c, qPl c, qVa c, qFa c, qN c, qSo c, qVo c, qBi c, qHo c, qTd c, qS c, qW c, qKe c, qIk c, qUn c, qUm c, qRb c, v, qRm c)
def wRm (c : JX) (v : Nat) : JX := (qTr c, qTx c, qTy c, qNe c, qTo c, qPl c, qVa c, qFa c, qN c, qSo c, qVo c, qBi c, qHo c, qTd c, qS c, qW c, qKe c, qIk c, qUn c, qUm c, qRb c, qRi c, v)
theorem okJ_wTr {c : JX} {v : Int64} (h : OkJ c) : OkJ (wTr c v) := h
theorem okJ_wTx {c : JX} {v : Ar} (h : OkJ c) : OkJ (wTx c v) := h
theorem okJ_wNe {c : JX} {v : Nat} (h : OkJ c) : OkJ (wNe c v) := h
theorem okJ_wTo {c : JX} {v : Int32} (h : OkJ c) : OkJ (wTo c v) := h
theorem okJ_wPl {c : JX} {v : Nat} (h : OkJ c) : OkJ (wPl c v) := h
theorem okJ_wVa {c : JX} {v : Nat} (h : OkJ c) : OkJ (wVa c v) := h
theorem okJ_wFa {c : JX} {v : Int32} (h : OkJ c) : OkJ (wFa c v) := h
theorem okJ_wSo {c : JX} {v : Ar} (h : OkJ c) : OkJ (wSo c v) := h
theorem okJ_wVo {c : JX} {v : Ar} (h : OkJ c) : OkJ (wVo c v) := h
theorem okJ_wBi {c : JX} {v : Ar} (h : OkJ c) : OkJ (wBi c v) := h
theorem okJ_wHo {c : JX} {v : Ar} (h : OkJ c) : OkJ (wHo c v) := h
theorem okJ_wTd {c : JX} {v : Bool} (h : OkJ c) : OkJ (wTd c v) := h
theorem okJ_wS {c : JX} {v : Ar} (h : OkJ c) : OkJ (wS c v) := h
theorem okJ_wW {c : JX} {v : Ar} (h : OkJ c) : OkJ (wW c v) := h
theorem okJ_wKe {c : JX} {v : Ar} (h : OkJ c) : OkJ (wKe c v) := h
theorem okJ_wIk {c : JX} {v : Nat → Bool} (h : OkJ c) : OkJ (wIk c v) := h
theorem okJ_wUn {c : JX} {v : Ar} (h : OkJ c) : OkJ (wUn c v) := h
theorem okJ_wRb {c : JX} {v : Ar} (h : OkJ c) : OkJ (wRb c v) := h
theorem okJ_wRi {c : JX} {v : Ar} (h : OkJ c) : OkJ (wRi c v) := h
theorem okJ_wTy {c : JX} {v : Nat} (h : OkJ c) (hv : v ≤ 200) : OkJ (wTy c v) := ⟨h.1, h.2.1, h.2.2.1, hv, h.2.2.2.2.1, h.2.2.2.2.2⟩
theorem okJ_wRm {c : JX} {v : Nat} (h : OkJ c) (hv : v ≤ 6) : OkJ (wRm c v) := ⟨h.1, h.2.1, h.2.2.1, h.2.2.2.1, hv, h.2.2.2.2.2⟩
theorem okJ_wUm {c : JX} {v : Nat} (h : OkJ c) (hv : v ≤ 10) : OkJ (wUm c v) := ⟨h.1, h.2.1, h.2.2.1, h.2.2.2.1, h.2.2.2.2.1, hv⟩
theorem okJ_wN {c : JX} {v : Nat → Nat} (h : OkJ c) (h0 : v 0 ≤ 7) (h1 : 1 ≤ v 1) (h2 : v 1 ≤ 5) : OkJ (wN c v) := ⟨h0, h1, h2, h.2.2.2⟩
theorem WM_0 (G : GG) (a : Nat → Nat) (c : JX) : (WM G a c)[0]? = some (a 0, .inr (8, fsJ a c)) := rfl
theorem WM_1 (G : GG) (a : Nat → Nat) (c : JX) : (WM G a c)[1]? = some (a 1, .inl (gI G, 6, .inl (fun i => nI (qN c i)))) := rfl
theorem WM_2 (G : GG) (a : Nat → Nat) (c : JX) : (WM G a c)[2]? = some (a 2, .inl (gI G, 14, .inl (qSo c))) := rfl
theorem WM_p2 {G : GG} {a : Nat → Nat} {c : JX} {f : Ar} : (WM G a c).set 2 (a 2, .inl (gI G, 14, .inl f)) = WM G a (wSo c f) := rfl
theorem WM_3 (G : GG) (a : Nat → Nat) (c : JX) : (WM G a c)[3]? = some (a 3, .inl (gI G, 14, .inl (qVo c))) := rfl
theorem WM_p3 {G : GG} {a : Nat → Nat} {c : JX} {f : Ar} : (WM G a c).set 3 (a 3, .inl (gI G, 14, .inl f)) = WM G a (wVo c f) := rfl
theorem WM_4 (G : GG) (a : Nat → Nat) (c : JX) : (WM G a c)[4]? = some (a 4, .inl (gI G, 14, .inl (qBi c))) := rfl
theorem WM_p4 {G : GG} {a : Nat → Nat} {c : JX} {f : Ar} : (WM G a c).set 4 (a 4, .inl (gI G, 14, .inl f)) = WM G a (wBi c f) := rfl
theorem WM_5 (G : GG) (a : Nat → Nat) (c : JX) : (WM G a c)[5]? = some (a 5, .inl (gI G, 19, .inl (qS c))) := rfl
theorem WM_p5 {G : GG} {a : Nat → Nat} {c : JX} {f : Ar} : (WM G a c).set 5 (a 5, .inl (gI G, 19, .inl f)) = WM G a (wS c f) := rfl
theorem WM_6 (G : GG) (a : Nat → Nat) (c : JX) : (WM G a c)[6]? = some (a 6, .inl (gI G, 19, .inl (qW c))) := rfl
theorem WM_p6 {G : GG} {a : Nat → Nat} {c : JX} {f : Ar} : (WM G a c).set 6 (a 6, .inl (gI G, 19, .inl f)) = WM G a (wW c f) := rfl
theorem WM_7 (G : GG) (a : Nat → Nat) (c : JX) : (WM G a c)[7]? = some (a 7, .inl (gI G, 6, .inl (qRb c))) := rfl
theorem WM_p7 {G : GG} {a : Nat → Nat} {c : JX} {f : Ar} : (WM G a c).set 7 (a 7, .inl (gI G, 6, .inl f)) = WM G a (wRb c f) := rfl
theorem WM_8 (G : GG) (a : Nat → Nat) (c : JX) : (WM G a c)[8]? = some (a 8, .inl (gI G, 6, .inl (qRi c))) := rfl
theorem WM_p8 {G : GG} {a : Nat → Nat} {c : JX} {f : Ar} : (WM G a c).set 8 (a 8, .inl (gI G, 6, .inl f)) = WM G a (wRi c f) := rfl
theorem WM_9 (G : GG) (a : Nat → Nat) (c : JX) : (WM G a c)[9]? = some (a 9, .inl (gI G, 200, .inl (qTx c))) := rfl
theorem WM_p9 {G : GG} {a : Nat → Nat} {c : JX} {f : Ar} : (WM G a c).set 9 (a 9, .inl (gI G, 200, .inl f)) = WM G a (wTx c f) := rfl
theorem WM_10 (G : GG) (a : Nat → Nat) (c : JX) : (WM G a c)[10]? = some (a 10, .inl (gI G, 7, .inl (qHo c))) := rfl
theorem WM_p10 {G : GG} {a : Nat → Nat} {c : JX} {f : Ar} : (WM G a c).set 10 (a 10, .inl (gI G, 7, .inl f)) = WM G a (wHo c f) := rfl
theorem WM_11 (G : GG) (a : Nat → Nat) (c : JX) : (WM G a c)[11]? = some (a 11, .inl (gI G, 38, .inl (qKe c))) := rfl
theorem WM_p11 {G : GG} {a : Nat → Nat} {c : JX} {f : Ar} : (WM G a c).set 11 (a 11, .inl (gI G, 38, .inl f)) = WM G a (wKe c f) := rfl
theorem WM_13 (G : GG) (a : Nat → Nat) (c : JX) : (WM G a c)[13]? = some (a 13, .inl (gI G, 190, .inl (qUn c))) := rfl
theorem WM_p13 {G : GG} {a : Nat → Nat} {c : JX} {f : Ar} : (WM G a c).set 13 (a 13, .inl (gI G, 190, .inl f)) = WM G a (wUn c f) := rfl
theorem WM_12 (G : GG) (a : Nat → Nat) (c : JX) : (WM G a c)[12]? = some (a 12, .inl (gZ G, 2, .inl (fun j => b2i (qIk c j)))) := rfl
theorem WM_p12 {G : GG} {a : Nat → Nat} {c : JX} {f : Nat → Bool} : (WM G a c).set 12 (a 12, .inl (gZ G, 2, .inl (fun j => b2i (f j)))) = WM G a (wIk c f) := rfl
theorem WM_p1 {G : GG} {a : Nat → Nat} {c : JX} {f : Nat → Nat} : (WM G a c).set 1 (a 1, .inl (gI G, 6, .inl (fun i => nI (f i)))) = WM G a (wN c f) := rfl
theorem WM_p0_0 {G : GG} {a : Nat → Nat} {c : JX} : (WM G a c).set 0 (a 0, .inr (8, (fsJ a c).set 0 (.int 0))) = WM G a c := rfl
theorem WM_p0_1 {G : GG} {a : Nat → Nat} {c : JX} {v : Int64} : (WM G a c).set 0 (a 0, .inr (8, (fsJ a c).set 1 (.long v))) = WM G a (wTr c v) := rfl
theorem WM_p0_3 {G : GG} {a : Nat → Nat} {c : JX} {v : Nat} : (WM G a c).set 0 (a 0, .inr (8, (fsJ a c).set 3 (.int (nI v)))) = WM G a (wTy c v) := rfl
theorem WM_p0_4 {G : GG} {a : Nat → Nat} {c : JX} {v : Nat} : (WM G a c).set 0 (a 0, .inr (8, (fsJ a c).set 4 (.int (nI v)))) = WM G a (wNe c v) := rfl
theorem WM_p0_6 {G : GG} {a : Nat → Nat} {c : JX} {v : Nat} : (WM G a c).set 0 (a 0, .inr (8, (fsJ a c).set 6 (.int (nI v)))) = WM G a (wPl c v) := rfl
theorem WM_p0_7 {G : GG} {a : Nat → Nat} {c : JX} {v : Nat} : (WM G a c).set 0 (a 0, .inr (8, (fsJ a c).set 7 (.int (nI v)))) = WM G a (wVa c v) := rfl
theorem WM_p0_20 {G : GG} {a : Nat → Nat} {c : JX} {v : Nat} : (WM G a c).set 0 (a 0, .inr (8, (fsJ a c).set 20 (.int (nI v)))) = WM G a (wUm c v) := rfl
theorem WM_p0_23 {G : GG} {a : Nat → Nat} {c : JX} {v : Nat} : (WM G a c).set 0 (a 0, .inr (8, (fsJ a c).set 23 (.int (nI v)))) = WM G a (wRm c v) := rfl
theorem WM_p0_5 {G : GG} {a : Nat → Nat} {c : JX} {v : Int32} : (WM G a c).set 0 (a 0, .inr (8, (fsJ a c).set 5 (.int v))) = WM G a (wTo c v) := rfl
theorem WM_p0_8 {G : GG} {a : Nat → Nat} {c : JX} {v : Int32} : (WM G a c).set 0 (a 0, .inr (8, (fsJ a c).set 8 (.int v))) = WM G a (wFa c v) := rfl
theorem WM_p0_14 {G : GG} {a : Nat → Nat} {c : JX} {v : Bool} : (WM G a c).set 0 (a 0, .inr (8, (fsJ a c).set 14 (.int (b2i v)))) = WM G a (wTd c v) := rfl
/-! rows laid into rows -/
def jShift (U : Ar) : Ar := fun k => if k < 171 then U (k + 19) else U k
def jPutU (U s : Ar) (m : Nat) : Ar := fun k => if 19 * m ≤ k ∧ k < 19 * m + 19 then s (k - 19 * m) else U k
def jTake (U : Ar) (m : Nat) (S : Ar) : Ar := fun k => if k < 19 then U (19 * m + k) else S k
def shU (U : Ar) (i : Nat) : Ar := fun k => if k < i then U (k + 19) else U k
theorem shU_s (U : Ar) (i : Nat) : upd (shU U i) i (shU U i (i + 19)) = shU U (i + 1) := by
  funext k
  simp only [upd, shU]
  by_cases h : k = i
  · subst h; simp [show ¬ k + 19 < k by omega]
  · have : k < i + 1 ↔ k < i := by omega
    simp [h, this]
def puU (U s : Ar) (m i : Nat) : Ar := fun k => if 19 * m ≤ k ∧ k < 19 * m + i then s (k - 19 * m) else U k
theorem puU_s (U s : Ar) (m i : Nat) : upd (puU U s m i) (19 * m + i) (s i) = puU U s m (i + 1) := by
  funext k
  simp only [upd, puU]
  by_cases h : k = 19 * m + i
  · subst h; simp [show 19 * m + i - 19 * m = i by omega]
  · have : k < 19 * m + (i + 1) ↔ k < 19 * m + i := by omega
    simp [h, this]
def taU (U : Ar) (m : Nat) (S : Ar) (i : Nat) : Ar := fun k => if k < i then U (19 * m + k) else S k
theorem taU_s (U : Ar) (m : Nat) (S : Ar) (i : Nat) : upd (taU U m S i) i (U (19 * m + i)) = taU U m S (i + 1) := by
  funext k
  simp only [upd, taU]
  by_cases h : k = i
  · subst h; simp
  · have : k < i + 1 ↔ k < i := by omega
    simp [h, this]
theorem shU_0 (U : Ar) : shU U 0 = U := by funext k; simp [shU]
theorem puU_0 (U s : Ar) (m : Nat) : puU U s m 0 = U := by
  funext k
  simp only [puU]
  rw [if_neg (by omega)]
theorem taU_0 (U : Ar) (m : Nat) (S : Ar) : taU U m S 0 = S := by funext k; simp [taU]
theorem wUn_c (c : JX) : wUn c (qUn c) = c := rfl
theorem wS_c (c : JX) : wS c (qS c) = c := rfl
theorem wW_c (c : JX) : wW c (qW c) = c := rfl
theorem wKe_c (c : JX) : wKe c (qKe c) = c := rfl
theorem wBi_c (c : JX) : wBi c (qBi c) = c := rfl
/-! the model's answers with the state after them -/
def yNote (c : JX) : JX := if qUm c = 10 then wUm (wUn c (jPutU (jShift (qUn c)) (qS c) 9)) 10 else wUm (wUn c (jPutU (qUn c) (qS c) (qUm c))) (qUm c + 1)
theorem okJ_note {c : JX} (h : OkJ c) : OkJ (yNote c) := by
  have h6 := h.2.2.2.2.2
  unfold yNote
  split
  · exact okJ_wUm (okJ_wUn h) (by omega)
  · exact okJ_wUm (okJ_wUn h) (by omega)
theorem note_S (c : JX) : qS (yNote c) = qS c := by unfold yNote; split <;> rfl
theorem note_N (c : JX) : qN (yNote c) = qN c := by unfold yNote; split <;> rfl
theorem note_So (c : JX) : qSo (yNote c) = qSo c := by unfold yNote; split <;> rfl
theorem note_Vo (c : JX) : qVo (yNote c) = qVo c := by unfold yNote; split <;> rfl
theorem note_Bi (c : JX) : qBi (yNote c) = qBi c := by unfold yNote; split <;> rfl
def yType (c : JX) (u : Int32) : Int32 × JX := if pIn u 0 255 then (if qTy c = 200 then (-3, c) else (nI (qTy c + 1), wTy (wTx c (upd (qTx c) (qTy c) u)) (qTy c + 1))) else (-1, c)
def yClear (c : JX) : Int32 × JX := (nI (qTy c), wTy c 0)
def yThing (c : JX) (t w : Int32) : Int32 := if jIsT (qN c 0) t && pIn w 0 7 then (if 4 ≤ w then (if w = 4 then bitI (qS c 14) t else if w = 5 then bitI (qS c 15) t else if w = 6 then qS c (7 + t.toNatClampNeg) else b2i (jSpk (qSo c) (qS c) t.toNatClampNeg)) else (if w = 0 then qSo c t.toNatClampNeg else if w = 1 then qVo c t.toNatClampNeg else if w = 2 then qBi c t.toNatClampNeg else qS c t.toNatClampNeg)) else -1
def yOff (c : JX) (o w : Int32) : Int32 := if jIsT (qN c 1) o && pIn w 0 2 then (if w = 0 then bitI (qS c 16) o else if w = 1 then jHel (qN c 0) (qS c) o else jVHe (qN c 0) (qSo c) (qVo c) (qS c) o) else -1
def yBill (c : JX) (b w : Int32) : Int32 := if pIn b 0 4 && pIn w 0 3 then (if w = 0 then jVot (qN c 0) (qVo c) (jVoi (qN c 0) (qSo c) (qS c) &&& jYes (qN c 0) (qBi c) (qS c) b) else if w = 1 then jVot (qN c 0) (qVo c) (jVoi (qN c 0) (qSo c) (qS c) &&& iv (jYes (qN c 0) (qBi c) (qS c) b)) else if w = 2 then b2i (jPas (qN c 0) (qSo c) (qVo c) (qBi c) (qS c) b) else jVoi (qN c 0) (qSo c) (qS c) &&& jYes (qN c 0) (qBi c) (qS c) b) else -1
def yNow (c : JX) (w : Int32) : Int32 := if pIn w 0 5 then (if 2 ≤ w then (if w = 2 then jVoi (qN c 0) (qSo c) (qS c) else if w = 3 then qS c 16 else if w = 4 then jMos (qN c 0) (qN c 1) (qSo c) (qVo c) (qS c) else nI (qUm c)) else qS c (17 + w.toNatClampNeg)) else -1
def ySways (c : JX) (b : Int32) : Int32 := if pIn b 0 4 then jSwy (qN c 0) (qSo c) (qVo c) (qBi c) (qS c) b else -1
def yFreeF (c : JX) : Nat → Int32 := fo (fun b z => z &&& iv (jSwy (qN c 0) (qSo c) (qVo c) (qBi c) (qS c) (nI b))) (jVoi (qN c 0) (qSo c) (qS c))
def yFree (c : JX) : Int32 := yFreeF c 5
def yDumF (c : JX) : Nat → Int32 := fo (fun t z => z ||| (if jSpk (qSo c) (qS c) t = true ∧ jDec (qN c 0) (qSo c) (qVo c) (qS c) t = 0 then sh1 (nI t) else 0)) 0
def yDum (c : JX) : Int32 := yDumF c (qN c 0)
def jFir (P : Nat → Bool) : Nat → Nat × Int32 := fo (fun i z => if P i then (z.1 + 1, if z.1 = 0 then nI i else z.2) else z) (0, -9)
theorem jFir_n (P : Nat → Bool) : ∀ n : Nat, (jFir P n).1 ≤ n
  | 0 => Nat.le_refl 0
  | n + 1 => by
    have h := jFir_n P n
    rw [jFir, fo_s, ← jFir]
    split
    · exact Nat.succ_le_succ h
    · omega
def yLeaP (c : JX) (i : Nat) : Bool := jLea (qN c 0) (qSo c) (qVo c) (qS c) (nI i)
def yLeast (c : JX) (w : Int32) : Int32 := if pIn w 0 1 then (if w = 0 then nI (jFir (yLeaP c) 128).1 else (jFir (yLeaP c) 128).2) else -1
def yTurnF (c : JX) (b : Int32) : Nat → Int32 := fo (fun i z => if nI i &&& iv (jVoi (qN c 0) (qSo c) (qS c)) = 0 ∧ (z = -9 ∨ ¬ jOnes z ≤ jOnes (nI i)) ∧ jPBy (qN c 0) (qVo c) (jVoi (qN c 0) (qSo c) (qS c)) (jYes (qN c 0) (qBi c) (qS c) b ^^^ nI i) = true then nI i else z) (-9)
def yTurn (c : JX) (b : Int32) : Int32 := if pIn b 0 4 then yTurnF c b 128 else -1
def yCount (c : JX) (w : Int32) : Int32 := if pIn w 0 2 then nI (qN c w.toNatClampNeg) else if w = 3 then nI (qRm c) else if w = 4 then nI (qTy c) else -1
def yRecord (c : JX) (b p : Int32) : Int32 × JX := if pIn b 0 4 && pIn p 0 1 then (if qRm c = 6 then (-3, c) else (nI (qRm c + 1), wRm (wRi (wRb c (upd (qRb c) (qRm c) b)) (upd (qRi c) (qRm c) p)) (qRm c + 1))) else (-1, c)
def yForget (c : JX) : Int32 × JX := (nI (qRm c), wRm c 0)
def yUndo (c : JX) : Int32 × JX := if qUm c = 0 then (-2, c) else (nI (qUm c - 1), wS (wUm c (qUm c - 1)) (jTake (qUn c) (qUm c - 1) (qS c)))
def yKeep (c : JX) (i : Int32) : Int32 × JX := if pIn i 0 1 then (qS c 17, wIk (wKe c (jPutU (qKe c) (qS c) i.toNatClampNeg)) (va_up (qIk c) i.toNatClampNeg true)) else (-1, c)
def yBack (c : JX) (i : Int32) : Int32 × JX := if pIn i 0 1 then (if qIk c i.toNatClampNeg then (jTake (qKe c) i.toNatClampNeg (qS c) 17, wUm (wS c (jTake (qKe c) i.toNatClampNeg (qS c))) 0) else (-2, c)) else (-1, c)
def yHands (c : JX) (t o : Int32) : Int32 × JX := if jIsT (qN c 0) t && jIsT (qN c 1) o then (qS c t.toNatClampNeg, wS (yNote c) (upd (qS c) t.toNatClampNeg o)) else (-1, c)
def yWashes (c : JX) (t : Int32) : Int32 × JX := if jIsT (qN c 0) t then (if bitI (qS c 14) t = 1 then (-2, c) else (jOnes (qS c 14 ||| sh1 t), wS (yNote c) (upd (qS c) 14 (qS c 14 ||| sh1 t)))) else (-1, c)
def yHangs (c : JX) (t : Int32) : Int32 × JX := if jIsT (qN c 0) t then (if bitI (qS c 14) t = 0 then (-2, c) else (bitI (qS c 15 ^^^ (if qSo c t.toNatClampNeg = 2 then sh1 t else 0)) t, wS (yNote c) (upd (upd (qS c) 14 (qS c 14 &&& iv (sh1 t))) 15 (qS c 15 ^^^ (if qSo c t.toNatClampNeg = 2 then sh1 t else 0))))) else (-1, c)
def yWarms (c : JX) (t : Int32) : Int32 × JX := if jIsT (qN c 0) t then (if qSo c t.toNatClampNeg = 1 then (qS c (7 + t.toNatClampNeg), wS (yNote c) (upd (qS c) (7 + t.toNatClampNeg) (nI (qN c 2)))) else (-2, c)) else (-1, c)
def ySickens (c : JX) (o i : Int32) : Int32 × JX := if jIsT (qN c 1) o && pIn i 0 1 then (bitI (qS c 16) o, wS (yNote c) (upd (qS c) 16 ((qS c 16 &&& iv (sh1 o)) ||| (i <<< (o &&& 31))))) else (-1, c)
theorem pIn_n {t : Int32} {m : Nat} {M : Int32} (h : pIn t 0 M = true) (hM : M.toInt = m) : ∃ j : Nat, j ≤ m ∧ t = nI j := by
  simp only [pIn, Bool.and_eq_true, Bool.not_eq_true', decide_eq_false_iff_not] at h
  exact nI_of2 hM h.1 (Int32.not_lt.mp h.2)

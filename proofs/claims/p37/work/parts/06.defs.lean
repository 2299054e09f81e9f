/-! what the small methods answer, in the order of their code -/
def ar (P Q : Nat → Int32) (k : Nat) : Int32 := P k * P k + Q k * Q k
def shR (P : Nat → Int32) (k : Nat) : Nat → Nat → Int32
  | 0 => P
  | d + 1 => upd (shR P k d) (k + d) (shR P k d (k + d + 1))
def reI (p q a b : Int32) : Int32 := a * p + b * q
def imI (p q a b : Int32) : Int32 := b * p - a * q
def pnI (pi qi pj qj a b c d : Int32) : Int32 := (reI pj qj a b - reI pi qi c d) * (reI pj qj a b - reI pi qi c d) + (imI pj qj a b - imI pi qi c d) * (imI pj qj a b - imI pi qi c d)
def dvL (x y : Int64) : Int64 := if y ≤ 0 then 0 else x / y
def gcdF : Nat → Int64 → Int64 → Int64
  | 0, a, _ => a
  | n + 1, a, b => if b = 0 then a else gcdF n b (a - a / b * b)
theorem lk_ex {α : Type} (a : α) : ∃ x : α, x = a := ⟨a, rfl⟩
/-- the same value, that no comparison looks into -/
noncomputable def lk {α : Type} (a : α) : α := Classical.choose (lk_ex a)
theorem lk_eq {α : Type} (a : α) : lk a = a := Classical.choose_spec (lk_ex a)
noncomputable def gcL (a b : Int64) : Int64 := lk (gcdF 100 a b)
theorem gcL_eq (a b : Int64) : gcL a b = gcdF 100 a b := lk_eq _
def btF : Nat → Int32
  | 0 => 0
  | j + 1 => nI (2 ^ j)
def rtF (sq : Int64) : Nat → Int32 → Int32
  | 0, r => r
  | j + 1, r => if sq < (r + btF (j + 1)).toInt64 * (r + btF (j + 1)).toInt64 then rtF sq j r else rtF sq j (r + btF (j + 1))
noncomputable def rtL (sq : Int64) : Int32 := lk (rtF sq 15 0)
theorem rtL_eq (sq : Int64) : rtL sq = rtF sq 15 0 := lk_eq _
theorem btF_shr : ∀ j, j < 15 → btF (j + 1) >>> ((1 : Int32) &&& 31) = btF j := by decide
theorem btF_pos : ∀ j, j < 16 → (btF j ≤ 0 ↔ j = 0) := by decide
def lfL (a : Int64) (f : Int32) : Int64 := dvL (a + f.toInt64 * f.toInt64 - 1) (f.toInt64 * f.toInt64)
def glL (a : Int64) (f : Int32) : Int64 := dvL a (f.toInt64 * f.toInt64)
def kdI (v : Int32) (lf gl : Int64) : Int32 := if v = 0 then 0 else if v.toInt64 < lf then (if gl < v.toInt64 then 3 else 2) else 1
noncomputable def prI (ar : Int64) (v : Int32) : Int32 := rtL (dvL ar v.toInt64)
def bcF (F : Nat → Int32) (lf gl : Int64) : Nat → Int32
  | 0 => 0
  | k + 1 => if kdI (F k) lf gl = 3 then bcF F lf gl k + 4 else bcF F lf gl k
def wlF (F : Nat → Int32) (lf gl : Int64) : Nat → Int32
  | 0 => 0
  | k + 1 => if kdI (F k) lf gl = 3 then (if wlF F lf gl k = 0 then F k else if wlF F lf gl k ≤ F k then wlF F lf gl k else F k) else wlF F lf gl k
def cwF (F : Nat → Int32) (v : Int32) : Nat → Int32
  | 0 => 0
  | k + 1 => if F k = v then cwF F v k + 4 else cwF F v k
def insW (f : Nat → Int32) (v : Int32) : Nat → Nat → Int32
  | 0 => upd f 0 v
  | q + 1 => if f q ≤ v then upd f (q + 1) v else insW (upd f (q + 1) (f q)) v q
def srF (F : Nat → Int32) : Nat → Nat → Int32
  | 0 => F
  | j + 1 => insW (srF F j) (srF F j (j + 1)) (j + 1)
def dnF (F : Nat → Int32) : Nat → Int32
  | 0 => 0
  | k + 1 => if k ≠ 0 ∧ F k = F (k - 1) then dnF F k else dnF F k + 1
def naF (F : Nat → Int32) (rk : Int32) : Nat → Nat → Int32 → Int32
  | 0, _, _ => -4
  | u + 1, k, nx => if k ≠ 0 ∧ F k = F (k - 1) then naF F rk u (k + 1) nx else if nx = rk then F k else naF F rk u (k + 1) (nx + 1)
def prRe (P Q : Nat → Int32) (i j : Nat) : Int32 := P i * P j - Q i * Q j
def prIm (P Q : Nat → Int32) (i j : Nat) : Int32 := P i * Q j + Q i * P j
def appF (F : Nat → Int32) (z : Nat) : List Int32 → Nat → Int32
  | [] => F
  | v :: L => appF (upd F z v) (z + 1) L
theorem appF_snoc (v : Int32) : ∀ (L : List Int32) (F : Nat → Int32) (z : Nat), appF F z (L ++ [v]) = upd (appF F z L) (z + L.length) v
  | [], _, _ => rfl
  | w :: L, F, z => by
    show appF (upd F z w) (z + 1) (L ++ [v]) = upd (appF (upd F z w) (z + 1) L) (z + (L.length + 1)) v
    rw [appF_snoc v L (upd F z w) (z + 1), show z + 1 + L.length = z + (L.length + 1) by omega]
theorem appF_app : ∀ (L M : List Int32) (F : Nat → Int32) (z : Nat), appF F z (L ++ M) = appF (appF F z L) (z + L.length) M
  | [], _, _, _ => rfl
  | w :: L, M, F, z => by
    show appF (upd F z w) (z + 1) (L ++ M) = appF (appF (upd F z w) (z + 1) L) (z + (L.length + 1)) M
    rw [appF_app L M (upd F z w) (z + 1), show z + 1 + L.length = z + (L.length + 1) by omega]
/-- the norms that addAllFor adds: rows k, and m of the next one; w the order -/
def lnI (pi qi fx fy : Int32) (w : Nat) (x y : Int) : List Int32 := if x = 0 ∧ y = 0 then [] else [(fx - reI pi qi (iI x) (iI y)) * (fx - reI pi qi (iI x) (iI y)) + (fy - imI pi qi (iI x) (iI y)) * (fy - imI pi qi (iI x) (iI y))]
def lnRow (pi qi fx fy : Int32) (w : Nat) (x : Int) : Nat → List Int32
  | 0 => []
  | m + 1 => lnRow pi qi fx fy w x m ++ lnI pi qi fx fy w x ((m : Int) - w)
def lnAll (pi qi fx fy : Int32) (w : Nat) : Nat → List Int32
  | 0 => []
  | k + 1 => lnAll pi qi fx fy w k ++ lnRow pi qi fx fy w ((k : Int) - w) (2 * w + 1)
def lnLen (w k m : Nat) : Nat := k * (2 * w + 1) + m - (if w * (2 * w + 1) + w < k * (2 * w + 1) + m then 1 else 0)

/-! what the methods of the planner answer -/
abbrev GD : Type := Nat × (Nat → Int32) × Int64 × Int64 × Int64
abbrev SD : Type := Nat × (Nat → Int32) × (Nat → Int32) × Int32 × Int32 × Int32
abbrev hpP (n : Nat) (i j : Int32) : Prop := hv n i ∧ hv n j ∧ i < j
abbrev fpP (o a b : Int32) : Prop := -o ≤ a ∧ a ≤ o ∧ -o ≤ b ∧ b ≤ o ∧ (¬ a = 0 ∨ ¬ b = 0)
theorem hp_of {n i j : Nat} (h1 : i < j) (h2 : j < n) (hn : n ≤ 100) : hpP n (nI i) (nI j) := ⟨hv_of (by omega) hn, hv_of h2 hn, nI_lt h1 (by omega)⟩
def cpF (src dst : Nat → Int32) : Nat → Nat → Int32
  | 0 => dst
  | k + 1 => upd (cpF src dst k) k (src k)
theorem cpF_at (src dst : Nat → Int32) : ∀ k j : Nat, j < k → cpF src dst k j = src j
  | 0, _, h => absurd h (Nat.not_lt_zero _)
  | k + 1, j, h => by
    show upd (cpF src dst k) k (src k) j = src j
    by_cases e : j = k
    · rw [e, pk_us]
    · rw [pk_un e, cpF_at src dst k j (by omega)]
noncomputable def tlL (P Q : Nat → Int32) (k : Nat) : Int64 := dvL (ar P Q k).toInt64 (gcL (P k).toInt64 (Q k).toInt64)
noncomputable def ctF (P Q : Nat → Int32) : Nat → Int64
  | 0 => 1
  | k + 1 => dvL (ctF P Q k) (gcL (ctF P Q k) (tlL P Q k)) * tlL P Q k
def pbF (P Q : Nat → Int32) (k : Nat) : Nat → Int32
  | 0 => 0
  | j + 1 => if Q j * P k < Q k * P j then pbF P Q k j + 1 else if Q j * P k = Q k * P j then (if j < k then pbF P Q k j + 1 else pbF P Q k j) else pbF P Q k j
def baF (P Q : Nat → Int32) (n : Nat) (rk : Int32) : Nat → Nat → Int32
  | 0, _ => -4
  | u + 1, k => if pbF P Q k n = rk then nI k else baF P Q n rk u (k + 1)
/-! the history: what a record leaves -/
def rcF {α : Type} (f : Nat → α) (q : Nat) : Nat → α := if q = 5 then (fun j => if j = 4 then f 0 else f (j + 1)) else f
def rcD (D : Nat → SD) (q : Nat) (d : SD) : Nat → SD := if q = 5 then (fun j => if j = 4 then d else D (j + 1)) else va_up D q d
def rcQ (q : Nat) : Nat := if q = 5 then 5 else q + 1
def rcA (hA : Nat → Option Nat) (ha : Nat → Nat) (q : Nat) : Nat → Option Nat := if q = 5 then va_up (va_up (va_up (va_up (va_up hA 0 (some (ha 1))) 1 (some (ha 2))) 2 (some (ha 3))) 3 (some (ha 4))) 4 (some (ha 0)) else hA
theorem rcA_at {hA : Nat → Option Nat} {ha : Nat → Nat} (h : ∀ j, j < 5 → hA j = some (ha j)) {q : Nat} : ∀ j, j < 5 → rcA hA ha q j = some (rcF ha q j) := by
  intro j hj
  unfold rcA rcF
  by_cases hq : q = 5
  · rw [if_pos hq, if_pos hq]
    match j, hj with
    | 0, _ => rfl
    | 1, _ => rfl
    | 2, _ => rfl
    | 3, _ => rfl
    | 4, _ => rfl
  · rw [if_neg hq, if_neg hq]
    exact h j hj
/-! the ten pairs and triples -/
def giI (gi : Nat) : Nat := ([0, 0, 0, 1, 1, 2, 0, 0, 0, 1] : List Nat).getD gi 0
def giJ (gi : Nat) : Nat := ([1, 2, 3, 2, 3, 3, 1, 1, 2, 2] : List Nat).getD gi 0
def giK (gi : Nat) : Nat := ([4, 4, 4, 4, 4, 4, 2, 3, 3, 3] : List Nat).getD gi 0
def giT (gi : Nat) : Nat := ([1, 2, 3, 2, 3, 3, 2, 3, 3, 3] : List Nat).getD gi 0
theorem gi_fp : ∀ gi, gi < 10 → fpF (gN gi) 4 0 = giI gi ∧ fpF (gN gi) (4 - (giI gi + 1)) (giI gi + 1) = giJ gi ∧ fpF (gN gi) (4 - (giJ gi + 1)) (giJ gi + 1) = giK gi := by decide
theorem gi_top : ∀ gi, gi < 10 → ∀ n, n ≤ 4 → (gN gi < (1 : Int32) <<< (nI n &&& 31) ↔ giT gi < n) := by decide
theorem gi_lt : ∀ gi, gi < 10 → giI gi ≤ giT gi ∧ giJ gi ≤ giT gi ∧ giI gi < giJ gi ∧ (gi < 6 → giK gi = 4) ∧ (6 ≤ gi → giK gi = giT gi ∧ giJ gi < giK gi) := by decide
def gpL (P Q : Nat → Int32) (w gi : Nat) : List Int32 := if gi < 6 then npAll (P (giI gi)) (Q (giI gi)) (P (giJ gi)) (Q (giJ gi)) w w else tnAll (prRe P Q (giJ gi) (giK gi)) (prIm P Q (giJ gi) (giK gi)) (prRe P Q (giI gi) (giK gi)) (prIm P Q (giI gi) (giK gi)) (prRe P Q (giI gi) (giJ gi)) (prIm P Q (giI gi) (giJ gi)) 4
def gpA (P Q : Nat → Int32) (gi : Nat) : Int64 := if gi < 6 then (ar P Q (giI gi)).toInt64 * (ar P Q (giJ gi)).toInt64 else (ar P Q (giI gi)).toInt64 * (ar P Q (giJ gi)).toInt64 * (ar P Q (giK gi)).toInt64
theorem np_len (pi qi pj qj : Int32) {w : Nat} (hw : w = 1 ∨ w = 2) : 1 ≤ (npAll pi qi pj qj w w).length ∧ (npAll pi qi pj qj w w).length ≤ 144 := by
  rw [npAll_len]
  rcases hw with rfl | rfl <;> decide
theorem gp_len (P Q : Nat → Int32) {w gi : Nat} (hw : w = 1 ∨ w = 2) : (gpL P Q w gi).length ≤ 144 := by
  unfold gpL
  by_cases h : gi < 6
  · rw [if_pos h]; exact (np_len _ _ _ _ hw).2
  · rw [if_neg h, tnAll_len]; decide
/-- how many bands a pair or triple has -/
def bcP (P Q : Nat → Int32) (w : Nat) (f ll : Int32) (gi : Nat) : Int32 := bcF (lsF (gpL P Q w gi)) (lfL (gpA P Q gi) f) (glL (gpA P Q gi) ll) (gpL P Q w gi).length
def bgF (P Q : Nat → Int32) (w : Nat) (f ll : Int32) (n : Nat) (wt : Int32) : Nat → Int32
  | 0 => 0
  | gi + 1 => if gN gi < (1 : Int32) <<< (nI n &&& 31) then (if gN gi &&& wt = wt then bgF P Q w f ll n wt gi + bcP P Q w f ll gi else bgF P Q w f ll n wt gi) else bgF P Q w f ll n wt gi
noncomputable def wpI (P Q : Nat → Int32) (w : Nat) (f ll : Int32) (n gi : Nat) : Int32 := if gN gi < (1 : Int32) <<< (nI n &&& 31) then prI (gpA P Q gi) (wlF (lsF (gpL P Q w gi)) (lfL (gpA P Q gi) f) (glL (gpA P Q gi) ll) (gpL P Q w gi).length) else 0
noncomputable def wsF (P Q : Nat → Int32) (w : Nat) (f ll : Int32) (n : Nat) : Nat → Int32 × Int32
  | 0 => (-4, 0)
  | gi + 1 => if wpI P Q w f ll n gi ≤ (wsF P Q w f ll n gi).2 then wsF P Q w f ll n gi else (gN gi, wpI P Q w f ll n gi)
theorem wsF_of (P Q : Nat → Int32) (w : Nat) (f ll : Int32) (n : Nat) : ∀ k : Nat, ((wsF P Q w f ll n k).1 = -4 ∧ (wsF P Q w f ll n k).2 = 0) ∨ ∃ gi, gi < k ∧ (wsF P Q w f ll n k).1 = gN gi ∧ (wsF P Q w f ll n k).2 = wpI P Q w f ll n gi
  | 0 => Or.inl ⟨rfl, rfl⟩
  | k + 1 => by
    by_cases h : wpI P Q w f ll n k ≤ (wsF P Q w f ll n k).2
    · rw [show wsF P Q w f ll n (k + 1) = wsF P Q w f ll n k from if_pos h]
      rcases wsF_of P Q w f ll n k with h1 | ⟨gi, h1, h2⟩
      · exact Or.inl h1
      · exact Or.inr ⟨gi, by omega, h2⟩
    · rw [show wsF P Q w f ll n (k + 1) = (gN k, wpI P Q w f ll n k) from if_neg h]
      exact Or.inr ⟨k, by omega, rfl, rfl⟩
theorem gN_ne : ∀ gi, gi < 10 → ¬ gN gi = -4 := by decide
/-- the bands of a pair, by its own plates -/
def pbI (P Q : Nat → Int32) (w : Nat) (f ll : Int32) (i j : Nat) : Int32 := bcF (lsF (npAll (P i) (Q i) (P j) (Q j) w w)) (lfL ((ar P Q i).toInt64 * (ar P Q j).toInt64) f) (glL ((ar P Q i).toInt64 * (ar P Q j).toInt64) ll) (npAll (P i) (Q i) (P j) (Q j) w w).length
def wqI (P Q : Nat → Int32) (w : Nat) (f ll : Int32) (i : Nat) (s0 : Int32 × Int32) : Nat → Int32 × Int32
  | 0 => s0
  | d + 1 => if pbI P Q w f ll i (i + 1 + d) ≤ (wqI P Q w f ll i s0 d).2 then wqI P Q w f ll i s0 d else (10 * nI i + nI (i + 1 + d), pbI P Q w f ll i (i + 1 + d))
def wqO (P Q : Nat → Int32) (w : Nat) (f ll : Int32) (n : Nat) : Nat → Int32 × Int32
  | 0 => (-4, -1)
  | i + 1 => wqI P Q w f ll i (wqO P Q w f ll n i) (n - (i + 1))
/-- the search: best, fewest, nearest behind the first q of the second numbers with the first number x -/
def seS (P Q : Nat → Int32) (w : Nat) (f ll : Int32) (n k : Nat) (low high : Int32) (x y : Nat) (t : Int32 × Int32 × Int32) : Int32 × Int32 × Int32 :=
  if nI x * nI x + nI y * nI y < low then t else if nI x * nI x + nI y * nI y ≤ high then
    (if t.1 = -4 ∨ bgF (upd P k (nI x)) (upd Q k (nI y)) w f ll n (1 <<< (nI k &&& 31)) 10 < t.2.1 ∨ (bgF (upd P k (nI x)) (upd Q k (nI y)) w f ll n (1 <<< (nI k &&& 31)) 10 = t.2.1 ∧ absI ((nI x * nI x + nI y * nI y) - ar P Q k) < t.2.2)
      then (100 * nI x + nI y, bgF (upd P k (nI x)) (upd Q k (nI y)) w f ll n (1 <<< (nI k &&& 31)) 10, absI ((nI x * nI x + nI y * nI y) - ar P Q k)) else t) else t
def seR (P Q : Nat → Int32) (w : Nat) (f ll : Int32) (n k : Nat) (low high : Int32) (x : Nat) (t : Int32 × Int32 × Int32) : Nat → Int32 × Int32 × Int32
  | 0 => t
  | y + 1 => seS P Q w f ll n k low high x y (seR P Q w f ll n k low high x t y)
def seA (P Q : Nat → Int32) (w : Nat) (f ll : Int32) (n k : Nat) (low high : Int32) : Nat → Int32 × Int32 × Int32
  | 0 => (-4, 0, 0)
  | x + 1 => seR P Q w f ll n k low high (x + 1) (seA P Q w f ll n k low high x) 21
def seL (P Q : Nat → Int32) (w : Nat) (f ll : Int32) (n k : Nat) (low high : Int32) : Int32 := (seA P Q w f ll n k low high 20).1

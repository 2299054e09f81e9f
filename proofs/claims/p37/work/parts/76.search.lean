/-! the search finds one in the range that is no worse than the plate's own -/
def cXY (P Q : Nat → Int32) (w : Nat) (f ll : Int32) (n k x y : Nat) : Nat := cS (upd P k (nI x)) (upd Q k (nI y)) w f ll n (onG k) 10
def cRR (P Q : Nat → Int32) (w : Nat) (f ll : Int32) (n k : Nat) : Nat := cS P Q w f ll n (fun z => !onG k z) 10
theorem cXY_n {P Q : Nat → Int32} {n w k x y : Nat} {f ll : Int32} (h : VP P Q n) (hv : LV f ll) (hw : w = 1 ∨ w = 2) (hn : n ≤ 4) (hk : k < n) (hx1 : 1 ≤ x) (hx : x ≤ 20) (hy : y ≤ 20) :
    cXY P Q w f ll n k x y ≤ 5760 ∧ bgF (upd P k (nI x)) (upd Q k (nI y)) w f ll n ((1 : Int32) <<< (nI k &&& 31)) 10 = nI (cXY P Q w f ll n k x y)
      ∧ bgF (upd P k (nI x)) (upd Q k (nI y)) w f ll n 0 10 = nI (cXY P Q w f ll n k x y + cRR P Q w f ll n k) := by
  have hV := VP_upd h k x y hx1 hx hy
  have a := all_ok hV hv hw hn
  have b := bg_n ((1 : Int32) <<< (nI k &&& 31)) hV hv hw hn 10 (Nat.le_refl _)
  have c := cS_split (upd P k (nI x)) (upd Q k (nI y)) w f ll n (onG k) 10
  have d := cS_le (P := upd P k (nI x)) (Q := upd Q k (nI y)) hw f ll n (onG k) 10
  rw [cS_cm 10 (fun z hz => wt_on k (by omega) z hz)] at b
  rw [cS_off] at c
  exact ⟨d, b, by rw [a.1, c]; rfl⟩
/-- what is found behind some of the vectors; vis: which have been looked at -/
def sI (P Q : Nat → Int32) (w : Nat) (f ll : Int32) (n k lo hi : Nat) (vis : Nat → Nat → Prop) (t : Int32 × Int32 × Int32) : Prop :=
  (t = (-4, 0, 0) ∧ ∀ x y, vis x y → ¬ (lo ≤ x * x + y * y ∧ x * x + y * y ≤ hi)) ∨
  ∃ x y : Nat, (1 ≤ x ∧ x ≤ 20 ∧ y ≤ 20) ∧ (lo ≤ x * x + y * y ∧ x * x + y * y ≤ hi) ∧ t.1 = nI (100 * x + y) ∧ t.2.1 = nI (cXY P Q w f ll n k x y) ∧ ∀ x' y', vis x' y' → lo ≤ x' * x' + y' * y' → x' * x' + y' * y' ≤ hi → cXY P Q w f ll n k x y ≤ cXY P Q w f ll n k x' y'
theorem sI_step {P Q : Nat → Int32} {n w k x y lo hi : Nat} {f ll : Int32} (h : VP P Q n) (hv : LV f ll) (hw : w = 1 ∨ w = 2) (hn : n ≤ 4) (hk : k < n) (hlo : lo ≤ 1000) (hhi : hi ≤ 1000) (hx1 : 1 ≤ x) (hx : x ≤ 20) (hy : y ≤ 20) {vis vis' : Nat → Nat → Prop} (hvis : ∀ a b, vis' a b → vis a b ∨ (a = x ∧ b = y)) (hvb : ∀ a b, vis a b → 1 ≤ a ∧ a ≤ 20 ∧ b ≤ 20) {t : Int32 × Int32 × Int32}
    (hI : sI P Q w f ll n k lo hi vis t) : sI P Q w f ll n k lo hi vis' (seS P Q w f ll n k (nI lo) (nI hi) x y t) := by
  obtain ⟨c1, c2, _⟩ := cXY_n (f := f) (ll := ll) (w := w) h hv hw hn hk hx1 hx hy
  have bx : x * x ≤ 400 := Nat.mul_le_mul hx hx
  have by1 : y * y ≤ 400 := Nat.mul_le_mul hy hy
  have ea : nI x * nI x + nI y * nI y = nI (x * x + y * y) := by rw [pk_mul, pk_mul, nI_add]
  unfold seS
  rw [c2, ea, h100]
  generalize absI (nI (x * x + y * y) - ar P Q k) = dd
  by_cases h1 : x * x + y * y < lo
  · rw [if_pos ((nI_ltI (by omega) (by omega)).mpr h1)]
    rcases hI with ⟨i1, i2⟩ | ⟨x0, y0, b1, b2, i1, i2, i3⟩
    · refine Or.inl ⟨i1, fun a b hab => ?_⟩
      rcases hvis a b hab with q | ⟨q1, q2⟩
      · exact i2 a b q
      · rw [q1, q2]; omega
    · refine Or.inr ⟨x0, y0, b1, b2, i1, i2, fun a b hab g1 g2 => ?_⟩
      rcases hvis a b hab with q | ⟨q1, q2⟩
      · exact i3 a b q g1 g2
      · rw [q1, q2] at g1; omega
  · rw [if_neg (fun q => h1 ((nI_ltI (by omega) (by omega)).mp q))]
    by_cases h2 : x * x + y * y ≤ hi
    · rw [if_pos ((nI_leI (by omega) (by omega)).mpr h2)]
      rcases hI with ⟨i1, i2⟩ | ⟨x0, y0, b1, b2, i1, i2, i3⟩
      · rw [if_pos (show t.1 = -4 ∨ _ from Or.inl (by rw [i1]))]
        refine Or.inr ⟨x, y, ⟨hx1, hx, hy⟩, ⟨by omega, h2⟩, rfl, rfl, fun a b hab g1 g2 => ?_⟩
        rcases hvis a b hab with q | ⟨q1, q2⟩
        · exact absurd ⟨g1, g2⟩ (i2 a b q)
        · rw [q1, q2]; exact Nat.le_refl _
      · obtain ⟨d1, _, _⟩ := cXY_n (f := f) (ll := ll) (w := w) h hv hw hn hk b1.1 b1.2.1 b1.2.2
        have n4 : ¬ nI (100 * x0 + y0) = -4 := by
          intro q
          have q2 := congrArg Int32.toInt q
          rw [nI_toInt (by omega)] at q2
          have e4 : (-4 : Int32).toInt = -4 := rfl
          omega
        have hnew : ∀ q : cXY P Q w f ll n k x y ≤ cXY P Q w f ll n k x0 y0, sI P Q w f ll n k lo hi vis' (nI (100 * x + y), nI (cXY P Q w f ll n k x y), dd) := fun q => by
          refine Or.inr ⟨x, y, ⟨hx1, hx, hy⟩, ⟨by omega, h2⟩, rfl, rfl, fun a b hab g1 g2 => ?_⟩
          rcases hvis a b hab with q | ⟨q1, q2⟩
          · have := i3 a b q g1 g2
            omega
          · rw [q1, q2]; exact Nat.le_refl _
        by_cases c : t.1 = -4 ∨ nI (cXY P Q w f ll n k x y) < t.2.1 ∨ nI (cXY P Q w f ll n k x y) = t.2.1 ∧ dd < t.2.2
        · rw [if_pos c]
          refine hnew ?_
          rw [i1, i2] at c
          rcases c with c | c | c
          · exact absurd c n4
          · have := (nI_ltI (by omega) (by omega)).mp c
            omega
          · have := (nI_eq (by omega) (by omega)).mp c.1
            omega
        · rw [if_neg c]
          refine Or.inr ⟨x0, y0, b1, b2, i1, i2, fun a b hab g1 g2 => ?_⟩
          rcases hvis a b hab with q | ⟨q1, q2⟩
          · exact i3 a b q g1 g2
          · rw [q1, q2]
            rcases Nat.lt_or_ge (cXY P Q w f ll n k x y) (cXY P Q w f ll n k x0 y0) with z | z
            · exact absurd (Or.inr (Or.inl (by rw [i2]; exact (nI_ltI (by omega) (by omega)).mpr z))) c
            · exact z
    · rw [if_neg (fun q => h2 ((nI_leI (by omega) (by omega)).mp q))]
      rcases hI with ⟨i1, i2⟩ | ⟨x0, y0, b1, b2, i1, i2, i3⟩
      · refine Or.inl ⟨i1, fun a b hab => ?_⟩
        rcases hvis a b hab with q | ⟨q1, q2⟩
        · exact i2 a b q
        · rw [q1, q2]; omega
      · refine Or.inr ⟨x0, y0, b1, b2, i1, i2, fun a b hab g1 g2 => ?_⟩
        rcases hvis a b hab with q | ⟨q1, q2⟩
        · exact i3 a b q g1 g2
        · rw [q1, q2] at g2; omega
def vsR (x m : Nat) (a b : Nat) : Prop := 1 ≤ a ∧ a ≤ 20 ∧ b ≤ 20 ∧ (a < x ∨ (a = x ∧ b < m))
theorem sI_row {P Q : Nat → Int32} {n w k x lo hi : Nat} {f ll : Int32} (h : VP P Q n) (hv : LV f ll) (hw : w = 1 ∨ w = 2) (hn : n ≤ 4) (hk : k < n) (hlo : lo ≤ 1000) (hhi : hi ≤ 1000) (hx1 : 1 ≤ x) (hx : x ≤ 20) {t : Int32 × Int32 × Int32} (hI : sI P Q w f ll n k lo hi (vsR x 0) t) : ∀ m, m ≤ 21 → sI P Q w f ll n k lo hi (vsR x m) (seR P Q w f ll n k (nI lo) (nI hi) x t m)
  | 0, _ => hI
  | m + 1, hm => sI_step h hv hw hn hk hlo hhi hx1 hx (by omega) (fun a b hab => by
      unfold vsR at hab ⊢
      omega) (fun a b hab => by unfold vsR at hab; omega) (sI_row h hv hw hn hk hlo hhi hx1 hx hI m (by omega))
theorem sI_cg {P Q : Nat → Int32} {n w k lo hi : Nat} {f ll : Int32} {vis vis' : Nat → Nat → Prop} {t : Int32 × Int32 × Int32} (e : ∀ a b, vis' a b → vis a b) (hI : sI P Q w f ll n k lo hi vis t) : sI P Q w f ll n k lo hi vis' t := by
  rcases hI with ⟨i1, i2⟩ | ⟨x0, y0, b1, b2, i1, i2, i3⟩
  · exact Or.inl ⟨i1, fun a b q => i2 a b (e a b q)⟩
  · exact Or.inr ⟨x0, y0, b1, b2, i1, i2, fun a b q => i3 a b (e a b q)⟩
theorem sI_all {P Q : Nat → Int32} {n w k lo hi : Nat} {f ll : Int32} (h : VP P Q n) (hv : LV f ll) (hw : w = 1 ∨ w = 2) (hn : n ≤ 4) (hk : k < n) (hlo : lo ≤ 1000) (hhi : hi ≤ 1000) : ∀ x, x ≤ 20 → sI P Q w f ll n k lo hi (vsR (x + 1) 0) (seA P Q w f ll n k (nI lo) (nI hi) x)
  | 0, _ => Or.inl ⟨rfl, fun a b hab => by unfold vsR at hab; omega⟩
  | x + 1, hx => sI_cg (fun a b hab => by unfold vsR at hab ⊢; omega) (sI_row (x := x + 1) h hv hw hn hk hlo hhi (by omega) hx (sI_all h hv hw hn hk hlo hhi x (by omega)) 21 (Nat.le_refl _))
theorem upd_own (P : Nat → Int32) (k : Nat) : upd P k (P k) = P := funext (fun j => (upd_self P k j).symm)
/-- the best screen, where the plate's own area is in the range -/
theorem best_n {P Q : Nat → Int32} {n w k lo hi : Nat} {f ll : Int32} (h : VP P Q n) (hv : LV f ll) (hw : w = 1 ∨ w = 2) (hn : n ≤ 4) (hk : k < n) (h1 : lo ≤ aN P Q k) (h2 : aN P Q k ≤ hi) (h3 : hi ≤ 800) :
    ∃ x y C D : Nat, (1 ≤ x ∧ x ≤ 20 ∧ y ≤ 20) ∧ (lo ≤ x * x + y * y ∧ x * x + y * y ≤ hi) ∧ seL P Q w f ll n k (nI lo) (nI hi) = nI (100 * x + y) ∧ bgF P Q w f ll n 0 10 = nI D ∧ bgF (upd P k (nI x)) (upd Q k (nI y)) w f ll n 0 10 = nI C ∧ C ≤ D ∧ D ≤ 20000 := by
  have hI := sI_all (f := f) (ll := ll) (w := w) h hv hw hn hk (show lo ≤ 1000 by omega) (show hi ≤ 1000 by omega) 20 (Nat.le_refl _)
  obtain ⟨⟨e1, p1, p2⟩, e2, q2⟩ := pN_e h hk
  have ea : aN P Q k = pN P k * pN P k + pN Q k * pN Q k := by
    have z := ar_nI h hk
    have bp : pN P k * pN P k ≤ 400 := Nat.mul_le_mul p2 p2
    have bq : pN Q k * pN Q k ≤ 400 := Nat.mul_le_mul q2 q2
    have bA := aN_bd h hk
    unfold ar at z
    rw [e1, e2, pk_mul, pk_mul, nI_add] at z
    exact ((nI_eq (by omega) (by omega)).mp z).symm
  have hvis : vsR (20 + 1) 0 (pN P k) (pN Q k) := by unfold vsR; omega
  have cR := cS_le (P := P) (Q := Q) hw f ll n (fun z => !onG k z) 10
  change cRR P Q w f ll n k ≤ 5760 at cR
  unfold seL
  generalize seA P Q w f ll n k (nI lo) (nI hi) 20 = t at hI ⊢
  rcases hI with ⟨i1, i2⟩ | ⟨x0, y0, b1, b2, i1, i2, i3⟩
  · exact absurd ⟨by omega, by omega⟩ (i2 _ _ hvis)
  · obtain ⟨c1, c2, c3⟩ := cXY_n (f := f) (ll := ll) (w := w) h hv hw hn hk b1.1 b1.2.1 b1.2.2
    obtain ⟨d1, d2, d3⟩ := cXY_n (x := pN P k) (y := pN Q k) (f := f) (ll := ll) (w := w) h hv hw hn hk p1 p2 q2
    have i4 := i3 _ _ hvis (by omega) (by omega)
    rw [← e1, ← e2, upd_own, upd_own] at d3
    exact ⟨x0, y0, _, _, b1, b2, i1, d3, c3, by omega, by omega⟩

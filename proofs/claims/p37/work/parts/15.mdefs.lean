/-! the reference: what its row of twelve holds, and what its methods answer -/
def MR (M : Nat → Int32) (n : Nat) (P Q : Nat → Int32) (o f ll : Int32) : Prop := M 0 = nI n ∧ M 1 = o ∧ M 2 = f ∧ M 3 = ll ∧ ∀ k, k < n → M (4 + 2 * k) = P k ∧ M (4 + 2 * k + 1) = Q k
theorem bI_nar (q : Prop) [Decidable q] : narrow .boolean (.int (bI q)) = .int (bI q) := by
  by_cases h : q
  · rw [bI_pos h]; rfl
  · rw [bI_neg h]; rfl
theorem bI_iff {a b : Prop} [Decidable a] [Decidable b] (h : a ↔ b) : bI a = bI b := by
  by_cases hb : b
  · rw [bI_pos hb, bI_pos (h.mpr hb)]
  · rw [bI_neg hb, bI_neg (fun ha => hb (h.mp ha))]
theorem pl_iff {n : Nat} (hn : n ≤ 4) (i : Int32) : (0 ≤ i ∧ i ≤ nI n - 1) ↔ hv n i := by
  have e : nI n - 1 = iI ((n : Int) - 1) := by
    rw [← iI_nI]
    exact (Int32.ofInt_sub (n : Int) 1).symm
  show (0 ≤ i ∧ i ≤ nI n - 1) ↔ (0 ≤ i ∧ i < nI n)
  rw [e, ← iI_nI, Int32.le_iff_toInt_le (x := i), Int32.lt_iff_toInt_lt, i_z _ (by omega) (by omega), i_z _ (by omega) (by omega)]
  exact and_congr Iff.rfl (by omega)
theorem ix4 (k : Nat) : (4 : Int32) + 2 * nI k = nI (4 + 2 * k) := by
  rw [← nI_add, ← pk_mul]; rfl
/-- the greatest common divisor of two numbers that aren't negative -/
noncomputable def gcM (x y : Int64) : Int64 := lk (lN (Nat.gcd x.toInt.toNat y.toInt.toNat))
theorem gcM_eq (x y : Int64) : gcM x y = lN (Nat.gcd x.toInt.toNat y.toInt.toNat) := lk_eq _
theorem l_ex {x : Int64} (h : 0 ≤ x) : ∃ a : Nat, a < 2 ^ 63 ∧ x = lN a ∧ x.toInt.toNat = a := by
  obtain ⟨a, h1, h2⟩ := pk_lOf (Int64.not_lt.mpr h)
  exact ⟨a, h1, h2, by rw [h2, pk_lT h1]; rfl⟩
theorem l_ne0 {b : Nat} (hb : b < 2 ^ 63) (h : ¬ lN b = 0) : 0 < b := by
  rcases Nat.eq_zero_or_pos b with e | e
  · rw [e] at h; exact absurd rfl h
  · exact e
/-- the whole root -/
def isqF : Nat → Nat
  | 0 => 0
  | q + 1 => if (isqF q + 1) * (isqF q + 1) ≤ q + 1 then isqF q + 1 else isqF q
noncomputable def isq (q : Nat) : Nat := lk (isqF q)
theorem isqF_spec : ∀ q : Nat, isqF q * isqF q ≤ q ∧ q < (isqF q + 1) * (isqF q + 1)
  | 0 => ⟨Nat.le_refl _, by decide⟩
  | q + 1 => by
    obtain ⟨h1, h2⟩ := isqF_spec q
    show (if (isqF q + 1) * (isqF q + 1) ≤ q + 1 then isqF q + 1 else isqF q) * (if (isqF q + 1) * (isqF q + 1) ≤ q + 1 then isqF q + 1 else isqF q) ≤ q + 1 ∧ q + 1 < ((if (isqF q + 1) * (isqF q + 1) ≤ q + 1 then isqF q + 1 else isqF q) + 1) * ((if (isqF q + 1) * (isqF q + 1) ≤ q + 1 then isqF q + 1 else isqF q) + 1)
    by_cases h : (isqF q + 1) * (isqF q + 1) ≤ q + 1
    · rw [if_pos h]
      refine ⟨h, ?_⟩
      have e : (isqF q + 1 + 1) * (isqF q + 1 + 1) = (isqF q + 1) * (isqF q + 1) + 2 * isqF q + 3 := by
        simp only [Nat.add_mul, Nat.mul_add]; omega
      rw [e]; omega
    · rw [if_neg h]
      exact ⟨by omega, by omega⟩
theorem isq_spec (q : Nat) : isq q * isq q ≤ q ∧ q < (isq q + 1) * (isq q + 1) := by
  rw [show isq q = isqF q from lk_eq _]
  exact isqF_spec q
theorem sq_lt {a b : Nat} (h : a * a < b * b) : a < b := by
  rcases Nat.lt_or_ge a b with h1 | h1
  · exact h1
  · exact absurd h (Nat.not_lt.mpr (Nat.mul_le_mul h1 h1))
theorem isq_of {q r : Nat} (h1 : r * r ≤ q) (h2 : q < (r + 1) * (r + 1)) : isq q = r := by
  obtain ⟨h3, h4⟩ := isq_spec q
  have a : r < isq q + 1 := sq_lt (Nat.lt_of_le_of_lt h1 h4)
  have b : isq q < r + 1 := sq_lt (Nat.lt_of_le_of_lt h3 h2)
  omega
theorem isq_lt {q : Nat} (h : q < 360000000000000000) : isq q ≤ 600000000 := by
  have h1 := (isq_spec q).1
  have h2 : isq q < 600000001 := sq_lt (Nat.lt_of_le_of_lt h1 (Nat.lt_of_lt_of_le h (by decide)))
  omega
/-! pairs -/
def bsL (P Q : Nat → Int32) (i j : Nat) : Int64 := ((ar P Q i).toInt64 * (ar P Q j).toInt64) * ((ar P Q i).toInt64 * (ar P Q j).toInt64)
def psX (P Q : Nat → Int32) (i j : Nat) (a b c d : Int32) : Int64 := (a * P i - b * Q i).toInt64 * (ar P Q j).toInt64 - (c * P j - d * Q j).toInt64 * (ar P Q i).toInt64
def psY (P Q : Nat → Int32) (i j : Nat) (a b c d : Int32) : Int64 := (a * Q i + b * P i).toInt64 * (ar P Q j).toInt64 - (c * Q j + d * P j).toInt64 * (ar P Q i).toInt64
def psL (P Q : Nat → Int32) (i j : Nat) (a b c d : Int32) : Int64 := psX P Q i j a b c d * psX P Q i j a b c d + psY P Q i j a b c d * psY P Q i j a b c d
/-- the kind: above, below -/
def kdM (f ll : Int32) (x y : Int64) : Int32 :=
  if x = 0 then 0 else if f.toInt64 * f.toInt64 < y / x + (if 0 < y - y / x * x then 1 else 0) then (if y / x < ll.toInt64 * ll.toInt64 then 3 else 2) else 1
theorem kdM_ne {f ll : Int32} {x y : Int64} {v : Int32} (hv : ¬ v = 0) (h : kdM f ll x y = v) : ¬ x = 0 := fun e => hv (by rw [← h, kdM, if_pos e])
/-! triples -/
def ptV (x s p q : Int32) : Int32 := if x - x / 2 * 2 = 0 then (if s = 0 then p else q) else (if s = 0 then -q else p)
def ptI (x s p q : Int32) : Int32 := if x < 2 then ptV x s p q else -ptV x s p q
def tsP (P Q : Nat → Int32) (i j k : Nat) (x s : Int32) : Int64 :=
  (ptI (x / 16) s (P i) (Q i)).toInt64 * ((ar P Q j).toInt64 * (ar P Q k).toInt64) + (ptI (x / 4 - x / 4 / 4 * 4) s (P j) (Q j)).toInt64 * ((ar P Q i).toInt64 * (ar P Q k).toInt64) + (ptI (x - x / 4 * 4) s (P k) (Q k)).toInt64 * ((ar P Q i).toInt64 * (ar P Q j).toInt64)
def tsL (P Q : Nat → Int32) (i j k : Nat) (x : Int32) : Int64 := tsP P Q i j k x 0 * tsP P Q i j k x 0 + tsP P Q i j k x 1 * tsP P Q i j k x 1
def btL (P Q : Nat → Int32) (i j k : Nat) : Int64 := ((ar P Q i).toInt64 * (ar P Q j).toInt64 * (ar P Q k).toInt64) * ((ar P Q i).toInt64 * (ar P Q j).toInt64 * (ar P Q k).toInt64)
def b3S (f ll : Int32) (y x : Int64) (t : Int32 × Int64) : Int32 × Int64 := if kdM f ll x y = 3 then (t.1 + 1, if y / x ≤ t.2 then t.2 else y / x) else t
def b3F (P Q : Nat → Int32) (f ll : Int32) (i j k : Nat) : Nat → Int32 × Int64
  | 0 => (0, 0)
  | x + 1 => b3S f ll (btL P Q i j k) (tsL P Q i j k (nI x)) (b3F P Q f ll i j k x)
/-! all combinations of a pair, by their code -/
def wdI (w : Nat) : Int32 := 2 * nI w + 1
def cdA (w : Nat) (x : Int32) : Int32 := x / (wdI w * wdI w * wdI w) - nI w
def cdB (w : Nat) (x : Int32) : Int32 := (x / (wdI w * wdI w) - x / (wdI w * wdI w) / wdI w * wdI w) - nI w
def cdC (w : Nat) (x : Int32) : Int32 := (x / wdI w - x / wdI w / wdI w * wdI w) - nI w
def cdD (w : Nat) (x : Int32) : Int32 := (x - x / wdI w * wdI w) - nI w
theorem wd_ne {w : Nat} (hw : w = 1 ∨ w = 2) : ¬ wdI w = 0 ∧ ¬ wdI w * wdI w = 0 ∧ ¬ wdI w * wdI w * wdI w = 0 := by
  rcases hw with rfl | rfl <;> decide
def wd4 (w : Nat) : Nat := (2 * w + 1) * (2 * w + 1) * (2 * w + 1) * (2 * w + 1)
theorem wd4_eq {w : Nat} (hw : w = 1 ∨ w = 2) : wdI w * wdI w * wdI w * wdI w = nI (wd4 w) := by
  rcases hw with rfl | rfl <;> decide
def okS (f ll kd : Int32) (y x : Int64) (t : Int32 × Int64) : Int32 × Int64 := if kdM f ll x y = kd then (t.1 + 1, if kd = 3 then (if y / x ≤ t.2 then t.2 else y / x) else t.2) else t
def okP (w : Nat) (x : Int32) : Prop := (¬ cdA w x = 0 ∨ ¬ cdB w x = 0) ∧ (¬ cdC w x = 0 ∨ ¬ cdD w x = 0)
def okF (P Q : Nat → Int32) (w : Nat) (f ll : Int32) (i j : Nat) (kd : Int32) : Nat → Int32 × Int64
  | 0 => (0, 0)
  | x + 1 => if ¬ cdA w (nI x) = 0 ∨ ¬ cdB w (nI x) = 0 then (if ¬ cdC w (nI x) = 0 ∨ ¬ cdD w (nI x) = 0 then okS f ll kd (bsL P Q i j) (psL P Q i j (cdA w (nI x)) (cdB w (nI x)) (cdC w (nI x)) (cdD w (nI x))) (okF P Q w f ll i j kd x) else okF P Q w f ll i j kd x) else okF P Q w f ll i j kd x
/-! the squares of a pair, in a row -/
def insL (f : Nat → Int64) (v : Int64) : Nat → Nat → Int64
  | 0 => vp_updL f 0 v
  | q + 1 => if f q ≤ v then vp_updL f (q + 1) v else insL (vp_updL f (q + 1) (f q)) v q
def insA (F : Nat → Int64) (z : Nat) : List Int64 → Nat → Int64
  | [] => F
  | v :: L => insA (insL F v z) (z + 1) L
theorem insA_snoc (v : Int64) : ∀ (L : List Int64) (F : Nat → Int64) (z : Nat), insA F z (L ++ [v]) = insL (insA F z L) v (z + L.length)
  | [], _, _ => rfl
  | w :: L, F, z => by
    show insA (insL F w z) (z + 1) (L ++ [v]) = insL (insA (insL F w z) (z + 1) L) v (z + (L.length + 1))
    rw [insA_snoc v L (insL F w z) (z + 1), show z + 1 + L.length = z + (L.length + 1) by omega]
theorem insA_app : ∀ (L N : List Int64) (F : Nat → Int64) (z : Nat), insA F z (L ++ N) = insA (insA F z L) (z + L.length) N
  | [], _, _, _ => rfl
  | w :: L, N, F, z => by
    show insA (insL F w z) (z + 1) (L ++ N) = insA (insA (insL F w z) (z + 1) L) (z + (L.length + 1)) N
    rw [insA_app L N (insL F w z) (z + 1), show z + 1 + L.length = z + (L.length + 1) by omega]
theorem insA_app0 (L N : List Int64) (F : Nat → Int64) : insA F 0 (L ++ N) = insA (insA F 0 L) L.length N := by rw [insA_app, Nat.zero_add]
/-- a square of numbers around 0, without the 0 in the middle: rows k, and mm of the next one -/
def sqI {α : Type} (h : Int → Int → List α) (x y : Int) : List α := if x = 0 ∧ y = 0 then [] else h x y
def sqRow {α : Type} (h : Int → Int → List α) (w : Nat) (x : Int) : Nat → List α
  | 0 => []
  | mm + 1 => sqRow h w x mm ++ sqI h x ((mm : Int) - (w : Int))
def sqAll {α : Type} (h : Int → Int → List α) (w : Nat) : Nat → List α
  | 0 => []
  | k + 1 => sqAll h w k ++ sqRow h w ((k : Int) - (w : Int)) (2 * w + 1)
theorem sqI_len {α : Type} {h : Int → Int → List α} {c : Nat} (hc : ∀ x y, (h x y).length = c) (x y : Int) : (sqI h x y).length = if x = 0 ∧ y = 0 then 0 else c := by
  unfold sqI
  by_cases e : x = 0 ∧ y = 0
  · rw [if_pos e, if_pos e]; rfl
  · rw [if_neg e, if_neg e, hc]
theorem sqRow_len {α : Type} {h : Int → Int → List α} {c : Nat} (hc : ∀ x y, (h x y).length = c) (w : Nat) (x : Int) : ∀ m : Nat, (sqRow h w x m).length = (m - (if x = 0 ∧ w < m then 1 else 0)) * c
  | 0 => by
    rw [if_neg (by omega), Nat.zero_sub, Nat.zero_mul]; rfl
  | m + 1 => by
    show (sqRow h w x m ++ sqI h x ((m : Int) - (w : Int))).length = _
    rw [List.length_append, sqRow_len hc w x m, sqI_len hc]
    by_cases hx : x = 0
    · by_cases h1 : w < m
      · rw [if_pos ⟨hx, h1⟩, if_neg (by omega), if_pos ⟨hx, by omega⟩, show m + 1 - 1 = (m - 1) + 1 by omega, Nat.succ_mul]
      · by_cases h2 : w = m
        · rw [if_neg (by omega), if_pos ⟨hx, by omega⟩, if_pos ⟨hx, by omega⟩]; rfl
        · rw [if_neg (by omega), if_neg (by omega), if_neg (by omega)]; exact (Nat.succ_mul m c).symm
    · rw [if_neg (fun e => hx e.1), if_neg (fun e => hx e.1), if_neg (fun e => hx e.1)]; exact (Nat.succ_mul m c).symm
theorem sqAll_len {α : Type} {h : Int → Int → List α} {c : Nat} (hc : ∀ x y, (h x y).length = c) (w : Nat) : ∀ k : Nat, (sqAll h w k).length = (k * (2 * w + 1) - (if w < k then 1 else 0)) * c
  | 0 => by
    rw [if_neg (by omega), Nat.zero_mul, Nat.zero_sub, Nat.zero_mul]; rfl
  | k + 1 => by
    show (sqAll h w k ++ sqRow h w ((k : Int) - (w : Int)) (2 * w + 1)).length = _
    rw [List.length_append, sqAll_len hc w k, sqRow_len hc, ← Nat.add_mul]
    have e : (k + 1) * (2 * w + 1) = k * (2 * w + 1) + (2 * w + 1) := Nat.succ_mul k (2 * w + 1)
    have hk1 : w < k → 2 * w + 1 ≤ k * (2 * w + 1) := fun h => Nat.le_mul_of_pos_left _ (by omega)
    rw [e]
    by_cases h1 : w < k
    · have h3 := hk1 h1
      rw [if_pos h1, if_neg (by omega), if_pos (by omega)]
      congr 1 <;> omega
    · by_cases h2 : w = k
      · rw [if_neg h1, if_pos ⟨by omega, by omega⟩, if_pos (by omega)]
        congr 1 <;> omega
      · rw [if_neg h1, if_neg (by omega), if_neg (by omega)]; rfl
theorem sq_room {α : Type} {h : Int → Int → List α} {c : Nat} (hc : ∀ x y, (h x y).length = c) {w k m : Nat} (hw : w = 1 ∨ w = 2) (hk : k < 2 * w + 1) (hm : m < 2 * w + 1) (hne : ¬ (k = w ∧ m = w)) : (sqAll h w k ++ sqRow h w ((k : Int) - (w : Int)) m).length + c ≤ ((2 * w + 1) * (2 * w + 1) - 1) * c := by
  have key : (k * (2 * w + 1) - (if w < k then 1 else 0)) + (m - (if (k : Int) - (w : Int) = 0 ∧ w < m then 1 else 0)) + 1 ≤ (2 * w + 1) * (2 * w + 1) - 1 := by
    rcases hw with rfl | rfl
    · by_cases h1 : 1 < k
      · rw [if_pos h1, if_neg (by omega)]; omega
      · by_cases h2 : k = 1
        · by_cases h3 : 1 < m
          · rw [if_neg h1, if_pos ⟨by omega, h3⟩]; omega
          · rw [if_neg h1, if_neg (by omega)]; omega
        · rw [if_neg h1, if_neg (by omega)]; omega
    · by_cases h1 : 2 < k
      · rw [if_pos h1, if_neg (by omega)]; omega
      · by_cases h2 : k = 2
        · by_cases h3 : 2 < m
          · rw [if_neg h1, if_pos ⟨by omega, h3⟩]; omega
          · rw [if_neg h1, if_neg (by omega)]; omega
        · rw [if_neg h1, if_neg (by omega)]; omega
  rw [List.length_append, sqAll_len hc, sqRow_len hc, ← Nat.add_mul]
  have h2 := Nat.mul_le_mul_right c key
  rw [Nat.succ_mul] at h2
  exact h2
theorem sq_step1 {α : Type} (h : Int → Int → List α) (w : Nat) (x : Int) (m : Nat) (L : List α) (e : ¬ (x = 0 ∧ (m : Int) - (w : Int) = 0)) : L ++ sqRow h w x (m + 1) = (L ++ sqRow h w x m) ++ h x ((m : Int) - (w : Int)) := by
  show L ++ (sqRow h w x m ++ sqI h x ((m : Int) - (w : Int))) = _
  rw [sqI, if_neg e, List.append_assoc]
theorem sq_step0 {α : Type} (h : Int → Int → List α) (w : Nat) (x : Int) (m : Nat) (L : List α) (e : x = 0 ∧ (m : Int) - (w : Int) = 0) : L ++ sqRow h w x (m + 1) = L ++ sqRow h w x m := by
  show L ++ (sqRow h w x m ++ sqI h x ((m : Int) - (w : Int))) = _
  rw [sqI, if_pos e, List.append_nil]
/-- the squares with a and b, and all of them -/
def lmW (P Q : Nat → Int32) (i j : Nat) (a b : Int32) (x y : Int) : List Int64 := [psL P Q i j a b (iI x) (iI y)]
def lmL (P Q : Nat → Int32) (w i j : Nat) (a b : Int32) : List Int64 := sqAll (lmW P Q i j a b) w (2 * w + 1)
def laW (P Q : Nat → Int32) (w i j : Nat) (x y : Int) : List Int64 := lmL P Q w i j (iI x) (iI y)
def laL (P Q : Nat → Int32) (w i j : Nat) : List Int64 := sqAll (laW P Q w i j) w (2 * w + 1)
theorem lmL_len (P Q : Nat → Int32) (w i j : Nat) (a b : Int32) : (lmL P Q w i j a b).length = (2 * w + 1) * (2 * w + 1) - 1 := by
  unfold lmL
  rw [sqAll_len (c := 1) (fun _ _ => rfl), if_pos (by omega), Nat.mul_one]
theorem laL_len (P Q : Nat → Int32) (w i j : Nat) : (laL P Q w i j).length = ((2 * w + 1) * (2 * w + 1) - 1) * ((2 * w + 1) * (2 * w + 1) - 1) := by
  unfold laL
  have hc : ∀ x y, (laW P Q w i j x y).length = (2 * w + 1) * (2 * w + 1) - 1 := fun x y => lmL_len P Q w i j (iI x) (iI y)
  rw [sqAll_len hc, if_pos (by omega)]
def bhF (SQ : Nat → Int64) (v : Int64) : Nat → Nat → Nat
  | 0, x => x
  | u + 1, x => if SQ x = v then bhF SQ v u (x + 1) else x
def bhN (SQ : Nat → Int64) (z at0 : Nat) : Nat := bhF SQ (SQ at0) (z - at0) at0
theorem bhF_le (SQ : Nat → Int64) (v : Int64) : ∀ u x : Nat, x ≤ bhF SQ v u x ∧ bhF SQ v u x ≤ x + u
  | 0, x => ⟨Nat.le_refl _, Nat.le_refl _⟩
  | u + 1, x => by
    show x ≤ (if SQ x = v then bhF SQ v u (x + 1) else x) ∧ (if SQ x = v then bhF SQ v u (x + 1) else x) ≤ x + (u + 1)
    obtain ⟨h1, h2⟩ := bhF_le SQ v u (x + 1)
    by_cases h : SQ x = v
    · rw [if_pos h]; omega
    · rw [if_neg h]; omega
theorem bhN_lt (SQ : Nat → Int64) {z at0 : Nat} (h : at0 < z) : at0 < bhN SQ z at0 ∧ bhN SQ z at0 ≤ z := by
  unfold bhN
  obtain ⟨u, hu⟩ : ∃ u, z - at0 = u + 1 := ⟨z - at0 - 1, by omega⟩
  rw [hu]
  have e : bhF SQ (SQ at0) (u + 1) at0 = bhF SQ (SQ at0) u (at0 + 1) := if_pos rfl
  rw [e]
  have := bhF_le SQ (SQ at0) u (at0 + 1)
  omega
def plF (SQ : Nat → Int64) (z : Nat) : Nat → Nat → Int32 → Nat
  | 0, x, _ => x
  | u + 1, x, lf => if x < z ∧ 0 < lf then plF SQ z u (bhN SQ z x) (lf + -1) else x
def bmF (SQ : Nat → Int64) (z : Nat) : Nat → Nat → Int32 → Int32
  | 0, _, c => c
  | u + 1, x, c => if x < z then bmF SQ z u (bhN SQ z x) (c + 1) else c
/-! the worst band, noted -/
noncomputable def pdI (wd : Int64) : Int32 := if wd = 0 then -4 else nI (isq wd.toInt.toNat)
noncomputable def ntF (wd : Int64) (set : Int32) (t : Int32 × Int32) : Int32 × Int32 := if pdI wd ≤ t.1 then t else (pdI wd, set)
/-- findAll: the number, the worst one, its plates; first the pairs with i -/
noncomputable def fiF (P Q : Nat → Int32) (w : Nat) (f ll : Int32) (i : Nat) (t : Int32 × Int32 × Int32) : Nat → Int32 × Int32 × Int32
  | 0 => t
  | d + 1 => ((fiF P Q w f ll i t d).1 + (okF P Q w f ll i (i + 1 + d) 3 (wd4 w)).1, ntF (okF P Q w f ll i (i + 1 + d) 3 (wd4 w)).2 ((1 : Int32) <<< (nI i &&& 31) ||| (1 : Int32) <<< (nI (i + 1 + d) &&& 31)) (fiF P Q w f ll i t d).2)
noncomputable def foF (P Q : Nat → Int32) (w : Nat) (f ll : Int32) (n : Nat) : Nat → Int32 × Int32 × Int32
  | 0 => (0, -4, -4)
  | i + 1 => fiF P Q w f ll i (foF P Q w f ll n i) (n - (i + 1))
def t64I (x : Nat) : Nat := x / 16
def t64J (x : Nat) : Nat := x / 4 % 4
def t64K (x : Nat) : Nat := x % 4
noncomputable def ftF (P Q : Nat → Int32) (w : Nat) (f ll : Int32) (n : Nat) : Nat → Int32 × Int32 × Int32
  | 0 => foF P Q w f ll n n
  | x + 1 => if t64I x < t64J x ∧ t64J x < t64K x ∧ t64K x < n then ((ftF P Q w f ll n x).1 + (b3F P Q f ll (t64I x) (t64J x) (t64K x) 64).1, ntF (b3F P Q f ll (t64I x) (t64J x) (t64K x) 64).2 ((1 : Int32) <<< (nI (t64I x) &&& 31) ||| (1 : Int32) <<< (nI (t64J x) &&& 31) ||| (1 : Int32) <<< (nI (t64K x) &&& 31)) (ftF P Q w f ll n x).2) else ftF P Q w f ll n x
noncomputable def faL (P Q : Nat → Int32) (w : Nat) (f ll : Int32) (n : Nat) : Int32 × Int32 × Int32 := lk (ftF P Q w f ll n 64)
theorem faL_eq (P Q : Nat → Int32) (w : Nat) (f ll : Int32) (n : Nat) : faL P Q w f ll n = ftF P Q w f ll n 64 := lk_eq _
/-- that the widest of a pair and of a triple are small enough -/
def smW (P Q : Nat → Int32) (w : Nat) (f ll : Int32) (n : Nat) : Prop := (∀ i j, i < j → j < n → ∃ q : Nat, q < 360000000000000000 ∧ (okF P Q w f ll i j 3 (wd4 w)).2 = lN q) ∧ ∀ i j k, i < j → j < k → k < n → ∃ q : Nat, q < 360000000000000000 ∧ (b3F P Q f ll i j k 64).2 = lN q
/-! the pair with the most bands -/
def mqI (P Q : Nat → Int32) (w : Nat) (f ll : Int32) (i : Nat) (t : Int32 × Int32) : Nat → Int32 × Int32
  | 0 => t
  | d + 1 => if (okF P Q w f ll i (i + 1 + d) 3 (wd4 w)).1 ≤ (mqI P Q w f ll i t d).2 then mqI P Q w f ll i t d else (10 * nI i + nI (i + 1 + d), (okF P Q w f ll i (i + 1 + d) 3 (wd4 w)).1)
def mqO (P Q : Nat → Int32) (w : Nat) (f ll : Int32) (n : Nat) : Nat → Int32 × Int32
  | 0 => (-4, -4)
  | i + 1 => mqI P Q w f ll i (mqO P Q w f ll n i) (n - (i + 1))
/-! the search: found, fewest, nearest -/
def szI (v : Int32) : Int32 := if 0 ≤ v then v else -v
noncomputable def msS (P Q : Nat → Int32) (w : Nat) (f ll : Int32) (n k : Nat) (low high : Int32) (x y : Nat) (t : Int32 × Int32 × Int32) : Int32 × Int32 × Int32 :=
  if low ≤ nI x * nI x + nI y * nI y ∧ nI x * nI x + nI y * nI y ≤ high then
    (if t.1 < 0 ∨ (faL (upd P k (nI x)) (upd Q k (nI y)) w f ll n).1 < t.2.1 ∨ ((faL (upd P k (nI x)) (upd Q k (nI y)) w f ll n).1 = t.2.1 ∧ szI ((nI x * nI x + nI y * nI y) - ar P Q k) < t.2.2)
      then (100 * nI x + nI y, (faL (upd P k (nI x)) (upd Q k (nI y)) w f ll n).1, szI ((nI x * nI x + nI y * nI y) - ar P Q k)) else t) else t
noncomputable def msR (P Q : Nat → Int32) (w : Nat) (f ll : Int32) (n k : Nat) (low high : Int32) (x : Nat) (t : Int32 × Int32 × Int32) : Nat → Int32 × Int32 × Int32
  | 0 => t
  | y + 1 => msS P Q w f ll n k low high x y (msR P Q w f ll n k low high x t y)
noncomputable def msA (P Q : Nat → Int32) (w : Nat) (f ll : Int32) (n k : Nat) (low high : Int32) : Nat → Int32 × Int32 × Int32
  | 0 => (-4, -4, 0)
  | x + 1 => msR P Q w f ll n k low high (x + 1) (msA P Q w f ll n k low high x) 21
noncomputable def msL (P Q : Nat → Int32) (w : Nat) (f ll : Int32) (n k : Nat) (low high : Int32) : Int32 × Int32 × Int32 := lk (msA P Q w f ll n k low high 20)
theorem msL_eq (P Q : Nat → Int32) (w : Nat) (f ll : Int32) (n k : Nat) (low high : Int32) : msL P Q w f ll n k low high = msA P Q w f ll n k low high 20 := lk_eq _
theorem MR_upd {M : Nat → Int32} {n : Nat} {P Q : Nat → Int32} {o f ll : Int32} (h : MR M n P Q o f ll) (k : Nat) (x y : Int32) : MR (upd (upd M (4 + 2 * k) x) (4 + 2 * k + 1) y) n (upd P k x) (upd Q k y) o f ll := by
  obtain ⟨h0, h1, h2, h3, h4⟩ := h
  refine ⟨?_, ?_, ?_, ?_, fun j hj => ?_⟩
  · rw [pk_un (by omega), pk_un (by omega)]; exact h0
  · rw [pk_un (by omega), pk_un (by omega)]; exact h1
  · rw [pk_un (by omega), pk_un (by omega)]; exact h2
  · rw [pk_un (by omega), pk_un (by omega)]; exact h3
  · by_cases e : j = k
    · rw [e]; exact ⟨by rw [pk_un (by omega), pk_us, pk_us], by rw [pk_us, pk_us]⟩
    · exact ⟨by rw [pk_un (by omega), pk_un (by omega), pk_un e]; exact (h4 j hj).1, by rw [pk_un (by omega), pk_un (by omega), pk_un e]; exact (h4 j hj).2⟩
/-! what a record leaves in the row of the saved states -/
def rsF (S M : Nat → Int32) (q : Nat) : Nat → Nat → Int32
  | 0 => S
  | k + 1 => upd (rsF S M q k) (12 * q + k) (M k)
def shS (S : Nat → Int32) : Nat → Nat → Int32
  | 0 => S
  | k + 1 => upd (shS S k) k (shS S k (k + 12))
def rvS (S M : Nat → Int32) (q : Nat) : Nat → Int32 := if q = 5 then rsF (shS S 48) M 4 12 else rsF S M q 12
/-- the row of twelve out of another row, from z on -/
def cpM (M S : Nat → Int32) (z : Nat) : Nat → Nat → Int32
  | 0 => M
  | k + 1 => upd (cpM M S z k) k (S (z + k))
def cpT (T M : Nat → Int32) (z : Nat) : Nat → Nat → Int32
  | 0 => T
  | k + 1 => upd (cpT T M z k) (z + k) (M k)
def rmM (M : Nat → Int32) (k : Nat) : Nat → Nat → Int32
  | 0 => M
  | d + 1 => upd (rmM M k d) (4 + 2 * k + d) (rmM M k d (4 + 2 * k + d + 2))

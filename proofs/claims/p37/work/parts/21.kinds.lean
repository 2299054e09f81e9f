/-! divisors, roots, kinds, periods -/
theorem gcdF_n : ∀ (k n a b : Nat), b < 2 ^ k → k ≤ 40 → a < 2 ^ 62 → 2 * k + 1 ≤ n → gcdF n (lN a) (lN b) = lN (Nat.gcd a b)
  | 0, n, a, b, hb, _, _, hn => by
    have hb0 : b = 0 := by omega
    subst hb0
    obtain ⟨u, rfl⟩ : ∃ u, n = u + 1 := ⟨n - 1, by omega⟩
    rw [Nat.gcd_zero_right]
    exact if_pos rfl
  | k + 1, n, a, b, hb, hk, ha, hn => by
    have p40 : 2 ^ (k + 1) ≤ 2 ^ 40 := Nat.pow_le_pow_right (by decide) hk
    have p2 : 2 ^ (k + 1) = 2 ^ k * 2 := Nat.pow_succ 2 k
    have hb62 : b < 2 ^ 62 := Nat.lt_of_lt_of_le hb (Nat.le_trans p40 (by decide))
    have hb63 : b < 2 ^ 63 := Nat.lt_trans hb62 (by decide)
    have ha63 : a < 2 ^ 63 := Nat.lt_trans ha (by decide)
    obtain ⟨u, rfl⟩ : ∃ u, n = u + 1 := ⟨n - 1, by omega⟩
    by_cases h0 : b = 0
    · subst h0
      rw [Nat.gcd_zero_right]
      exact if_pos rfl
    · have hpos : 0 < b := Nat.pos_of_ne_zero h0
      have hne : ¬ lN b = 0 := fun e => h0 ((pk_lEQ hb63 (by decide)).mp (show lN b = lN 0 from e))
      have e1 : gcdF (u + 1) (lN a) (lN b) = gcdF u (lN b) (lN (a % b)) := (if_neg hne).trans (by rw [pk_lRem ha63 hpos hb63])
      have g1 : Nat.gcd a b = Nat.gcd b (a % b) := by rw [Nat.gcd_comm b (a % b), ← Nat.gcd_rec, Nat.gcd_comm]
      rw [e1, g1]
      have hr := Nat.mod_lt a hpos
      obtain ⟨v, rfl⟩ : ∃ v, u = v + 1 := ⟨u - 1, by omega⟩
      by_cases h1 : a % b = 0
      · rw [h1, Nat.gcd_zero_right]
        exact if_pos rfl
      · have hpos2 : 0 < a % b := Nat.pos_of_ne_zero h1
        have hr63 : a % b < 2 ^ 63 := by omega
        have hne2 : ¬ lN (a % b) = 0 := fun e => h1 ((pk_lEQ hr63 (by decide)).mp (show lN (a % b) = lN 0 from e))
        have e2 : gcdF (v + 1) (lN b) (lN (a % b)) = gcdF v (lN (a % b)) (lN (b % (a % b))) := (if_neg hne2).trans (by rw [pk_lRem hb63 hpos2 hr63])
        have g2 : Nat.gcd b (a % b) = Nat.gcd (a % b) (b % (a % b)) := by rw [Nat.gcd_comm (a % b) (b % (a % b)), ← Nat.gcd_rec, Nat.gcd_comm]
        rw [e2, g2]
        refine gcdF_n k v (a % b) (b % (a % b)) ?_ (by omega) (by omega) (by omega)
        have h3 := Nat.mod_lt b hpos2
        rcases Nat.lt_or_ge (b % (a % b)) (2 ^ k) with h4 | h4
        · exact h4
        · have h5 := Nat.div_add_mod b (a % b)
          have h6 : 1 ≤ b / (a % b) := (Nat.one_le_div_iff hpos2).mpr (by omega)
          have h7 : (a % b) * 1 ≤ (a % b) * (b / (a % b)) := Nat.mul_le_mul_left _ h6
          omega
theorem gcL_n {a b : Nat} (ha : a < 2 ^ 62) (hb : b < 2 ^ 40) : gcL (lN a) (lN b) = lN (Nat.gcd a b) := by
  rw [gcL_eq]
  exact gcdF_n 40 100 a b hb (by omega) ha (by omega)
theorem lN_nn {a : Nat} (ha : a < 2 ^ 63) : 0 ≤ lN a := (pk_lLE (a := 0) (b := a) (by decide) ha).mpr (Nat.zero_le _)
theorem lN_tN {a : Nat} (ha : a < 2 ^ 63) : (lN a).toInt.toNat = a := by
  rw [pk_lT ha]; rfl
theorem gcM_n {a b : Nat} (ha : a < 2 ^ 63) (hb : b < 2 ^ 63) : gcM (lN a) (lN b) = lN (Nat.gcd a b) := by
  rw [gcM_eq, lN_tN ha, lN_tN hb]
theorem lN_ne {a : Nat} (ha : a < 2 ^ 63) (h : 0 < a) : ¬ lN a = 0 := fun e => absurd ((pk_lEQ ha (by decide)).mp (show lN a = lN 0 from e)) (by omega)
theorem dvL_n {a b : Nat} (ha : a < 2 ^ 63) (hb : b < 2 ^ 63) : dvL (lN a) (lN b) = lN (a / b) := by
  unfold dvL
  rcases Nat.eq_zero_or_pos b with h | h
  · subst h
    rw [Nat.div_zero]
    exact if_pos (by decide)
  · exact (if_neg (show ¬ lN b ≤ 0 from fun e => absurd ((pk_lLE (a := b) (b := 0) hb (by decide)).mp e) (by omega))).trans (pk_lDiv ha h hb)
/-- the root, bit by bit -/
theorem rtF_n (q : Nat) (hq : q < 2 ^ 30) : ∀ (j r : Nat), j ≤ 15 → r + 2 ^ j ≤ 2 ^ 15 → r * r ≤ q → q < (r + 2 ^ j) * (r + 2 ^ j) → rtF (lN q) j (nI r) = nI (isq q)
  | 0, r, _, _, h3, h4 => congrArg nI (isq_of h3 h4).symm
  | j + 1, r, hj, h2, h3, h4 => by
    have p2 : 2 ^ (j + 1) = 2 ^ j + 2 ^ j := by rw [Nat.pow_succ]; omega
    have p15 : (2 : Nat) ^ 15 = 32768 := by decide
    have p0 : 0 < 2 ^ j := Nat.two_pow_pos j
    have hs : r + 2 ^ j ≤ 32768 := by omega
    have hm : (r + 2 ^ j) * (r + 2 ^ j) ≤ 32768 * 32768 := Nat.mul_le_mul hs hs
    have e1 : (nI r + btF (j + 1)).toInt64 * (nI r + btF (j + 1)).toInt64 = lN ((r + 2 ^ j) * (r + 2 ^ j)) := by
      rw [show btF (j + 1) = nI (2 ^ j) from rfl, nI_add, nI_toL (by omega), lN_mul]
    show (if lN q < (nI r + btF (j + 1)).toInt64 * (nI r + btF (j + 1)).toInt64 then rtF (lN q) j (nI r) else rtF (lN q) j (nI r + btF (j + 1))) = _
    rw [e1]
    by_cases h : q < (r + 2 ^ j) * (r + 2 ^ j)
    · rw [if_pos ((pk_lLT (by omega) (by omega)).mpr h)]
      exact rtF_n q hq j r (by omega) (by omega) h3 h
    · rw [if_neg (fun e => h ((pk_lLT (by omega) (by omega)).mp e)), show btF (j + 1) = nI (2 ^ j) from rfl, nI_add]
      exact rtF_n q hq j (r + 2 ^ j) (by omega) (by omega) (by omega) (by rw [show r + 2 ^ j + 2 ^ j = r + 2 ^ (j + 1) by omega]; exact h4)
theorem rtL_n {q : Nat} (hq : q < 2 ^ 30) : rtL (lN q) = nI (isq q) := by
  rw [rtL_eq]
  exact rtF_n q hq 15 0 (by omega) (by decide) (Nat.zero_le _) (by omega)
theorem prI_n {A N : Nat} (hA : A < 2 ^ 30) (hN : N ≤ 1000000000) : prI (lN A) (nI N) = nI (isq (A / N)) := by
  unfold prI
  rw [nI_toL hN, dvL_n (by omega) (by omega), rtL_n (Nat.lt_of_le_of_lt (Nat.div_le_self A N) hA)]
/-- the kind, in whole numbers: A the product of the areas, F and G the limits' squares -/
def kN (A F G N : Nat) : Nat := if N = 0 then 0 else if N * F < A then (if A < N * G then 3 else 2) else 1
theorem nI_sq {f : Int32} (h1 : 0 ≤ f.toInt) (h2 : f.toInt ≤ 10000) : ∃ x : Nat, x ≤ 10000 ∧ (x : Int) = f.toInt ∧ f.toInt64 * f.toInt64 = lN (x * x) := by
  refine ⟨f.toInt.toNat, by omega, by omega, ?_⟩
  have e : f = nI f.toInt.toNat := by
    rw [← iI_nI, Int.toNat_of_nonneg h1, iI_toInt]
  rw [e, nI_toInt (by omega), Int.toNat_natCast, nI_toL (by omega), lN_mul]
theorem kdI_n {A N x y : Nat} {f ll : Int32} (hA : A ≤ 512000000) (hN : N ≤ 1000000000) (hx : x ≤ 10000) (hx1 : 1 ≤ x) (hy : y ≤ 10000) (hy1 : 1 ≤ y) (ef : f.toInt64 * f.toInt64 = lN (x * x)) (el : ll.toInt64 * ll.toInt64 = lN (y * y)) :
    kdI (nI N) (lfL (lN A) f) (glL (lN A) ll) = nI (kN A (x * x) (y * y) N) := by
  have bx : x * x ≤ 100000000 := Nat.mul_le_mul hx hx
  have by1 : y * y ≤ 100000000 := Nat.mul_le_mul hy hy
  have px : 1 ≤ x * x := Nat.mul_le_mul hx1 hx1
  have py : 1 ≤ y * y := Nat.mul_le_mul hy1 hy1
  unfold kdI lfL glL kN
  rw [ef, el, lN_add, show lN (A + x * x) - 1 = lN (A + x * x - 1) from lN_sub (a := A + x * x) (b := 1) (by omega), dvL_n (by omega) (by omega), dvL_n (by omega) (by omega), nI_toL hN]
  have d1 : (A + x * x - 1) / (x * x) ≤ A + x * x := Nat.le_trans (Nat.div_le_self _ _) (by omega)
  have d2 : A / (y * y) ≤ A := Nat.div_le_self _ _
  by_cases h0 : N = 0
  · subst h0
    rw [if_pos (show nI 0 = 0 from rfl)]; rfl
  · have hn0 : ¬ nI N = 0 := fun e => h0 ((nI_eq (a := N) (b := 0) (by omega) (by omega)).mp e)
    rw [if_neg hn0, if_neg h0]
    have k1 : lN N < lN ((A + x * x - 1) / (x * x)) ↔ N * (x * x) < A := by
      rw [pk_lLT (by omega) (by omega), Nat.lt_iff_add_one_le, Nat.le_div_iff_mul_le (by omega), Nat.succ_mul]
      omega
    have k2 : lN (A / (y * y)) < lN N ↔ A < N * (y * y) := by
      rw [pk_lLT (by omega) (by omega), Nat.div_lt_iff_lt_mul (by omega)]
    by_cases h1 : N * (x * x) < A
    · rw [if_pos (k1.mpr h1), if_pos h1]
      by_cases h2 : A < N * (y * y)
      · rw [if_pos (k2.mpr h2), if_pos h2]; rfl
      · rw [if_neg (fun e => h2 (k2.mp e)), if_neg h2]; rfl
    · rw [if_neg (fun e => h1 (k1.mp e)), if_neg h1]; rfl
theorem kdM_n {A N x y : Nat} {f ll : Int32} (hA : A ≤ 512000000) (hA1 : 1 ≤ A) (hN : N ≤ 1000000000) (hNA : N * A < 2 ^ 62) (hx : x ≤ 10000) (hx1 : 1 ≤ x) (hy : y ≤ 10000) (hy1 : 1 ≤ y) (ef : f.toInt64 * f.toInt64 = lN (x * x)) (el : ll.toInt64 * ll.toInt64 = lN (y * y)) :
    kdM f ll (lN (N * A)) (lN (A * A)) = nI (kN A (x * x) (y * y) N) := by
  have bx : x * x ≤ 100000000 := Nat.mul_le_mul hx hx
  have by1 : y * y ≤ 100000000 := Nat.mul_le_mul hy hy
  have px : 1 ≤ x * x := Nat.mul_le_mul hx1 hx1
  have py : 1 ≤ y * y := Nat.mul_le_mul hy1 hy1
  have bA : A * A ≤ 512000000 * 512000000 := Nat.mul_le_mul hA hA
  unfold kdM kN
  rw [ef, el]
  by_cases h0 : N = 0
  · subst h0
    rw [Nat.zero_mul, if_pos (show lN 0 = 0 from rfl)]; rfl
  · have hNp : 0 < N := Nat.pos_of_ne_zero h0
    have hp : 0 < N * A := Nat.mul_pos hNp hA1
    rw [if_neg (lN_ne (by omega) hp), if_neg h0, pk_lRem (by omega) hp (by omega), pk_lDiv (by omega) hp (by omega)]
    have e1 : A * A / (N * A) = A / N := Nat.mul_div_mul_right A N hA1
    have e2 : A * A % (N * A) = A % N * A := Nat.mul_mod_mul_right A A N
    rw [e1, e2]
    have hr := Nat.mod_lt A hNp
    have hrA : A % N * A ≤ A * A := Nat.mul_le_mul_right A (Nat.mod_le A N)
    have hdm := Nat.div_add_mod A N
    have hd : A / N ≤ A := Nat.div_le_self A N
    have k2 : lN (A / N) < lN (y * y) ↔ A < N * (y * y) := by
      rw [pk_lLT (by omega) (by omega), Nat.div_lt_iff_lt_mul hNp, Nat.mul_comm (y * y) N]
    have k1 : (lN (x * x) < lN (A / N) + (if 0 < lN (A % N * A) then 1 else 0)) ↔ N * (x * x) < A := by
      by_cases hz : A % N = 0
      · have e3 : ¬ (0 : Int64) < lN (A % N * A) := by
          rw [hz, Nat.zero_mul]; decide
        rw [if_neg e3, Int64.add_zero, pk_lLT (by omega) (by omega)]
        constructor
        · intro h
          have h2 : N * (x * x + 1) ≤ N * (A / N) := Nat.mul_le_mul_left N h
          rw [Nat.mul_succ] at h2
          omega
        · intro h
          have h2 : N * (x * x) < N * (A / N) := by omega
          exact Nat.lt_of_mul_lt_mul_left h2
      · have hpos : 0 < A % N * A := Nat.mul_pos (Nat.pos_of_ne_zero hz) hA1
        have e3 : (0 : Int64) < lN (A % N * A) := (pk_lLT (a := 0) (b := A % N * A) (by decide) (by omega)).mpr hpos
        rw [if_pos e3, lN_1, pk_lLT (by omega) (by omega), Nat.lt_succ_iff]
        constructor
        · intro h
          have h2 : N * (x * x) ≤ N * (A / N) := Nat.mul_le_mul_left N h
          omega
        · intro h
          rcases Nat.lt_or_ge (A / N) (x * x) with h3 | h3
          · have h4 : N * (A / N + 1) ≤ N * (x * x) := Nat.mul_le_mul_left N h3
            rw [Nat.mul_succ] at h4
            omega
          · exact h3
    by_cases h1 : N * (x * x) < A
    · rw [if_pos (k1.mpr h1), if_pos h1]
      by_cases h2 : A < N * (y * y)
      · rw [if_pos (k2.mpr h2), if_pos h2]; rfl
      · rw [if_neg (fun e => h2 (k2.mp e)), if_neg h2]; rfl
    · rw [if_neg (fun e => h1 (k1.mp e)), if_neg h1]; rfl
theorem kN_le (A F G N : Nat) : kN A F G N ≤ 3 := by
  unfold kN
  by_cases h0 : N = 0
  · rw [if_pos h0]; omega
  · rw [if_neg h0]
    by_cases h1 : N * F < A
    · rw [if_pos h1]
      by_cases h2 : A < N * G
      · rw [if_pos h2]; omega
      · rw [if_neg h2]; omega
    · rw [if_neg h1]; omega
theorem kN_band {A F G N : Nat} (h : kN A F G N = 3) : 0 < N ∧ N * F < A := by
  unfold kN at h
  by_cases h0 : N = 0
  · rw [if_pos h0] at h; omega
  · rw [if_neg h0] at h
    by_cases h1 : N * F < A
    · exact ⟨Nat.pos_of_ne_zero h0, h1⟩
    · rw [if_neg h1] at h; omega

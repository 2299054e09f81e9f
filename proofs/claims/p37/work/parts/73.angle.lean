/-! the plates by their angles: in order, each once -/
def bB (P Q : Nat → Int32) (j k : Nat) : Bool := decide (pz Q j * pz P k < pz Q k * pz P j) || (decide (pz Q j * pz P k = pz Q k * pz P j) && decide (j < k))
def rkN (B : Nat → Nat → Bool) (k : Nat) : Nat → Nat
  | 0 => 0
  | j + 1 => if B j k = true then rkN B k j + 1 else rkN B k j
def fdN (B : Nat → Nat → Bool) (n r : Nat) : Nat → Nat → Nat
  | 0, _ => 9
  | u + 1, k => if rkN B k n = r then k else fdN B n r u (k + 1)
def orN (a : Nat → Nat) : Nat → Nat
  | 0 => 0
  | i + 1 => orN a i ||| 2 ^ a i
def tbl (x01 x02 x03 x12 x13 x23 : Bool) (j k : Nat) : Bool :=
  if j = 0 then (if k = 1 then x01 else if k = 2 then x02 else if k = 3 then x03 else false)
  else if j = 1 then (if k = 0 then !x01 else if k = 2 then x12 else if k = 3 then x13 else false)
  else if j = 2 then (if k = 0 then !x02 else if k = 1 then !x12 else if k = 3 then x23 else false)
  else if j = 3 then (if k = 0 then !x03 else if k = 1 then !x13 else if k = 2 then !x23 else false)
  else false
def tr3 (x y z : Bool) : Bool := !(x && z && !y) && !(!x && !z && y)
def angB (B : Nat → Nat → Bool) (n : Nat) : Bool := (List.range n).all (fun r => decide (fdN B n r n 0 < n)) && decide (fdN B n n n 0 = 9) && (List.range (n - 1)).all (fun r => B (fdN B n r n 0) (fdN B n (r + 1) n 0)) && decide (orN (fun r => fdN B n r n 0) n = 2 ^ n - 1)
theorem angB_fin : ∀ x01 x02 x03 x12 x13 x23 : Bool, ∀ n, n < 5 → (!(decide (n < 3) || tr3 x01 x02 x12) || !(decide (n < 4) || (tr3 x01 x03 x13 && tr3 x02 x03 x23 && tr3 x12 x13 x23)) || angB (tbl x01 x02 x03 x12 x13 x23) n) = true := by
  decide +kernel
theorem ang_fin : ∀ x01 x02 x03 x12 x13 x23 : Bool, ∀ n, n < 5 → (n < 3 ∨ tr3 x01 x02 x12 = true) → (n < 4 ∨ (tr3 x01 x03 x13 && tr3 x02 x03 x23 && tr3 x12 x13 x23) = true) →
    (∀ r, r < n → fdN (tbl x01 x02 x03 x12 x13 x23) n r n 0 < n) ∧ fdN (tbl x01 x02 x03 x12 x13 x23) n n n 0 = 9 ∧ (∀ r, r < n - 1 → tbl x01 x02 x03 x12 x13 x23 (fdN (tbl x01 x02 x03 x12 x13 x23) n r n 0) (fdN (tbl x01 x02 x03 x12 x13 x23) n (r + 1) n 0) = true) ∧ orN (fun r => fdN (tbl x01 x02 x03 x12 x13 x23) n r n 0) n = 2 ^ n - 1 := by
  intro x01 x02 x03 x12 x13 x23 n hn h1 h2
  have h := angB_fin x01 x02 x03 x12 x13 x23 n hn
  have e1 : (decide (n < 3) || tr3 x01 x02 x12) = true := by
    rw [Bool.or_eq_true, decide_eq_true_eq]; exact h1
  have e2 : (decide (n < 4) || (tr3 x01 x03 x13 && tr3 x02 x03 x23 && tr3 x12 x13 x23)) = true := by
    rw [Bool.or_eq_true, decide_eq_true_eq]; exact h2
  rw [e1, e2] at h
  have h3 : angB (tbl x01 x02 x03 x12 x13 x23) n = true := h
  unfold angB at h3
  rw [Bool.and_eq_true, Bool.and_eq_true, Bool.and_eq_true, List.all_eq_true, decide_eq_true_eq, List.all_eq_true, decide_eq_true_eq] at h3
  obtain ⟨⟨⟨a, b⟩, c⟩, d⟩ := h3
  exact ⟨fun r hr => of_decide_eq_true (a r (List.mem_range.mpr hr)), b, fun r hr => c r (List.mem_range.mpr hr), d⟩
theorem bB_iff (P Q : Nat → Int32) (j k : Nat) : bB P Q j k = true ↔ (pz Q j * pz P k ≤ pz Q k * pz P j ∧ (pz Q j * pz P k = pz Q k * pz P j → j < k)) := by
  unfold bB
  rw [Bool.or_eq_true, Bool.and_eq_true, decide_eq_true_eq, decide_eq_true_eq, decide_eq_true_eq]
  constructor
  · intro h
    rcases h with h | ⟨h, h2⟩
    · exact ⟨by omega, fun q => by omega⟩
    · exact ⟨by omega, fun _ => h2⟩
  · intro ⟨h1, h2⟩
    by_cases e : pz Q j * pz P k = pz Q k * pz P j
    · exact Or.inr ⟨e, h2 e⟩
    · exact Or.inl (by omega)
theorem bB_tr {P Q : Nat → Int32} {n i j k : Nat} (h : VP P Q n) (hi : i < n) (hj : j < n) (hk : k < n) (h1 : bB P Q i j = true) (h2 : bB P Q j k = true) : bB P Q i k = true := by
  rw [bB_iff] at h1 h2 ⊢
  obtain ⟨⟨i1, _⟩, _⟩ := h i hi
  obtain ⟨⟨j1, _⟩, _⟩ := h j hj
  obtain ⟨⟨k1, _⟩, _⟩ := h k hk
  have pi : 0 < pz P i := by unfold pz; omega
  have pj : 0 < pz P j := by unfold pz; omega
  have pk : 0 < pz P k := by unfold pz; omega
  -- qi pj pk ≤ qj pi pk = qj pk pi ≤ qk pj pi
  have a1 : pz Q i * pz P j * pz P k ≤ pz Q j * pz P i * pz P k := Int.mul_le_mul_of_nonneg_right h1.1 (by omega)
  have a2 : pz Q j * pz P k * pz P i ≤ pz Q k * pz P j * pz P i := Int.mul_le_mul_of_nonneg_right h2.1 (by omega)
  have e1 : pz Q j * pz P i * pz P k = pz Q j * pz P k * pz P i := by grind
  have e2 : pz Q i * pz P j * pz P k = pz Q i * pz P k * pz P j := by grind
  have e3 : pz Q k * pz P j * pz P i = pz Q k * pz P i * pz P j := by grind
  refine ⟨?_, fun q => ?_⟩
  · exact Int.le_of_mul_le_mul_right (show pz Q i * pz P k * pz P j ≤ pz Q k * pz P i * pz P j by omega) pj
  · have b1 : pz Q i * pz P j * pz P k = pz Q j * pz P i * pz P k := by
      have : pz Q i * pz P k * pz P j = pz Q k * pz P i * pz P j := by rw [q]
      omega
    have b2 : pz Q j * pz P k * pz P i = pz Q k * pz P j * pz P i := by
      have : pz Q i * pz P k * pz P j = pz Q k * pz P i * pz P j := by rw [q]
      omega
    have c1 := h1.2 (Int.eq_of_mul_eq_mul_right (by omega) b1)
    have c2 := h2.2 (Int.eq_of_mul_eq_mul_right (by omega) b2)
    omega
theorem bB_self (P Q : Nat → Int32) (k : Nat) : bB P Q k k = false := by
  rw [Bool.eq_false_iff]
  intro q
  rw [bB_iff] at q
  have := q.2 rfl
  omega
theorem bB_not (P Q : Nat → Int32) {j k : Nat} (h : j ≠ k) : bB P Q k j = !bB P Q j k := by
  rw [Bool.eq_iff_iff, Bool.not_eq_true', ← Bool.not_eq_true, bB_iff, bB_iff]
  constructor
  · intro ⟨h1, h2⟩ ⟨h3, h4⟩
    have e : pz Q k * pz P j = pz Q j * pz P k := by omega
    have := h2 e
    have := h4 e.symm
    omega
  · intro q
    refine ⟨?_, fun e => ?_⟩
    · rcases Int.le_total (pz Q k * pz P j) (pz Q j * pz P k) with c | c
      · exact c
      · by_cases e : pz Q j * pz P k = pz Q k * pz P j
        · omega
        · exact absurd ⟨c, fun z => absurd z e⟩ q
    · rcases Nat.lt_or_ge k j with c | c
      · exact c
      · exact absurd ⟨by omega, fun _ => by omega⟩ q
theorem tr3_of {P Q : Nat → Int32} {n i j k : Nat} (h : VP P Q n) (hij : i < j) (hjk : j < k) (hk : k < n) : tr3 (bB P Q i j) (bB P Q i k) (bB P Q j k) = true := by
  have t1 := bB_tr h (show i < n by omega) (show j < n by omega) hk
  have t2 := bB_tr h hk (show j < n by omega) (show i < n by omega)
  rw [bB_not P Q (show j ≠ k by omega), bB_not P Q (show i ≠ j by omega), bB_not P Q (show i ≠ k by omega)] at t2
  revert t1 t2
  generalize bB P Q i j = x
  generalize bB P Q i k = y
  generalize bB P Q j k = z
  revert x y z
  unfold tr3
  decide
/-- the table of the plates' order -/
def tbP (P Q : Nat → Int32) : Nat → Nat → Bool := tbl (bB P Q 0 1) (bB P Q 0 2) (bB P Q 0 3) (bB P Q 1 2) (bB P Q 1 3) (bB P Q 2 3)
theorem tbP_e (P Q : Nat → Int32) {j k : Nat} (hj : j < 4) (hk : k < 4) : tbP P Q j k = bB P Q j k := by
  rcases (show j = 0 ∨ j = 1 ∨ j = 2 ∨ j = 3 by omega) with rfl | rfl | rfl | rfl <;> rcases (show k = 0 ∨ k = 1 ∨ k = 2 ∨ k = 3 by omega) with rfl | rfl | rfl | rfl
  · exact (bB_self P Q 0).symm
  · rfl
  · rfl
  · rfl
  · exact (bB_not P Q (by decide)).symm
  · exact (bB_self P Q 1).symm
  · rfl
  · rfl
  · exact (bB_not P Q (by decide)).symm
  · exact (bB_not P Q (by decide)).symm
  · exact (bB_self P Q 2).symm
  · rfl
  · exact (bB_not P Q (by decide)).symm
  · exact (bB_not P Q (by decide)).symm
  · exact (bB_not P Q (by decide)).symm
  · exact (bB_self P Q 3).symm
theorem qp_lt {P Q : Nat → Int32} {n j k : Nat} (h : VP P Q n) (hj : j < n) (hk : k < n) : Q j * P k = iI (pz Q j * pz P k) ∧ 0 ≤ pz Q j * pz P k ∧ pz Q j * pz P k ≤ 400 := by
  obtain ⟨⟨i1, i2⟩, i3, i4⟩ := h j hj
  obtain ⟨⟨j1, j2⟩, j3, j4⟩ := h k hk
  have w := mul_bd (a := 20) (b := 20) (show -20 ≤ pz Q j by unfold pz; omega) i4 (show -20 ≤ pz P k by unfold pz; omega) j2
  refine ⟨by rw [P_z Q j, P_z P k, iI_mul], Int.mul_nonneg i3 (by unfold pz; omega), by simp only [pz] at *; omega⟩
theorem pb_rk {P Q : Nat → Int32} {n k : Nat} (h : VP P Q n) (hn : n ≤ 4) (hk : k < n) : ∀ j, j ≤ n → pbF P Q k j = nI (rkN (tbP P Q) k j)
  | 0, _ => rfl
  | j + 1, hj => by
    have ih := pb_rk h hn hk j (by omega)
    obtain ⟨a1, a2, a3⟩ := qp_lt h (show j < n by omega) hk
    obtain ⟨b1, b2, b3⟩ := qp_lt h hk (show j < n by omega)
    have et := tbP_e P Q (show j < 4 by omega) (show k < 4 by omega)
    have hlt : Q j * P k < Q k * P j ↔ pz Q j * pz P k < pz Q k * pz P j := by
      rw [a1, b1, Int32.lt_iff_toInt_lt, i_z _ (by omega) (by omega), i_z _ (by omega) (by omega)]
    have heq : Q j * P k = Q k * P j ↔ pz Q j * pz P k = pz Q k * pz P j := by
      rw [a1, b1]
      constructor
      · intro q
        have q2 := congrArg Int32.toInt q
        rwa [i_z _ (by omega) (by omega), i_z _ (by omega) (by omega)] at q2
      · intro q; rw [q]
    show (if Q j * P k < Q k * P j then pbF P Q k j + 1 else if Q j * P k = Q k * P j then (if j < k then pbF P Q k j + 1 else pbF P Q k j) else pbF P Q k j) = nI (if tbP P Q j k = true then rkN (tbP P Q) k j + 1 else rkN (tbP P Q) k j)
    rw [et, ih]
    have hb := bB_iff P Q j k
    by_cases c1 : pz Q j * pz P k < pz Q k * pz P j
    · rw [if_pos (hlt.mpr c1), if_pos (hb.mpr ⟨by omega, fun q => by omega⟩), nI_1]
    · rw [if_neg (fun q => c1 (hlt.mp q))]
      by_cases c2 : pz Q j * pz P k = pz Q k * pz P j
      · rw [if_pos (heq.mpr c2)]
        by_cases c3 : j < k
        · rw [if_pos c3, if_pos (hb.mpr ⟨by omega, fun _ => c3⟩), nI_1]
        · rw [if_neg c3, if_neg (fun q => c3 ((hb.mp q).2 c2))]
      · rw [if_neg (fun q => c2 (heq.mp q)), if_neg (fun q => by have := (hb.mp q).1; omega)]
theorem rkN_le (B : Nat → Nat → Bool) (k : Nat) : ∀ j, rkN B k j ≤ j
  | 0 => Nat.le_refl _
  | j + 1 => by
    have := rkN_le B k j
    show (if B j k = true then rkN B k j + 1 else rkN B k j) ≤ j + 1
    by_cases e : B j k = true
    · rw [if_pos e]; omega
    · rw [if_neg e]; omega
theorem ba_fd {P Q : Nat → Int32} {n : Nat} (h : VP P Q n) (hn : n ≤ 4) {r : Nat} (hr : r < 100) : ∀ u k, k + u = n → baF P Q n (nI r) u k = if fdN (tbP P Q) n r u k = 9 then -4 else nI (fdN (tbP P Q) n r u k)
  | 0, k, _ => rfl
  | u + 1, k, e => by
    have h1 := pb_rk h hn (show k < n by omega) n (Nat.le_refl _)
    have h2 := rkN_le (tbP P Q) k n
    show (if pbF P Q k n = nI r then nI k else baF P Q n (nI r) u (k + 1)) = if (if rkN (tbP P Q) k n = r then k else fdN (tbP P Q) n r u (k + 1)) = 9 then -4 else nI (if rkN (tbP P Q) k n = r then k else fdN (tbP P Q) n r u (k + 1))
    rw [h1]
    by_cases c : rkN (tbP P Q) k n = r
    · rw [if_pos (by rw [c]), if_pos c, if_neg (by omega)]
    · rw [if_neg (fun q => c ((nI_eq (by omega) (by omega)).mp q)), if_neg c]
      exact ba_fd h hn hr u (k + 1) (by omega)
/-- the plate of each rank -/
def AG (P Q : Nat → Int32) (n r : Nat) : Nat := fdN (tbP P Q) n r n 0
def mtF (P Q : Nat → Int32) (n : Nat) : Nat → Int32
  | 0 => 0
  | i + 1 => mtF P Q n i ||| (1 : Int32) <<< (nI (AG P Q n i) &&& 31)
theorem sh_n : ∀ k, k < 5 → (1 : Int32) <<< (nI k &&& 31) = nI (2 ^ k) := by decide
theorem or_n : ∀ x, x < 16 → ∀ y, y < 16 → nI x ||| nI y = nI (x ||| y) := by decide +kernel
theorem or_16 : ∀ x, x < 16 → ∀ y, y < 16 → x ||| y < 16 := by decide +kernel
theorem ag_ok {P Q : Nat → Int32} {n : Nat} (h : VP P Q n) (hn : n ≤ 4) :
    (∀ r, r < n → AG P Q n r < n ∧ baF P Q n (nI r) n 0 = nI (AG P Q n r)) ∧ baF P Q n (nI n) n 0 = -4 ∧ (∀ r, r + 1 < n → Q (AG P Q n r) * P (AG P Q n (r + 1)) ≤ Q (AG P Q n (r + 1)) * P (AG P Q n r)) ∧ mtF P Q n n = (1 : Int32) <<< (nI n &&& 31) - 1 := by
  obtain ⟨f1, f2, f3, f4⟩ := ang_fin (bB P Q 0 1) (bB P Q 0 2) (bB P Q 0 3) (bB P Q 1 2) (bB P Q 1 3) (bB P Q 2 3) n (by omega)
    (by
      by_cases c : n < 3
      · exact Or.inl c
      · exact Or.inr (tr3_of h (by decide) (by decide) (by omega)))
    (by
      by_cases c : n < 4
      · exact Or.inl c
      · refine Or.inr ?_
        rw [tr3_of h (show 0 < 1 by decide) (show 1 < 3 by decide) (by omega), tr3_of h (show 0 < 2 by decide) (show 2 < 3 by decide) (by omega), tr3_of h (show 1 < 2 by decide) (show 2 < 3 by decide) (by omega)]
        rfl)
  have g1 : ∀ r, r < n → AG P Q n r < n := f1
  have g2 : ∀ r, r < n → baF P Q n (nI r) n 0 = nI (AG P Q n r) := fun r hr => by
    have e := ba_fd h hn (show r < 100 by omega) n 0 (by omega)
    have := g1 r hr
    rw [e]
    exact if_neg (show ¬ AG P Q n r = 9 by omega)
  refine ⟨fun r hr => ⟨g1 r hr, g2 r hr⟩, ?_, fun r hr => ?_, ?_⟩
  · rw [ba_fd h hn (show n < 100 by omega) n 0 (by omega)]
    exact if_pos f2
  · have h1 := g1 r (by omega)
    have h2 := g1 (r + 1) hr
    have h3 : tbP P Q (AG P Q n r) (AG P Q n (r + 1)) = true := f3 r (by omega)
    rw [tbP_e P Q (by omega) (by omega), bB_iff] at h3
    obtain ⟨a1, a2, a3⟩ := qp_lt h h1 h2
    obtain ⟨b1, b2, b3⟩ := qp_lt h h2 h1
    rw [a1, b1, Int32.le_iff_toInt_le, i_z _ (by omega) (by omega), i_z _ (by omega) (by omega)]
    exact h3.1
  · have key : ∀ i, i ≤ n → mtF P Q n i = nI (orN (AG P Q n) i) ∧ orN (AG P Q n) i < 16 := by
      intro i
      induction i with
      | zero => intro _; exact ⟨rfl, (show (0 : Nat) < 16 by decide)⟩
      | succ i ih =>
        intro hi
        obtain ⟨e1, e2⟩ := ih (by omega)
        have h1 := g1 i (by omega)
        have h2 : 2 ^ AG P Q n i < 16 := Nat.pow_lt_pow_right (by decide) (show AG P Q n i < 4 by omega)
        show (mtF P Q n i ||| (1 : Int32) <<< (nI (AG P Q n i) &&& 31)) = nI (orN (AG P Q n) i ||| 2 ^ AG P Q n i) ∧ orN (AG P Q n) i ||| 2 ^ AG P Q n i < 16
        rw [e1, sh_n _ (by omega), or_n _ e2 _ h2]
        exact ⟨rfl, or_16 _ e2 _ h2⟩
    have f5 : orN (AG P Q n) n = 2 ^ n - 1 := f4
    rw [(key n (Nat.le_refl _)).1, f5, sh_n n (by omega)]
    rcases (show n = 0 ∨ n = 1 ∨ n = 2 ∨ n = 3 ∨ n = 4 by omega) with rfl | rfl | rfl | rfl | rfl <;> decide

/-! what the actions do to plates and limits -/
theorem shR_at (P : Nat → Int32) (k : Nat) : ∀ d j, shR P k d j = if k ≤ j ∧ j < k + d then P (j + 1) else P j
  | 0, j => by rw [if_neg (by omega)]; rfl
  | d + 1, j => by
    show upd (shR P k d) (k + d) (shR P k d (k + d + 1)) j = _
    by_cases e : j = k + d
    · rw [e, pk_us, shR_at P k d, if_neg (by omega), if_pos (by omega)]
    · rw [pk_un e, shR_at P k d]
      by_cases c : k ≤ j ∧ j < k + d
      · rw [if_pos c, if_pos (by omega)]
      · rw [if_neg c, if_neg (by omega)]
theorem rcQ_le (q : Nat) (h : q ≤ 5) : rcQ q ≤ 5 := by
  unfold rcQ
  by_cases e : q = 5
  · rw [if_pos e]; omega
  · rw [if_neg e]; omega
theorem VP_add {P Q : Nat → Int32} {n : Nat} (h : VP P Q n) {x y : Int32} (hs : 1 ≤ x ∧ x ≤ 20 ∧ 0 ≤ y ∧ y ≤ 20) : VP (upd P n x) (upd Q n y) (n + 1) := by
  intro j hj
  obtain ⟨h1, h2, h3, h4⟩ := hs
  rw [Int32.le_iff_toInt_le] at h1 h2 h3 h4
  have e1 : (1 : Int32).toInt = 1 := rfl
  have e2 : (20 : Int32).toInt = 20 := rfl
  have e3 : (0 : Int32).toInt = 0 := rfl
  by_cases e : j = n
  · rw [e, pk_us, pk_us]; omega
  · rw [pk_un e, pk_un e]; exact h j (by omega)
theorem VP_scr {P Q : Nat → Int32} {n : Nat} (h : VP P Q n) (k : Nat) {x y : Int32} (hs : 1 ≤ x ∧ x ≤ 20 ∧ 0 ≤ y ∧ y ≤ 20) : VP (upd P k x) (upd Q k y) n := by
  intro j hj
  obtain ⟨h1, h2, h3, h4⟩ := hs
  rw [Int32.le_iff_toInt_le] at h1 h2 h3 h4
  have e1 : (1 : Int32).toInt = 1 := rfl
  have e2 : (20 : Int32).toInt = 20 := rfl
  have e3 : (0 : Int32).toInt = 0 := rfl
  by_cases e : j = k
  · rw [e, pk_us, pk_us]; omega
  · rw [pk_un e, pk_un e]; exact h j hj
theorem VP_rem {P Q : Nat → Int32} {n k : Nat} (h : VP P Q (n + 1)) (hk : k ≤ n) : VP (shR P k (n - k)) (shR Q k (n - k)) n := by
  intro j hj
  rw [shR_at, shR_at]
  by_cases c : k ≤ j ∧ j < k + (n - k)
  · rw [if_pos c, if_pos c]; exact h (j + 1) (by omega)
  · rw [if_neg c, if_neg c]; exact h j (by omega)
theorem LV_set {x y : Int32} (hs : 1 ≤ x ∧ x ≤ 1000 ∧ x < y ∧ y ≤ 10000) : LV x y := by
  obtain ⟨h1, h2, h3, h4⟩ := hs
  rw [Int32.le_iff_toInt_le] at h1 h2 h4
  rw [Int32.lt_iff_toInt_lt] at h3
  exact ⟨⟨h1, h2⟩, h3, h4⟩
theorem w_set {x : Int32} (hs : 1 ≤ x ∧ x ≤ 2) : ∃ w : Nat, (w = 1 ∨ w = 2) ∧ x = nI w := by
  obtain ⟨h1, h2⟩ := hs
  rw [Int32.le_iff_toInt_le] at h1 h2
  have e1 : (1 : Int32).toInt = 1 := rfl
  have e2 : (2 : Int32).toInt = 2 := rfl
  refine ⟨x.toInt.toNat, by omega, ?_⟩
  rw [← iI_nI, Int.toNat_of_nonneg (by omega), iI_toInt]
theorem hv_nat {n : Nat} (hn : n ≤ 4) {i : Int32} (h : hv n i) : ∃ k : Nat, k < n ∧ i = nI k := by
  obtain ⟨h1, h2⟩ := h
  rw [Int32.le_iff_toInt_le] at h1
  rw [Int32.lt_iff_toInt_lt, nI_toInt (by omega)] at h2
  have e0 : (0 : Int32).toInt = 0 := rfl
  refine ⟨i.toInt.toNat, by omega, ?_⟩
  rw [← iI_nI, Int.toNat_of_nonneg (by omega), iI_toInt]
theorem hp_ex {n : Nat} (hn : n ≤ 4) {i j : Int32} (h : hpP n i j) : ∃ a b : Nat, a < b ∧ b < n ∧ i = nI a ∧ j = nI b := by
  obtain ⟨h1, h2, h3⟩ := h
  obtain ⟨a, ha, rfl⟩ := hv_nat hn h1
  obtain ⟨b, hb, rfl⟩ := hv_nat hn h2
  exact ⟨a, b, nat_lt (by omega) (by omega) h3, hb, rfl, rfl⟩
theorem s01 {i : Int32} (h : 0 ≤ i ∧ i ≤ 1) : ∃ k : Nat, k < 2 ∧ i = nI k := by
  obtain ⟨h1, h2⟩ := h
  rw [Int32.le_iff_toInt_le] at h1 h2
  have e0 : (0 : Int32).toInt = 0 := rfl
  have e1 : (1 : Int32).toInt = 1 := rfl
  refine ⟨i.toInt.toNat, by omega, ?_⟩
  rw [← iI_nI, Int.toNat_of_nonneg (by omega), iI_toInt]
/-! small facts for acts -/
theorem nm_ex (k : Nat) (lo hi : Nat) (h : lo ≤ k ∧ k ≤ hi) : ∃ m, nI k = nI m ∧ lo ≤ m ∧ m ≤ hi := ⟨k, rfl, h⟩
theorem ac_ar (P Q : Nat → Int32) (k : Nat) (x y : Int32) : ar (upd P k x) (upd Q k y) k = x * x + y * y := by
  unfold ar
  rw [pk_us, pk_us]
theorem ac_shr (P Q : Nat → Int32) {k m : Nat} (h : k < m) : ar (shR P k (m - k)) (shR Q k (m - k)) k = ar P Q (k + 1) := by
  unfold ar
  rw [shR_at, shR_at, if_pos (show k ≤ k ∧ k < k + (m - k) by omega), if_pos (show k ≤ k ∧ k < k + (m - k) by omega)]
theorem ac_nhv {n k : Nat} (h : n ≤ k) (hk : k ≤ 100) : ¬ hv n (nI k) := fun q => absurd (nat_lt (a := k) (b := n) (by omega) (by omega) q.2) (by omega)
theorem ac_f {f ll : Int32} (h : LV f ll) : ¬ f ≤ 0 := by
  intro q
  rw [Int32.le_iff_toInt_le] at q
  have e3 : (0 : Int32).toInt = 0 := rfl
  obtain ⟨⟨h1, h2⟩, h3, h4⟩ := h
  omega
theorem ac_lim {x y : Nat} (h1 : 1 ≤ x) (h2 : x ≤ 1000) (h3 : x < y) (h4 : y ≤ 10000) : 1 ≤ nI x ∧ nI x ≤ 1000 ∧ nI x < nI y ∧ nI y ≤ 10000 :=
  ⟨(nI_leI (a := 1) (b := x) (by omega) (by omega)).mpr h1, (nI_leI (a := x) (b := 1000) (by omega) (by omega)).mpr h2, (nI_ltI (by omega) (by omega)).mpr h3, (nI_leI (a := y) (b := 10000) (by omega) (by omega)).mpr h4⟩
theorem rc_lt {q : Nat} (h : q < 5) : nI (q + 1) = nI (rcQ q) := by
  unfold rcQ
  rw [if_neg (by omega)]
theorem rc_ge {q : Nat} (h : 5 ≤ q) (h5 : q ≤ 5) : (5 : Int32) = nI (rcQ q) := by
  unfold rcQ
  rw [if_pos (by omega)]
  rfl
theorem ac_us {E : Nat → SD} {k : Nat} {d : SD} : va_up E k d k = d := if_pos rfl
theorem ac_sf {SF : Nat → Int32} {k : Nat} : ¬ upd SF k 1 k = 0 := by
  rw [pk_us]
  decide
theorem ac_n0 {n : Nat} (h : ¬ n = 0) (h4 : n ≤ 4) : ¬ nI n = 0 := fun q => h ((nI_eq (a := n) (b := 0) (by omega) (by omega)).mp q)

/-! the reference's row of twelve, its saved rows and its slots, change as the class's states do -/
abbrev MD (M : Nat → Int32) (d : SD) : Prop := MR M d.1 d.2.1 d.2.2.1 d.2.2.2.1 d.2.2.2.2.1 d.2.2.2.2.2
/-- a state that the document allows -/
def HV (d : SD) : Prop := d.1 ≤ 4 ∧ VP d.2.1 d.2.2.1 d.1 ∧ (∃ w : Nat, (w = 1 ∨ w = 2) ∧ d.2.2.2.1 = nI w) ∧ LV d.2.2.2.2.1 d.2.2.2.2.2
theorem MR_cg {M M' : Nat → Int32} {n : Nat} {P Q : Nat → Int32} {o f ll : Int32} (hn : n ≤ 4) (h : ∀ x, x < 12 → M' x = M x) (hM : MR M n P Q o f ll) : MR M' n P Q o f ll := by
  obtain ⟨h0, h1, h2, h3, h4⟩ := hM
  refine ⟨by rw [h 0 (by omega)]; exact h0, by rw [h 1 (by omega)]; exact h1, by rw [h 2 (by omega)]; exact h2, by rw [h 3 (by omega)]; exact h3, fun k hk => ?_⟩
  rw [h (4 + 2 * k) (by omega), h (4 + 2 * k + 1) (by omega)]
  exact h4 k hk
theorem MR_add {M : Nat → Int32} {n : Nat} {P Q : Nat → Int32} {o f ll : Int32} (hM : MR M n P Q o f ll) (x y : Int32) : MR (upd (upd (upd M (4 + 2 * n) x) (4 + 2 * n + 1) y) 0 (nI (n + 1))) (n + 1) (upd P n x) (upd Q n y) o f ll := by
  obtain ⟨h0, h1, h2, h3, h4⟩ := hM
  refine ⟨by rw [pk_us], ?_, ?_, ?_, fun j hj => ?_⟩
  · rw [pk_un (by omega), pk_un (by omega), pk_un (by omega)]; exact h1
  · rw [pk_un (by omega), pk_un (by omega), pk_un (by omega)]; exact h2
  · rw [pk_un (by omega), pk_un (by omega), pk_un (by omega)]; exact h3
  · rw [pk_un (show 4 + 2 * j ≠ 0 by omega), pk_un (show 4 + 2 * j + 1 ≠ 0 by omega)]
    by_cases e : j = n
    · rw [e]; exact ⟨by rw [pk_un (by omega), pk_us, pk_us], by rw [pk_us, pk_us]⟩
    · exact ⟨by rw [pk_un (by omega), pk_un (by omega), pk_un e]; exact (h4 j (by omega)).1, by rw [pk_un (by omega), pk_un (by omega), pk_un e]; exact (h4 j (by omega)).2⟩
theorem shR_at (P : Nat → Int32) (k : Nat) : ∀ d j, shR P k d j = if k ≤ j ∧ j < k + d then P (j + 1) else P j
  | 0, j => by rw [if_neg (by omega)]; rfl
  | d + 1, j => by
    show upd (shR P k d) (k + d) (shR P k d (k + d + 1)) j = _
    by_cases e : j = k + d
    · rw [e, pk_us, shR_at P k d, if_neg (by omega), if_pos (by omega)]
    · rw [pk_un e, shR_at P k d]
      by_cases c : k ≤ j ∧ j < k + d
      · rw [if_pos c, if_pos (by omega)]
      · rw [if_neg c, if_neg (by omega)]
theorem rmM_at (M : Nat → Int32) (k : Nat) : ∀ d x, rmM M k d x = if 4 + 2 * k ≤ x ∧ x < 4 + 2 * k + d then M (x + 2) else M x
  | 0, x => by rw [if_neg (by omega)]; rfl
  | d + 1, x => by
    show upd (rmM M k d) (4 + 2 * k + d) (rmM M k d (4 + 2 * k + d + 2)) x = _
    by_cases e : x = 4 + 2 * k + d
    · rw [e, pk_us, rmM_at M k d, if_neg (by omega), if_pos (by omega)]
    · rw [pk_un e, rmM_at M k d]
      by_cases c : 4 + 2 * k ≤ x ∧ x < 4 + 2 * k + d
      · rw [if_pos c, if_pos (by omega)]
      · rw [if_neg c, if_neg (by omega)]
theorem MR_rem {M : Nat → Int32} {n k : Nat} {P Q : Nat → Int32} {o f ll : Int32} (hM : MR M (n + 1) P Q o f ll) (hk : k ≤ n) (hn : n < 4) : MR (upd (rmM M k (6 - 2 * k)) 0 (nI n)) n (shR P k (n - k)) (shR Q k (n - k)) o f ll := by
  obtain ⟨h0, h1, h2, h3, h4⟩ := hM
  refine ⟨by rw [pk_us], ?_, ?_, ?_, fun j hj => ?_⟩
  · rw [pk_un (by omega), rmM_lo M k _ 1 (by omega)]; exact h1
  · rw [pk_un (by omega), rmM_lo M k _ 2 (by omega)]; exact h2
  · rw [pk_un (by omega), rmM_lo M k _ 3 (by omega)]; exact h3
  · rw [pk_un (show 4 + 2 * j ≠ 0 by omega), pk_un (show 4 + 2 * j + 1 ≠ 0 by omega), rmM_at, rmM_at, shR_at, shR_at]
    by_cases c : k ≤ j
    · rw [if_pos (show 4 + 2 * k ≤ 4 + 2 * j ∧ 4 + 2 * j < 4 + 2 * k + (6 - 2 * k) by omega), if_pos (show 4 + 2 * k ≤ 4 + 2 * j + 1 ∧ 4 + 2 * j + 1 < 4 + 2 * k + (6 - 2 * k) by omega), if_pos (show k ≤ j ∧ j < k + (n - k) by omega), if_pos (show k ≤ j ∧ j < k + (n - k) by omega)]
      exact h4 (j + 1) (by omega)
    · rw [if_neg (show ¬ (4 + 2 * k ≤ 4 + 2 * j ∧ 4 + 2 * j < 4 + 2 * k + (6 - 2 * k)) by omega), if_neg (show ¬ (4 + 2 * k ≤ 4 + 2 * j + 1 ∧ 4 + 2 * j + 1 < 4 + 2 * k + (6 - 2 * k)) by omega), if_neg (show ¬ (k ≤ j ∧ j < k + (n - k)) by omega), if_neg (show ¬ (k ≤ j ∧ j < k + (n - k)) by omega)]
      exact h4 j (by omega)
theorem MR_ord {M : Nat → Int32} {n : Nat} {P Q : Nat → Int32} {o f ll : Int32} (hM : MR M n P Q o f ll) (x : Int32) : MR (upd M 1 x) n P Q x f ll := by
  obtain ⟨h0, h1, h2, h3, h4⟩ := hM
  refine ⟨by rw [pk_un (by omega)]; exact h0, by rw [pk_us], by rw [pk_un (by omega)]; exact h2, by rw [pk_un (by omega)]; exact h3, fun j hj => ?_⟩
  rw [pk_un (by omega), pk_un (by omega)]
  exact h4 j hj
theorem MR_lim {M : Nat → Int32} {n : Nat} {P Q : Nat → Int32} {o f ll : Int32} (hM : MR M n P Q o f ll) (x y : Int32) : MR (upd (upd M 2 x) 3 y) n P Q o x y := by
  obtain ⟨h0, h1, h2, h3, h4⟩ := hM
  refine ⟨by rw [pk_un (by omega), pk_un (by omega)]; exact h0, by rw [pk_un (by omega), pk_un (by omega)]; exact h1, by rw [pk_un (by omega), pk_us], by rw [pk_us], fun j hj => ?_⟩
  rw [pk_un (by omega), pk_un (by omega), pk_un (by omega), pk_un (by omega)]
  exact h4 j hj
theorem cpM_at (M S : Nat → Int32) (z : Nat) : ∀ d x, x < d → cpM M S z d x = S (z + x)
  | 0, _, h => absurd h (Nat.not_lt_zero _)
  | d + 1, x, h => by
    show upd (cpM M S z d) d (S (z + d)) x = _
    by_cases e : x = d
    · rw [e, pk_us]
    · rw [pk_un e, cpM_at M S z d x (by omega)]
theorem cpT_at (T M : Nat → Int32) (z : Nat) : ∀ d x, cpT T M z d x = if z ≤ x ∧ x < z + d then M (x - z) else T x
  | 0, x => by rw [if_neg (by omega)]; rfl
  | d + 1, x => by
    show upd (cpT T M z d) (z + d) (M d) x = _
    by_cases e : x = z + d
    · rw [e, pk_us, if_pos (by omega)]
      congr 1; omega
    · rw [pk_un e, cpT_at T M z d]
      by_cases c : z ≤ x ∧ x < z + d
      · rw [if_pos c, if_pos (by omega)]
      · rw [if_neg c, if_neg (by omega)]
theorem rsF_at (S M : Nat → Int32) (q : Nat) : ∀ d x, rsF S M q d x = if 12 * q ≤ x ∧ x < 12 * q + d then M (x - 12 * q) else S x
  | 0, x => by rw [if_neg (by omega)]; rfl
  | d + 1, x => by
    show upd (rsF S M q d) (12 * q + d) (M d) x = _
    by_cases e : x = 12 * q + d
    · rw [e, pk_us, if_pos (by omega)]
      congr 1; omega
    · rw [pk_un e, rsF_at S M q d]
      by_cases c : 12 * q ≤ x ∧ x < 12 * q + d
      · rw [if_pos c, if_pos (by omega)]
      · rw [if_neg c, if_neg (by omega)]
theorem shS_at (S : Nat → Int32) : ∀ d x, shS S d x = if x < d then S (x + 12) else S x
  | 0, x => by rw [if_neg (by omega)]; rfl
  | d + 1, x => by
    show upd (shS S d) d (shS S d (d + 12)) x = _
    by_cases e : x = d
    · rw [e, pk_us, shS_at S d, if_neg (by omega), if_pos (by omega)]
    · rw [pk_un e, shS_at S d]
      by_cases c : x < d
      · rw [if_pos c, if_pos (by omega)]
      · rw [if_neg c, if_neg (by omega)]
/-- the saved states agree -/
def JH (D : Nat → SD) (S : Nat → Int32) (q : Nat) : Prop := ∀ j, j < q → HV (D j) ∧ MD (fun x => S (12 * j + x)) (D j)
theorem rcQ_le (q : Nat) (h : q ≤ 5) : rcQ q ≤ 5 := by
  unfold rcQ
  by_cases e : q = 5
  · rw [if_pos e]; omega
  · rw [if_neg e]; omega
theorem JH_rec {D : Nat → SD} {S M : Nat → Int32} {q : Nat} {d : SD} (hq : q ≤ 5) (h : JH D S q) (hd : HV d) (hM : MD M d) : JH (rcD D q d) (rvS S M q) (rcQ q) := by
  intro j hj
  unfold rcD rvS
  unfold rcQ at hj
  by_cases e : q = 5
  · rw [if_pos e] at hj ⊢
    rw [if_pos e]
    show HV (if j = 4 then d else D (j + 1)) ∧ MD _ (if j = 4 then d else D (j + 1))
    by_cases e4 : j = 4
    · rw [if_pos e4, e4]
      refine ⟨hd, MR_cg hd.1 (fun x hx => ?_) hM⟩
      rw [rsF_at, if_pos (by omega)]
      congr 1; omega
    · rw [if_neg e4]
      have hj1 := h (j + 1) (by omega)
      refine ⟨hj1.1, MR_cg hj1.1.1 (fun x hx => ?_) hj1.2⟩
      rw [rsF_at, if_neg (by omega), shS_at, if_pos (by omega)]
      show S _ = S _
      congr 1; omega
  · rw [if_neg e] at hj ⊢
    rw [if_neg e]
    show HV (if j = q then d else D j) ∧ MD _ (if j = q then d else D j)
    by_cases e4 : j = q
    · rw [if_pos e4, e4]
      refine ⟨hd, MR_cg hd.1 (fun x hx => ?_) hM⟩
      rw [rsF_at, if_pos (by omega)]
      congr 1; omega
    · rw [if_neg e4]
      have hj1 := h j (by omega)
      refine ⟨hj1.1, MR_cg hj1.1.1 (fun x hx => ?_) hj1.2⟩
      rw [rsF_at, if_neg (by omega)]
theorem MR_undo {D : Nat → SD} {S M : Nat → Int32} {q : Nat} (h : JH D S (q + 1)) : HV (D q) ∧ MD (cpM M S (12 * q) 12) (D q) ∧ JH D S q := by
  have hq := h q (by omega)
  exact ⟨hq.1, MR_cg hq.1.1 (fun x hx => cpM_at M S (12 * q) 12 x hx) hq.2, fun j hj => h j (by omega)⟩
/-- the slots agree -/
def JT (E : Nat → SD) (SF T : Nat → Int32) : Prop := ∀ j, j < 2 → (SF j = 1 ∧ T (13 * j) = 1 ∧ HV (E j) ∧ MD (fun x => T (13 * j + 1 + x)) (E j)) ∨ (SF j = 0 ∧ T (13 * j) = 0)
theorem JT_save {E : Nat → SD} {SF T M : Nat → Int32} {d : SD} {k : Nat} (hk : k < 2) (h : JT E SF T) (hd : HV d) (hM : MD M d) : JT (va_up E k d) (upd SF k 1) (cpT (upd T (13 * k) 1) M (13 * k + 1) 12) := by
  intro j hj
  by_cases e : j = k
  · left
    rw [e]
    have ed : va_up E k d k = d := if_pos rfl
    rw [ed]
    refine ⟨pk_us, ?_, hd, MR_cg hd.1 (fun x hx => ?_) hM⟩
    · rw [cpT_at, if_neg (by omega), pk_us]
    · rw [cpT_at, if_pos (by omega)]
      congr 1; omega
  · have ed : va_up E k d j = E j := if_neg e
    rw [ed, pk_un e, cpT_at, if_neg (by omega), pk_un (show 13 * j ≠ 13 * k by omega)]
    rcases h j hj with ⟨a, b, c, q⟩ | h
    · left
      refine ⟨a, b, c, MR_cg c.1 (fun x hx => ?_) q⟩
      rw [cpT_at, if_neg (by omega), pk_un (by omega)]
    · exact Or.inr h
theorem MR_res {E : Nat → SD} {SF T M : Nat → Int32} {k : Nat} (hk : k < 2) (h : JT E SF T) (hs : ¬ T (13 * k) = 0) : SF k = 1 ∧ HV (E k) ∧ MD (cpM M T (13 * k + 1) 12) (E k) := by
  rcases h k hk with ⟨a, b, c, q⟩ | ⟨a, b⟩
  · exact ⟨a, c, MR_cg c.1 (fun x hx => cpM_at M T (13 * k + 1) 12 x hx) q⟩
  · exact absurd b hs
/-! the plates stay as the document has them -/
theorem VP_add {P Q : Nat → Int32} {n : Nat} (h : VP P Q n) {x y : Int32} (hs : 1 ≤ x ∧ x ≤ 20 ∧ 0 ≤ y ∧ y ≤ 20) : VP (upd P n x) (upd Q n y) (n + 1) := by
  intro j hj
  obtain ⟨h1, h2, h3, h4⟩ := hs
  rw [Int32.le_iff_toInt_le] at h1 h2 h3 h4
  have e1 : (1 : Int32).toInt = 1 := rfl
  have e2 : (20 : Int32).toInt = 20 := rfl
  have e3 : (0 : Int32).toInt = 0 := rfl
  by_cases e : j = n
  · rw [e, pk_us, pk_us]; omega
  · rw [pk_un e, pk_un e]; exact h j (by omega)
theorem VP_scr {P Q : Nat → Int32} {n : Nat} (h : VP P Q n) (k : Nat) {x y : Int32} (hs : 1 ≤ x ∧ x ≤ 20 ∧ 0 ≤ y ∧ y ≤ 20) : VP (upd P k x) (upd Q k y) n := by
  intro j hj
  obtain ⟨h1, h2, h3, h4⟩ := hs
  rw [Int32.le_iff_toInt_le] at h1 h2 h3 h4
  have e1 : (1 : Int32).toInt = 1 := rfl
  have e2 : (20 : Int32).toInt = 20 := rfl
  have e3 : (0 : Int32).toInt = 0 := rfl
  by_cases e : j = k
  · rw [e, pk_us, pk_us]; omega
  · rw [pk_un e, pk_un e]; exact h j hj
theorem VP_rem {P Q : Nat → Int32} {n k : Nat} (h : VP P Q (n + 1)) (hk : k ≤ n) : VP (shR P k (n - k)) (shR Q k (n - k)) n := by
  intro j hj
  rw [shR_at, shR_at]
  by_cases c : k ≤ j ∧ j < k + (n - k)
  · rw [if_pos c, if_pos c]; exact h (j + 1) (by omega)
  · rw [if_neg c, if_neg c]; exact h j (by omega)
theorem LV_set {x y : Int32} (hs : 1 ≤ x ∧ x ≤ 1000 ∧ x < y ∧ y ≤ 10000) : LV x y := by
  obtain ⟨h1, h2, h3, h4⟩ := hs
  rw [Int32.le_iff_toInt_le] at h1 h2 h4
  rw [Int32.lt_iff_toInt_lt] at h3
  exact ⟨⟨h1, h2⟩, h3, h4⟩
theorem w_set {x : Int32} (hs : 1 ≤ x ∧ x ≤ 2) : ∃ w : Nat, (w = 1 ∨ w = 2) ∧ x = nI w := by
  obtain ⟨h1, h2⟩ := hs
  rw [Int32.le_iff_toInt_le] at h1 h2
  have e1 : (1 : Int32).toInt = 1 := rfl
  have e2 : (2 : Int32).toInt = 2 := rfl
  refine ⟨x.toInt.toNat, by omega, ?_⟩
  rw [← iI_nI, Int.toNat_of_nonneg (by omega), iI_toInt]
theorem hv_nat {n : Nat} (hn : n ≤ 4) {i : Int32} (h : hv n i) : ∃ k : Nat, k < n ∧ i = nI k := by
  obtain ⟨h1, h2⟩ := h
  rw [Int32.le_iff_toInt_le] at h1
  rw [Int32.lt_iff_toInt_lt, nI_toInt (by omega)] at h2
  have e0 : (0 : Int32).toInt = 0 := rfl
  refine ⟨i.toInt.toNat, by omega, ?_⟩
  rw [← iI_nI, Int.toNat_of_nonneg (by omega), iI_toInt]
theorem hp_ex {n : Nat} (hn : n ≤ 4) {i j : Int32} (h : hpP n i j) : ∃ a b : Nat, a < b ∧ b < n ∧ i = nI a ∧ j = nI b := by
  obtain ⟨h1, h2, h3⟩ := h
  obtain ⟨a, ha, rfl⟩ := hv_nat hn h1
  obtain ⟨b, hb, rfl⟩ := hv_nat hn h2
  exact ⟨a, b, nat_lt (by omega) (by omega) h3, hb, rfl, rfl⟩
theorem s01 {i : Int32} (h : 0 ≤ i ∧ i ≤ 1) : ∃ k : Nat, k < 2 ∧ i = nI k := by
  obtain ⟨h1, h2⟩ := h
  rw [Int32.le_iff_toInt_le] at h1 h2
  have e0 : (0 : Int32).toInt = 0 := rfl
  have e1 : (1 : Int32).toInt = 1 := rfl
  refine ⟨i.toInt.toNat, by omega, ?_⟩
  rw [← iI_nI, Int.toNat_of_nonneg (by omega), iI_toInt]

/-! small rows for the walks of the reference -/
def tlH (P Q : Nat → Int32) (n : Nat) : Prop := ∀ k, k < n → 0 ≤ (P k).toInt64 ∧ 0 ≤ (Q k).toInt64 ∧ ¬ (gcM (P k).toInt64 (Q k).toInt64).toInt32 = 0
noncomputable def tmL (P Q : Nat → Int32) (k : Nat) : Int32 := ar P Q k / (gcM (P k).toInt64 (Q k).toInt64).toInt32
noncomputable def cmF (P Q : Nat → Int32) : Nat → Int64
  | 0 => 1
  | k + 1 => cmF P Q k / gcM (cmF P Q k) (tmL P Q k).toInt64 * (tmL P Q k).toInt64
def cmH (P Q : Nat → Int32) (n : Nat) : Prop := ∀ k, k < n → 0 ≤ cmF P Q k ∧ 0 ≤ (tmL P Q k).toInt64 ∧ ¬ gcM (cmF P Q k) (tmL P Q k).toInt64 = 0
theorem pb_t {P Q : Nat → Int32} {k j : Nat} (h : Q j * P k < Q k * P j ∨ (Q j * P k = Q k * P j ∧ j < k)) : pbF P Q k (j + 1) = pbF P Q k j + 1 := by
  by_cases h1 : Q j * P k < Q k * P j
  · exact if_pos h1
  · have h2 := h.resolve_left h1
    exact (if_neg h1).trans ((if_pos h2.1).trans (if_pos h2.2))
theorem pb_f {P Q : Nat → Int32} {k j : Nat} (h : ¬ (Q j * P k < Q k * P j ∨ (Q j * P k = Q k * P j ∧ j < k))) : pbF P Q k (j + 1) = pbF P Q k j := by
  by_cases h2 : Q j * P k = Q k * P j
  · exact (if_neg (fun q => h (Or.inl q))).trans ((if_pos h2).trans (if_neg (fun q => h (Or.inr ⟨h2, q⟩))))
  · exact (if_neg (fun q => h (Or.inl q))).trans (if_neg h2)
theorem ix12 (q k : Nat) : (12 : Int32) * nI q + nI k = nI (12 * q + k) := by
  rw [← nI_add, ← pk_mul]; rfl
theorem ix13 (q : Nat) : (13 : Int32) * nI q = nI (13 * q) := by
  rw [← pk_mul]; rfl
theorem ix13b (q k : Nat) : (13 : Int32) * nI q + 1 + nI k = nI (13 * q + 1 + k) := by
  rw [ix13, nI_1, nI_add]
theorem in01 {k : Nat} (h : k < 2) : (0 : Int32) ≤ nI k ∧ nI k ≤ 1 := by
  match k, h with
  | 0, _ => decide
  | 1, _ => decide
theorem lim2 {x y : Int32} (h1 : 1 ≤ x) (h2 : x < y) : 2 ≤ y := by
  rw [Int32.le_iff_toInt_le] at *
  rw [Int32.lt_iff_toInt_lt] at h2
  have e1 : (1 : Int32).toInt = 1 := rfl
  have e2 : (2 : Int32).toInt = 2 := rfl
  omega
theorem rmM_lo (M : Nat → Int32) (k : Nat) : ∀ d x : Nat, x < 4 → rmM M k d x = M x
  | 0, _, _ => rfl
  | d + 1, x, h => by
    show upd (rmM M k d) (4 + 2 * k + d) (rmM M k d (4 + 2 * k + d + 2)) x = M x
    rw [pk_un (by omega), rmM_lo M k d x h]
theorem hp_nat {n a b : Nat} (ha : a < 1000) (hb : b < 1000) (hn : n < 1000) : hpP n (nI a) (nI b) ↔ (a < b ∧ b < n) := by
  constructor
  · intro h
    exact ⟨nat_lt (by omega) (by omega) h.2.2, nat_lt (by omega) (by omega) h.2.1.2⟩
  · intro h
    exact ⟨⟨nI_pos' (by omega), nI_lt (by omega) (by omega)⟩, ⟨nI_pos' (by omega), nI_lt (by omega) (by omega)⟩, nI_lt h.1 (by omega)⟩
theorem wd4_le {w : Nat} (hw : w = 1 ∨ w = 2) : wd4 w ≤ 625 := by
  rcases hw with rfl | rfl <;> decide
theorem lm_room {P Q : Nat → Int32} {i j : Nat} {a b : Int32} {w k m z : Nat} (hw : w = 1 ∨ w = 2) (hk : k < 2 * w + 1) (hm : m < 2 * w + 1) (hne : ¬ (k = w ∧ m = w)) (hz : z + ((2 * w + 1) * (2 * w + 1) - 1) ≤ 576) : z + (sqAll (lmW P Q i j a b) w k ++ sqRow (lmW P Q i j a b) w ((k : Int) - (w : Int)) m).length < 576 := by
  have h := sq_room (c := 1) (h := lmW P Q i j a b) (fun _ _ => rfl) hw hk hm hne
  rw [Nat.mul_one] at h
  omega
theorem la_room {P Q : Nat → Int32} {i j w k m : Nat} (hw : w = 1 ∨ w = 2) (hk : k < 2 * w + 1) (hm : m < 2 * w + 1) (hne : ¬ (k = w ∧ m = w)) : (sqAll (laW P Q w i j) w k ++ sqRow (laW P Q w i j) w ((k : Int) - (w : Int)) m).length + ((2 * w + 1) * (2 * w + 1) - 1) ≤ 576 := by
  have hc : ∀ x y, (laW P Q w i j x y).length = (2 * w + 1) * (2 * w + 1) - 1 := fun x y => lmL_len P Q w i j (iI x) (iI y)
  have h := sq_room hc hw hk hm hne
  refine Nat.le_trans h ?_
  rcases hw with rfl | rfl <;> decide
theorem la_len {P Q : Nat → Int32} {i j w : Nat} (hw : w = 1 ∨ w = 2) : (laL P Q w i j).length ≤ 576 ∧ 1 ≤ (laL P Q w i j).length := by
  rw [laL_len]
  rcases hw with rfl | rfl <;> decide
theorem ia_step (SQ : Nat → Int64) (z : Nat) (L : List Int64) (v : Int64) : insA SQ z (L ++ [v]) = insL (insA SQ z L) v (z + L.length) ∧ z + (L ++ [v]).length = z + L.length + 1 := ⟨insA_snoc v L SQ z, by rw [List.length_append]; rfl⟩
theorem fu_self {M : Nat → Int32} {a : Nat} {x y : Int32} (h1 : M a = x) (h2 : M (a + 1) = y) (j : Nat) : M j = upd (upd M a x) (a + 1) y j := by
  by_cases e : j = a + 1
  · rw [e, pk_us]; exact h2
  · rw [pk_un e]
    by_cases e2 : j = a
    · rw [e2, pk_us]; exact h1
    · rw [pk_un e2]
theorem fu_upd {M : Nat → Int32} {a : Nat} {x y x' y' : Int32} (j : Nat) : upd (upd (upd (upd M a x) (a + 1) y) a x') (a + 1) y' j = upd (upd M a x') (a + 1) y' j := by
  by_cases e : j = a + 1
  · rw [e, pk_us, pk_us]
  · rw [pk_un e, pk_un e]
    by_cases e2 : j = a
    · rw [e2, pk_us, pk_us]
    · rw [pk_un e2, pk_un e2, pk_un e, pk_un e2]
theorem plF_le (SQ : Nat → Int64) (z : Nat) : ∀ (u x : Nat) (lf : Int32), x ≤ z → plF SQ z u x lf ≤ z
  | 0, _, _, h => h
  | u + 1, x, lf, h => by
    show (if x < z ∧ 0 < lf then plF SQ z u (bhN SQ z x) (lf + -1) else x) ≤ z
    by_cases h1 : x < z ∧ 0 < lf
    · rw [if_pos h1]
      exact plF_le SQ z u _ _ (bhN_lt SQ h1.1).2
    · rw [if_neg h1]; exact h
/-- what a beat's answer needs of the squares -/
def btH (SQ : Nat → Int64) (z : Nat) (base : Int64) : Prop := 0 ≤ base ∧ ∀ x, x < z → 0 ≤ SQ x ∧ ¬ gcM (SQ x) base = 0 ∧ (¬ SQ x = 0 → ∃ q : Nat, q < 360000000000000000 ∧ base / SQ x = lN q ∧ (base / SQ x).toInt.toNat = q)

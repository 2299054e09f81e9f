/-! a combination and those turned -/
theorem NZ_ng (pi qi pj qj a b c d : Int) : NZ pi qi pj qj (-a) (-b) (-c) (-d) = NZ pi qi pj qj a b c d := by
  unfold NZ UZ VZ
  grind
theorem nN_ng (P Q : Nat → Int32) (i j : Nat) (a b c d : Int) : nN P Q i j (-a) (-b) (-c) (-d) = nN P Q i j a b c d := by
  unfold nN
  rw [NZ_ng]
theorem nN_rt (P Q : Nat → Int32) (i j : Nat) (a b c d : Int) : nN P Q i j (-b) a (-d) c = nN P Q i j a b c d := by
  unfold nN
  rw [NZ_rt]
/-- one of the four numbers, for this order -/
def ow (w : Nat) (a : Int) : Prop := -(w : Int) ≤ a ∧ a ≤ (w : Int)
theorem ow_o2 {w : Nat} (hw : w = 1 ∨ w = 2) {a : Int} (h : ow w a) : o2 a := by
  unfold ow at h
  unfold o2
  omega
theorem ow_neg {w : Nat} {a : Int} (h : ow w a) : ow w (-a) := by
  unfold ow at *
  omega
theorem tu_lo (v : Int32) {w : Nat} (hw : w = 1 ∨ w = 2) : ∃ z : Int, nI (lowN v (2 * w + 1)) - nI w = iI z ∧ ow w z := by
  have h := low_lt v (k := 2 * w + 1) (by omega)
  refine ⟨((lowN v (2 * w + 1) : Nat) : Int) - (w : Int), ?_, ?_⟩
  · rw [← iI_nI, ← iI_nI, iI_sub]
  · unfold ow
    omega
theorem iI_i {a b : Int} (ha : o2 a) (hb : o2 b) : iI a = iI b ↔ a = b := by
  unfold o2 at *
  constructor
  · intro h
    have h2 := congrArg Int32.toInt h
    rwa [i_z _ (by omega) (by omega), i_z _ (by omega) (by omega)] at h2
  · intro h; rw [h]
theorem iI_z0 {a : Int} (ha : o2 a) : iI a = 0 ↔ a = 0 := iI_i (b := 0) ha (by unfold o2; omega)
theorem fp_iI {w : Nat} (hw : w = 1 ∨ w = 2) {a b : Int} (ha : ow w a) (hb : ow w b) : fpP (nI w) (iI a) (iI b) ↔ (a ≠ 0 ∨ b ≠ 0) := by
  have oa := ow_o2 hw ha
  have ob := ow_o2 hw hb
  have e1 : -nI w = iI (-(w : Int)) := by rw [← iI_nI, iI_neg]
  have e2 : nI w = iI (w : Int) := (iI_nI w).symm
  have le : ∀ x y : Int, -10 ≤ x → x ≤ 10 → -10 ≤ y → y ≤ 10 → (iI x ≤ iI y ↔ x ≤ y) := fun x y h1 h2 h3 h4 => by
    rw [Int32.le_iff_toInt_le, i_z _ (by omega) (by omega), i_z _ (by omega) (by omega)]
  unfold ow at ha hb
  unfold fpP
  rw [e1, e2, le _ _ (by omega) (by omega) (by omega) (by omega), le _ _ (by omega) (by omega) (by omega) (by omega), le _ _ (by omega) (by omega) (by omega) (by omega), le _ _ (by omega) (by omega) (by omega) (by omega), iI_z0 oa, iI_z0 ob]
  constructor
  · intro h; omega
  · intro h; omega
theorem fp_big {w : Nat} (hw : w = 1 ∨ w = 2) (b : Int32) : ¬ fpP (nI w) (nI (w + 1)) b := fun h => by
  have h2 := (nI_leI (a := w + 1) (b := w) (by omega) (by omega)).mp h.2.1
  omega
/-- the norm of a combination, and its kind -/
theorem tu_n {P Q : Nat → Int32} {n i j w : Nat} (h : VP P Q n) (hi : i < n) (hj : j < n) (hw : w = 1 ∨ w = 2) {a b c d : Int} (ha : ow w a) (hb : ow w b) (hc : ow w c) (hd : ow w d) : pnI (P i) (Q i) (P j) (Q j) (iI a) (iI b) (iI c) (iI d) = nI (nN P Q i j a b c d) ∧ nN P Q i j a b c d ≤ 51200 :=
  ⟨pnI_n h hi hj (ow_o2 hw ha) (ow_o2 hw hb) (ow_o2 hw hc) (ow_o2 hw hd), (nN_z h hi hj (ow_o2 hw ha) (ow_o2 hw hb) (ow_o2 hw hc) (ow_o2 hw hd)).2⟩
theorem kb_0 (A : Nat) (f ll : Int32) (N : Nat) : kb A f ll N = 0 ↔ N = 0 := by
  unfold kb kN
  by_cases h0 : N = 0
  · rw [if_pos h0]
    exact ⟨fun _ => h0, fun _ => rfl⟩
  · rw [if_neg h0]
    refine ⟨fun q => ?_, fun q => absurd q h0⟩
    by_cases h1 : N * (fX f * fX f) < A
    · rw [if_pos h1] at q
      by_cases h2 : A < N * (fX ll * fX ll)
      · rw [if_pos h2] at q; omega
      · rw [if_neg h2] at q; omega
    · rw [if_neg h1] at q; omega
theorem tu_b0 {w : Nat} (hw : w = 1 ∨ w = 2) {a b c d : Int} (ha : ow w a) (hb : ow w b) (hc : ow w c) (hd : ow w d) (h1 : fpP (nI w) (iI a) (iI b)) (h2 : fpP (nI w) (iI c) (iI d)) : (a ≠ 0 ∨ b ≠ 0) ∧ (c ≠ 0 ∨ d ≠ 0) := ⟨(fp_iI hw ha hb).mp h1, (fp_iI hw hc hd).mp h2⟩
theorem tu_b1 {w : Nat} (hw : w = 1 ∨ w = 2) {a b c d : Int} (ha : ow w a) (hb : ow w b) (hc : ow w c) (hd : ow w d) (h1 : fpP (nI w) (iI (-a)) (iI (-b))) (h2 : fpP (nI w) (iI (-c)) (iI (-d))) : (a ≠ 0 ∨ b ≠ 0) ∧ (c ≠ 0 ∨ d ≠ 0) := by
  have := tu_b0 hw (ow_neg ha) (ow_neg hb) (ow_neg hc) (ow_neg hd) h1 h2
  omega
theorem tu_b2 {w : Nat} (hw : w = 1 ∨ w = 2) {a b c d : Int} (ha : ow w a) (hb : ow w b) (hc : ow w c) (hd : ow w d) (h1 : fpP (nI w) (iI (-b)) (iI a)) (h2 : fpP (nI w) (iI (-d)) (iI c)) : (a ≠ 0 ∨ b ≠ 0) ∧ (c ≠ 0 ∨ d ≠ 0) := by
  have := tu_b0 hw (ow_neg hb) ha (ow_neg hd) hc h1 h2
  omega
theorem tu_k3 (A : Nat) (f ll : Int32) (N : Nat) : nI (kb A f ll N) ≤ 3 := by
  have h := kb_le A f ll N
  exact (nI_leI (a := kb A f ll N) (b := 3) (by omega) (by omega)).mpr h

/-! single squares, tiles -/
theorem fp_o2 {w : Nat} {a b : Int32} (hw : w = 1 ∨ w = 2) (h : fpP (nI w) a b) : o2 a.toInt ∧ o2 b.toInt := by
  obtain ⟨h1, h2, h3, h4, _⟩ := h
  have e : -nI w = iI (-(w : Int)) := by rw [← iI_nI, iI_neg]
  have key : ∀ x : Int32, -nI w ≤ x → x ≤ nI w → o2 x.toInt := by
    intro x g1 g2
    rw [e, Int32.le_iff_toInt_le, i_z _ (by omega) (by omega)] at g1
    rw [Int32.le_iff_toInt_le, nI_toInt (by omega)] at g2
    unfold o2
    omega
  exact ⟨key a h1 h2, key b h3 h4⟩
theorem sq_ok {P Q : Nat → Int32} {n i j w : Nat} {f ll a b c d : Int32} (h : VP P Q n) (hv : LV f ll) (hi : i < n) (hj : j < n) (hw : w = 1 ∨ w = 2) (h1 : fpP (nI w) a b) (h2 : fpP (nI w) c d) :
    (dvL (pnI (P i) (Q i) (P j) (Q j) a b c d).toInt64 (gcL (pnI (P i) (Q i) (P j) (Q j) a b c d).toInt64 ((ar P Q i).toInt64 * (ar P Q j).toInt64)) = (psL P Q i j a b c d) / gcM (psL P Q i j a b c d) (bsL P Q i j)
    ∧ dvL ((ar P Q i).toInt64 * (ar P Q j).toInt64) (gcL (pnI (P i) (Q i) (P j) (Q j) a b c d).toInt64 ((ar P Q i).toInt64 * (ar P Q j).toInt64)) = (bsL P Q i j) / gcM (psL P Q i j a b c d) (bsL P Q i j))
    ∧ kdI (pnI (P i) (Q i) (P j) (Q j) a b c d) (lfL ((ar P Q i).toInt64 * (ar P Q j).toInt64) f) (glL ((ar P Q i).toInt64 * (ar P Q j).toInt64) ll) = kdM f ll (psL P Q i j a b c d) (bsL P Q i j)
    ∧ 0 ≤ psL P Q i j a b c d ∧ 0 ≤ bsL P Q i j ∧ ¬ gcM (psL P Q i j a b c d) (bsL P Q i j) = 0 := by
  obtain ⟨oa, ob⟩ := fp_o2 hw h1
  obtain ⟨oc, od⟩ := fp_o2 hw h2
  have e1 := pnI_n h hi hj oa ob oc od
  have e2 := psL_n h hi hj oa ob oc od
  have e3 := bsL_n h hi hj
  have b1 := (nN_z h hi hj oa ob oc od).2
  rw [iI_toInt, iI_toInt, iI_toInt, iI_toInt] at e1 e2
  rw [e1, e2, e3, aP_lN h hi hj]
  generalize nN P Q i j a.toInt b.toInt c.toInt d.toInt = N at b1 ⊢
  have a1 := aP_bd h hi hj
  show (_ = lN (N * aP P Q i j) / gcM (lN (N * aP P Q i j)) (lN (aP P Q i j * aP P Q i j)) ∧ _ = lN (aP P Q i j * aP P Q i j) / gcM (lN (N * aP P Q i j)) (lN (aP P Q i j * aP P Q i j))) ∧ _ = kdM f ll (lN (N * aP P Q i j)) (lN (aP P Q i j * aP P Q i j)) ∧ 0 ≤ lN (N * aP P Q i j) ∧ 0 ≤ lN (aP P Q i j * aP P Q i j) ∧ ¬ gcM (lN (N * aP P Q i j)) (lN (aP P Q i j * aP P Q i j)) = 0
  generalize aP P Q i j = A at a1 ⊢
  have hNA : N * A ≤ 51200 * 640000 := Nat.mul_le_mul b1 a1.2
  have hAA : A * A ≤ 640000 * 640000 := Nat.mul_le_mul a1.2 a1.2
  have g0 : 0 < Nat.gcd N A := Nat.gcd_pos_of_pos_right N (by omega)
  have gA : Nat.gcd N A ≤ A := Nat.gcd_le_right N (by omega)
  have gm : Nat.gcd (N * A) (A * A) = Nat.gcd N A * A := Nat.gcd_mul_right N A A
  have gp : 0 < Nat.gcd N A * A := Nat.mul_pos g0 a1.1
  have gb : Nat.gcd N A * A ≤ A * A := Nat.mul_le_mul_right A gA
  rw [nI_toL (by omega), gcL_n (by omega) (by omega), gcM_n (by omega) (by omega), gm, dvL_n (by omega) (by omega), dvL_n (by omega) (by omega), pk_lDiv (by omega) gp (by omega), pk_lDiv (by omega) gp (by omega), Nat.mul_div_mul_right N _ a1.1, Nat.mul_div_mul_right A _ a1.1]
  exact ⟨⟨rfl, rfl⟩, by rw [kdI_k hv (by omega) (by omega), kdM_k hv (by omega) a1.1 (by omega) (by omega)], lN_nn (by omega), lN_nn (by omega), lN_ne (by omega) gp⟩
/-! tiles -/
def pN (P : Nat → Int32) (k : Nat) : Nat := (P k).toInt.toNat
def tN (P Q : Nat → Int32) (k : Nat) : Nat := aN P Q k / Nat.gcd (pN P k) (pN Q k)
theorem pN_e {P Q : Nat → Int32} {n k : Nat} (h : VP P Q n) (hk : k < n) : (P k = nI (pN P k) ∧ 1 ≤ pN P k ∧ pN P k ≤ 20) ∧ Q k = nI (pN Q k) ∧ pN Q k ≤ 20 := by
  obtain ⟨⟨h1, h2⟩, h3, h4⟩ := h k hk
  refine ⟨⟨?_, by unfold pN; omega, by unfold pN; omega⟩, ?_, by unfold pN; omega⟩
  · unfold pN
    rw [← iI_nI, Int.toNat_of_nonneg (by omega), iI_toInt]
  · unfold pN
    rw [← iI_nI, Int.toNat_of_nonneg (by omega), iI_toInt]
theorem tN_bd {P Q : Nat → Int32} {n k : Nat} (h : VP P Q n) (hk : k < n) : (0 < Nat.gcd (pN P k) (pN Q k) ∧ Nat.gcd (pN P k) (pN Q k) ≤ 20) ∧ tN P Q k ≤ 800 ∧ 1 ≤ tN P Q k := by
  obtain ⟨⟨e1, p1, p2⟩, e2, q2⟩ := pN_e h hk
  have a := aN_bd h hk
  have g0 : 0 < Nat.gcd (pN P k) (pN Q k) := Nat.gcd_pos_of_pos_left _ (by omega)
  have g1 : Nat.gcd (pN P k) (pN Q k) ≤ pN P k := Nat.gcd_le_left _ (by omega)
  have pp : pN P k * 1 ≤ pN P k * pN P k := Nat.mul_le_mul_left _ p1
  have ea : aN P Q k = pN P k * pN P k + pN Q k * pN Q k := by
    obtain ⟨⟨h1, h2⟩, h3, h4⟩ := h k hk
    have z := aN_Z h hk
    have zp : ((pN P k : Nat) : Int) = pz P k := by unfold pN pz; omega
    have zq : ((pN Q k : Nat) : Int) = pz Q k := by unfold pN pz; omega
    unfold AZ at z
    rw [← zp, ← zq] at z
    have z2 : ((aN P Q k : Nat) : Int) = ((pN P k * pN P k + pN Q k * pN Q k : Nat) : Int) := by
      rw [z, Int.natCast_add, Int.natCast_mul, Int.natCast_mul]
    exact Int.natCast_inj.mp z2
  refine ⟨⟨g0, by omega⟩, Nat.le_trans (Nat.div_le_self _ _) a.2, ?_⟩
  unfold tN
  exact (Nat.one_le_div_iff g0).mpr (by omega)
theorem tl_n {P Q : Nat → Int32} {n k : Nat} (h : VP P Q n) (hk : k < n) : tlL P Q k = lN (tN P Q k) ∧ tmL P Q k = nI (tN P Q k) ∧ 0 ≤ (P k).toInt64 ∧ 0 ≤ (Q k).toInt64 ∧ ¬ (gcM (P k).toInt64 (Q k).toInt64).toInt32 = 0 := by
  obtain ⟨⟨e1, p1, p2⟩, e2, q2⟩ := pN_e h hk
  obtain ⟨⟨g0, g1⟩, t1, t2⟩ := tN_bd h hk
  have a := aN_bd h hk
  unfold tlL tmL
  rw [ar_lN h hk, ar_nI h hk, e1, e2, nI_toL (by omega), nI_toL (by omega), gcL_n (by omega) (by omega), gcM_n (by omega) (by omega), dvL_n (by omega) (by omega), lN_i, pk_div (by omega) g0 (by omega)]
  refine ⟨rfl, rfl, lN_nn (by omega), lN_nn (by omega), fun q => ?_⟩
  have := (nI_eq (a := Nat.gcd (pN P k) (pN Q k)) (b := 0) (by omega) (by omega)).mp q
  omega
theorem tlH_of {P Q : Nat → Int32} {n : Nat} (h : VP P Q n) : tlH P Q n := fun k hk => (tl_n h hk).2.2
theorem tile_ok {P Q : Nat → Int32} {n k : Nat} (h : VP P Q n) (hk : k < n) : (tlL P Q k).toInt32 = tmL P Q k := by
  rw [(tl_n h hk).1, (tl_n h hk).2.1, lN_i]
def cN (P Q : Nat → Int32) : Nat → Nat
  | 0 => 1
  | k + 1 => cN P Q k / Nat.gcd (cN P Q k) (tN P Q k) * tN P Q k
theorem cN_bd {P Q : Nat → Int32} {n : Nat} (h : VP P Q n) : ∀ k, k ≤ n → cN P Q k ≤ 800 ^ k
  | 0, _ => Nat.le_refl _
  | k + 1, hk => by
    show cN P Q k / Nat.gcd (cN P Q k) (tN P Q k) * tN P Q k ≤ 800 ^ (k + 1)
    rw [Nat.pow_succ]
    exact Nat.mul_le_mul (Nat.le_trans (Nat.div_le_self _ _) (cN_bd h k (by omega))) (tN_bd h (by omega)).2.1
theorem ct_n {P Q : Nat → Int32} {n : Nat} (h : VP P Q n) (hn : n ≤ 4) : ∀ k, k ≤ n → ctF P Q k = lN (cN P Q k) ∧ cmF P Q k = lN (cN P Q k) ∧ ∀ x, x < k → 0 ≤ cmF P Q x ∧ 0 ≤ (tmL P Q x).toInt64 ∧ ¬ gcM (cmF P Q x) (tmL P Q x).toInt64 = 0
  | 0, _ => ⟨rfl, rfl, fun x hx => absurd hx (Nat.not_lt_zero _)⟩
  | k + 1, hk => by
    obtain ⟨h1, h2, h3⟩ := ct_n h hn k (by omega)
    have b1 := cN_bd h k (by omega)
    have b2 : (800 : Nat) ^ k ≤ 800 ^ 4 := Nat.pow_le_pow_right (by decide) (by omega)
    have b3 : (800 : Nat) ^ 4 = 409600000000 := by decide
    obtain ⟨_, t1, t2⟩ := tN_bd h (show k < n by omega)
    obtain ⟨l1, l2, _⟩ := tl_n h (show k < n by omega)
    have g0 : 0 < Nat.gcd (cN P Q k) (tN P Q k) := Nat.gcd_pos_of_pos_right _ (by omega)
    have g1 : Nat.gcd (cN P Q k) (tN P Q k) ≤ tN P Q k := Nat.gcd_le_right _ (by omega)
    refine ⟨?_, ?_, fun x hx => ?_⟩
    · show dvL (ctF P Q k) (gcL (ctF P Q k) (tlL P Q k)) * tlL P Q k = _
      rw [h1, l1, gcL_n (by omega) (by omega), dvL_n (by omega) (by omega), lN_mul]; rfl
    · show cmF P Q k / gcM (cmF P Q k) (tmL P Q k).toInt64 * (tmL P Q k).toInt64 = _
      rw [h2, l2, nI_toL (by omega), gcM_n (by omega) (by omega), pk_lDiv (by omega) g0 (by omega), lN_mul]; rfl
    · by_cases e : x = k
      · subst e
        rw [h2, l2, nI_toL (by omega), gcM_n (by omega) (by omega)]
        exact ⟨lN_nn (by omega), lN_nn (by omega), lN_ne (by omega) g0⟩
      · exact h3 x (by omega)

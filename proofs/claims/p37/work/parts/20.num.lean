/-! machine numbers as whole numbers: plates, areas, the squares of a pair -/
def jI (z : Int) : Int64 := Int64.ofInt z
theorem iI_add (a b : Int) : iI a + iI b = iI (a + b) := (Int32.ofInt_add a b).symm
theorem iI_sub (a b : Int) : iI a - iI b = iI (a - b) := (Int32.ofInt_sub a b).symm
theorem iI_mul (a b : Int) : iI a * iI b = iI (a * b) := (Int32.ofInt_mul a b).symm
theorem iI_neg (a : Int) : -iI a = iI (-a) := (Int32.ofInt_neg a).symm
theorem jI_add (a b : Int) : jI a + jI b = jI (a + b) := (Int64.ofInt_add a b).symm
theorem jI_sub (a b : Int) : jI a - jI b = jI (a - b) := (Int64.ofInt_sub a b).symm
theorem jI_mul (a b : Int) : jI a * jI b = jI (a * b) := (Int64.ofInt_mul a b).symm
theorem jI_lN (n : Nat) : jI (n : Int) = lN n := Int64.ofInt_eq_ofNat
theorem iI_toInt (x : Int32) : iI x.toInt = x := Int32.ofInt_toInt x
theorem iI_toL {z : Int} (h1 : -1000000000 ≤ z) (h2 : z ≤ 1000000000) : (iI z).toInt64 = jI z := by
  rw [← Int64.ofInt_int32ToInt, i_z z h1 h2]; rfl
theorem nI_toL {n : Nat} (h : n ≤ 1000000000) : (nI n).toInt64 = lN n := by
  rw [← iI_nI, iI_toL (by omega) (by omega), jI_lN]
theorem sq_nn (z : Int) : 0 ≤ z * z := by
  rcases Int.le_total 0 z with h | h
  · exact Int.mul_nonneg h h
  · exact Int.mul_nonneg_of_nonpos_of_nonpos h h
theorem sq_bd {z b : Int} (h1 : -b ≤ z) (h2 : z ≤ b) : z * z ≤ b * b := by
  rcases Int.le_total 0 z with h | h
  · exact Int.mul_self_le_mul_self h h2
  · have h3 := Int.mul_self_le_mul_self (a := -z) (b := b) (by omega) (by omega)
    rwa [Int.neg_mul_neg] at h3
theorem mul_bd {x y a b : Int} (h1 : -a ≤ x) (h2 : x ≤ a) (h3 : -b ≤ y) (h4 : y ≤ b) : -(a * b) ≤ x * y ∧ x * y ≤ a * b := by
  have e1 : -x * y = -(x * y) := Int.neg_mul x y
  have e2 : x * -y = -(x * y) := Int.mul_neg x y
  have e3 : -x * -y = x * y := Int.neg_mul_neg x y
  have ha : 0 ≤ a := by omega
  rcases Int.le_total 0 x with hx | hx <;> rcases Int.le_total 0 y with hy | hy
  · have m1 := Int.mul_nonneg hx hy
    have m2 := Int.mul_le_mul h2 h4 hy ha
    omega
  · have m1 := Int.mul_nonneg hx (show 0 ≤ -y by omega)
    have m2 := Int.mul_le_mul h2 (show -y ≤ b by omega) (show 0 ≤ -y by omega) ha
    omega
  · have m1 := Int.mul_nonneg (show 0 ≤ -x by omega) hy
    have m2 := Int.mul_le_mul (show -x ≤ a by omega) h4 hy ha
    omega
  · have m1 := Int.mul_nonneg (show 0 ≤ -x by omega) (show 0 ≤ -y by omega)
    have m2 := Int.mul_le_mul (show -x ≤ a by omega) (show -y ≤ b by omega) (show 0 ≤ -y by omega) ha
    omega
/-- the plates are as the document has them -/
def VP (P Q : Nat → Int32) (n : Nat) : Prop := ∀ k, k < n → (1 ≤ (P k).toInt ∧ (P k).toInt ≤ 20) ∧ 0 ≤ (Q k).toInt ∧ (Q k).toInt ≤ 20
theorem VP_upd {P Q : Nat → Int32} {n : Nat} (h : VP P Q n) (k x y : Nat) (h1 : 1 ≤ x) (h2 : x ≤ 20) (h3 : y ≤ 20) : VP (upd P k (nI x)) (upd Q k (nI y)) n := by
  intro j hj
  by_cases e : j = k
  · rw [e, pk_us, pk_us, nI_toInt (by omega), nI_toInt (by omega)]
    omega
  · rw [pk_un e, pk_un e]
    exact h j hj
def pz (P : Nat → Int32) (k : Nat) : Int := (P k).toInt
def AZ (P Q : Nat → Int32) (k : Nat) : Int := pz P k * pz P k + pz Q k * pz Q k
def aN (P Q : Nat → Int32) (k : Nat) : Nat := (AZ P Q k).toNat
theorem AZ_bd {P Q : Nat → Int32} {n k : Nat} (h : VP P Q n) (hk : k < n) : 1 ≤ AZ P Q k ∧ AZ P Q k ≤ 800 := by
  obtain ⟨⟨h1, h2⟩, h3, h4⟩ := h k hk
  have a1 := Int.mul_self_le_mul_self (a := 1) (b := (P k).toInt) (by omega) h1
  have a2 := Int.mul_self_le_mul_self (a := (P k).toInt) (b := 20) (by omega) h2
  have a3 := sq_nn (Q k).toInt
  have a4 := Int.mul_self_le_mul_self (a := (Q k).toInt) (b := 20) h3 h4
  unfold AZ pz
  omega
theorem aN_bd {P Q : Nat → Int32} {n k : Nat} (h : VP P Q n) (hk : k < n) : 1 ≤ aN P Q k ∧ aN P Q k ≤ 800 := by
  have := AZ_bd h hk
  unfold aN
  omega
theorem aN_Z {P Q : Nat → Int32} {n k : Nat} (h : VP P Q n) (hk : k < n) : ((aN P Q k : Nat) : Int) = AZ P Q k := by
  have := AZ_bd h hk
  unfold aN
  omega
theorem P_z (P : Nat → Int32) (k : Nat) : P k = iI (pz P k) := (iI_toInt (P k)).symm
theorem ar_z (P Q : Nat → Int32) (k : Nat) : ar P Q k = iI (AZ P Q k) := by
  unfold ar AZ
  rw [P_z P k, P_z Q k, iI_mul, iI_mul, iI_add]
theorem ar_nI {P Q : Nat → Int32} {n k : Nat} (h : VP P Q n) (hk : k < n) : ar P Q k = nI (aN P Q k) := by
  rw [ar_z, ← aN_Z h hk, iI_nI]
theorem ar_lN {P Q : Nat → Int32} {n k : Nat} (h : VP P Q n) (hk : k < n) : (ar P Q k).toInt64 = lN (aN P Q k) := by
  have := aN_bd h hk
  rw [ar_nI h hk, nI_toL (by omega)]
/-- both parts of a combination's beat, times conj z(i) conj z(j) -/
def UZ (pi qi pj qj a b c d : Int) : Int := (a * pj + b * qj) - (c * pi + d * qi)
def VZ (pi qi pj qj a b c d : Int) : Int := (b * pj - a * qj) - (d * pi - c * qi)
def NZ (pi qi pj qj a b c d : Int) : Int := UZ pi qi pj qj a b c d * UZ pi qi pj qj a b c d + VZ pi qi pj qj a b c d * VZ pi qi pj qj a b c d
theorem pnI_z (P Q : Nat → Int32) (i j : Nat) (a b c d : Int) : pnI (P i) (Q i) (P j) (Q j) (iI a) (iI b) (iI c) (iI d) = iI (NZ (pz P i) (pz Q i) (pz P j) (pz Q j) a b c d) := by
  unfold pnI reI imI NZ UZ VZ
  rw [P_z P i, P_z Q i, P_z P j, P_z Q j]
  simp only [iI_mul, iI_add, iI_sub]
/-- one of the four numbers of a combination -/
def o2 (a : Int) : Prop := -2 ≤ a ∧ a ≤ 2
theorem UV_bd {P Q : Nat → Int32} {n i j : Nat} (h : VP P Q n) (hi : i < n) (hj : j < n) {a b c d : Int} (ha : o2 a) (hb : o2 b) (hc : o2 c) (hd : o2 d) :
    (-160 ≤ UZ (pz P i) (pz Q i) (pz P j) (pz Q j) a b c d ∧ UZ (pz P i) (pz Q i) (pz P j) (pz Q j) a b c d ≤ 160) ∧ -160 ≤ VZ (pz P i) (pz Q i) (pz P j) (pz Q j) a b c d ∧ VZ (pz P i) (pz Q i) (pz P j) (pz Q j) a b c d ≤ 160 := by
  obtain ⟨⟨i1, i2⟩, i3, i4⟩ := h i hi
  obtain ⟨⟨j1, j2⟩, j3, j4⟩ := h j hj
  have w1 := mul_bd (b := 20) ha.1 ha.2 (show -20 ≤ pz P j by unfold pz; omega) j2
  have w2 := mul_bd (b := 20) hb.1 hb.2 (show -20 ≤ pz Q j by unfold pz; omega) j4
  have w3 := mul_bd (b := 20) hc.1 hc.2 (show -20 ≤ pz P i by unfold pz; omega) i2
  have w4 := mul_bd (b := 20) hd.1 hd.2 (show -20 ≤ pz Q i by unfold pz; omega) i4
  have w5 := mul_bd (b := 20) hb.1 hb.2 (show -20 ≤ pz P j by unfold pz; omega) j2
  have w6 := mul_bd (b := 20) ha.1 ha.2 (show -20 ≤ pz Q j by unfold pz; omega) j4
  have w7 := mul_bd (b := 20) hd.1 hd.2 (show -20 ≤ pz P i by unfold pz; omega) i2
  have w8 := mul_bd (b := 20) hc.1 hc.2 (show -20 ≤ pz Q i by unfold pz; omega) i4
  simp only [pz] at *
  unfold UZ VZ
  omega
def nN (P Q : Nat → Int32) (i j : Nat) (a b c d : Int) : Nat := (NZ (pz P i) (pz Q i) (pz P j) (pz Q j) a b c d).toNat
theorem NZ_bd {P Q : Nat → Int32} {n i j : Nat} (h : VP P Q n) (hi : i < n) (hj : j < n) {a b c d : Int} (ha : o2 a) (hb : o2 b) (hc : o2 c) (hd : o2 d) : 0 ≤ NZ (pz P i) (pz Q i) (pz P j) (pz Q j) a b c d ∧ NZ (pz P i) (pz Q i) (pz P j) (pz Q j) a b c d ≤ 51200 := by
  obtain ⟨⟨u1, u2⟩, v1, v2⟩ := UV_bd h hi hj ha hb hc hd
  have m1 := sq_bd u1 u2
  have m2 := sq_bd v1 v2
  have m3 := sq_nn (UZ (pz P i) (pz Q i) (pz P j) (pz Q j) a b c d)
  have m4 := sq_nn (VZ (pz P i) (pz Q i) (pz P j) (pz Q j) a b c d)
  unfold NZ
  omega
theorem nN_z {P Q : Nat → Int32} {n i j : Nat} (h : VP P Q n) (hi : i < n) (hj : j < n) {a b c d : Int} (ha : o2 a) (hb : o2 b) (hc : o2 c) (hd : o2 d) : ((nN P Q i j a b c d : Nat) : Int) = NZ (pz P i) (pz Q i) (pz P j) (pz Q j) a b c d ∧ nN P Q i j a b c d ≤ 51200 := by
  have := NZ_bd h hi hj ha hb hc hd
  unfold nN
  omega
theorem pnI_n {P Q : Nat → Int32} {n i j : Nat} (h : VP P Q n) (hi : i < n) (hj : j < n) {a b c d : Int} (ha : o2 a) (hb : o2 b) (hc : o2 c) (hd : o2 d) : pnI (P i) (Q i) (P j) (Q j) (iI a) (iI b) (iI c) (iI d) = nI (nN P Q i j a b c d) := by
  rw [pnI_z, ← (nN_z h hi hj ha hb hc hd).1, iI_nI]
/-- the square times both areas squared is the norm times both areas -/
theorem norm_id (pi qi pj qj a b c d : Int) :
    ((a * pi - b * qi) * (pj * pj + qj * qj) - (c * pj - d * qj) * (pi * pi + qi * qi)) * ((a * pi - b * qi) * (pj * pj + qj * qj) - (c * pj - d * qj) * (pi * pi + qi * qi)) + ((a * qi + b * pi) * (pj * pj + qj * qj) - (c * qj + d * pj) * (pi * pi + qi * qi)) * ((a * qi + b * pi) * (pj * pj + qj * qj) - (c * qj + d * pj) * (pi * pi + qi * qi)) = NZ pi qi pj qj a b c d * ((pi * pi + qi * qi) * (pj * pj + qj * qj)) := by
  have e1 : (a * pi - b * qi) * (pj * pj + qj * qj) - (c * pj - d * qj) * (pi * pi + qi * qi) = (pi * pj - qi * qj) * UZ pi qi pj qj a b c d - (pi * qj + qi * pj) * VZ pi qi pj qj a b c d := by
    unfold UZ VZ; grind
  have e2 : (a * qi + b * pi) * (pj * pj + qj * qj) - (c * qj + d * pj) * (pi * pi + qi * qi) = (pi * pj - qi * qj) * VZ pi qi pj qj a b c d + (pi * qj + qi * pj) * UZ pi qi pj qj a b c d := by
    unfold UZ VZ; grind
  rw [e1, e2]
  unfold NZ
  generalize UZ pi qi pj qj a b c d = U
  generalize VZ pi qi pj qj a b c d = V
  grind
theorem psL_n {P Q : Nat → Int32} {n i j : Nat} (h : VP P Q n) (hi : i < n) (hj : j < n) {a b c d : Int} (ha : o2 a) (hb : o2 b) (hc : o2 c) (hd : o2 d) : psL P Q i j (iI a) (iI b) (iI c) (iI d) = lN (nN P Q i j a b c d * (aN P Q i * aN P Q j)) := by
  obtain ⟨⟨i1, i2⟩, i3, i4⟩ := h i hi
  obtain ⟨⟨j1, j2⟩, j3, j4⟩ := h j hj
  have w1 := mul_bd (b := 20) ha.1 ha.2 (show -20 ≤ pz P i by unfold pz; omega) i2
  have w2 := mul_bd (b := 20) hb.1 hb.2 (show -20 ≤ pz Q i by unfold pz; omega) i4
  have w3 := mul_bd (b := 20) hc.1 hc.2 (show -20 ≤ pz P j by unfold pz; omega) j2
  have w4 := mul_bd (b := 20) hd.1 hd.2 (show -20 ≤ pz Q j by unfold pz; omega) j4
  have w5 := mul_bd (b := 20) hb.1 hb.2 (show -20 ≤ pz P i by unfold pz; omega) i2
  have w6 := mul_bd (b := 20) ha.1 ha.2 (show -20 ≤ pz Q i by unfold pz; omega) i4
  have w7 := mul_bd (b := 20) hd.1 hd.2 (show -20 ≤ pz P j by unfold pz; omega) j2
  have w8 := mul_bd (b := 20) hc.1 hc.2 (show -20 ≤ pz Q j by unfold pz; omega) j4
  have b1 := AZ_bd h hi
  have b2 := AZ_bd h hj
  simp only [pz] at w1 w2 w3 w4 w5 w6 w7 w8
  have eX : psX P Q i j (iI a) (iI b) (iI c) (iI d) = jI ((a * pz P i - b * pz Q i) * AZ P Q j - (c * pz P j - d * pz Q j) * AZ P Q i) := by
    unfold psX
    rw [ar_z, ar_z, P_z P i, P_z Q i, P_z P j, P_z Q j]
    simp only [iI_mul, iI_sub]
    rw [iI_toL (by simp only [pz]; omega) (by simp only [pz]; omega), iI_toL (by omega) (by omega), iI_toL (by simp only [pz]; omega) (by simp only [pz]; omega), iI_toL (by omega) (by omega)]
    simp only [jI_mul, jI_sub]
  have eY : psY P Q i j (iI a) (iI b) (iI c) (iI d) = jI ((a * pz Q i + b * pz P i) * AZ P Q j - (c * pz Q j + d * pz P j) * AZ P Q i) := by
    unfold psY
    rw [ar_z, ar_z, P_z P i, P_z Q i, P_z P j, P_z Q j]
    simp only [iI_mul, iI_add]
    rw [iI_toL (by simp only [pz]; omega) (by simp only [pz]; omega), iI_toL (by omega) (by omega), iI_toL (by simp only [pz]; omega) (by simp only [pz]; omega), iI_toL (by omega) (by omega)]
    simp only [jI_mul, jI_sub]
  unfold psL
  rw [eX, eY, jI_mul, jI_mul, jI_add, ← jI_lN]
  congr 1
  have e3 := norm_id (pz P i) (pz Q i) (pz P j) (pz Q j) a b c d
  rw [Int.natCast_mul, Int.natCast_mul, (nN_z h hi hj ha hb hc hd).1, aN_Z h hi, aN_Z h hj]
  exact e3
theorem bsL_n {P Q : Nat → Int32} {n i j : Nat} (h : VP P Q n) (hi : i < n) (hj : j < n) : bsL P Q i j = lN ((aN P Q i * aN P Q j) * (aN P Q i * aN P Q j)) := by
  unfold bsL
  rw [ar_lN h hi, ar_lN h hj, lN_mul, lN_mul]

/-! the combinations of a triple -/
def rZ (x y : Int) : Nat → Int × Int
  | 0 => (x, y)
  | u + 1 => (-(rZ x y u).2, (rZ x y u).1)
theorem rot_z (x y : Int) : ∀ u, rot (iI x) (iI y) u = (iI (rZ x y u).1, iI (rZ x y u).2)
  | 0 => rfl
  | u + 1 => by
    show (-(rot (iI x) (iI y) u).2, (rot (iI x) (iI y) u).1) = (iI (-(rZ x y u).2), iI (rZ x y u).1)
    rw [rot_z x y u, iI_neg]
theorem rZ_4 (x y : Int) (u : Nat) : rZ x y (u + 4) = rZ x y u := by
  show (-(-(rZ x y u).1), -(-(rZ x y u).2)) = rZ x y u
  rw [Int.neg_neg, Int.neg_neg]
theorem rZ_4s (x y : Int) (t : Nat) : ∀ s, rZ x y (4 * s + t) = rZ x y t
  | 0 => by rw [Nat.mul_zero, Nat.zero_add]
  | s + 1 => by
    rw [show 4 * (s + 1) + t = 4 * s + t + 4 by omega, rZ_4, rZ_4s x y t s]
def TV (x1 y1 x2 y2 x3 y3 : Int) (s u : Nat) : Int := (x1 + (rZ x2 y2 s).1 + (rZ x3 y3 u).1) * (x1 + (rZ x2 y2 s).1 + (rZ x3 y3 u).1) + (y1 + (rZ x2 y2 s).2 + (rZ x3 y3 u).2) * (y1 + (rZ x2 y2 s).2 + (rZ x3 y3 u).2)
theorem tnV_z (x1 y1 x2 y2 x3 y3 : Int) (s t : Nat) : tnV (iI x1) (iI y1) (iI x2) (iI y2) (iI x3) (iI y3) s (4 * s + t) = iI (TV x1 y1 x2 y2 x3 y3 s t) := by
  unfold tnV TV
  rw [rot_z, rot_z, rZ_4s]
  simp only [iI_add, iI_mul]
/-- products of two plates' numbers -/
def RZ (P Q : Nat → Int32) (i j : Nat) : Int := pz P i * pz P j - pz Q i * pz Q j
def SZ (P Q : Nat → Int32) (i j : Nat) : Int := pz P i * pz Q j + pz Q i * pz P j
theorem prRe_z (P Q : Nat → Int32) (i j : Nat) : prRe P Q i j = iI (RZ P Q i j) := by
  unfold prRe RZ
  rw [P_z P i, P_z Q i, P_z P j, P_z Q j]
  simp only [iI_mul, iI_sub]
theorem prIm_z (P Q : Nat → Int32) (i j : Nat) : prIm P Q i j = iI (SZ P Q i j) := by
  unfold prIm SZ
  rw [P_z P i, P_z Q i, P_z P j, P_z Q j]
  simp only [iI_mul, iI_add]
theorem RS_bd {P Q : Nat → Int32} {n i j : Nat} (h : VP P Q n) (hi : i < n) (hj : j < n) : (-800 ≤ RZ P Q i j ∧ RZ P Q i j ≤ 800) ∧ -800 ≤ SZ P Q i j ∧ SZ P Q i j ≤ 800 := by
  obtain ⟨⟨i1, i2⟩, i3, i4⟩ := h i hi
  obtain ⟨⟨j1, j2⟩, j3, j4⟩ := h j hj
  have w1 := mul_bd (a := 20) (b := 20) (show -20 ≤ pz P i by unfold pz; omega) i2 (show -20 ≤ pz P j by unfold pz; omega) j2
  have w2 := mul_bd (a := 20) (b := 20) (show -20 ≤ pz Q i by unfold pz; omega) i4 (show -20 ≤ pz Q j by unfold pz; omega) j4
  have w3 := mul_bd (a := 20) (b := 20) (show -20 ≤ pz P i by unfold pz; omega) i2 (show -20 ≤ pz Q j by unfold pz; omega) j4
  have w4 := mul_bd (a := 20) (b := 20) (show -20 ≤ pz Q i by unfold pz; omega) i4 (show -20 ≤ pz P j by unfold pz; omega) j2
  simp only [pz] at *
  unfold RZ SZ
  simp only [pz]
  omega
def T3 (P Q : Nat → Int32) (i j k s t : Nat) : Int := TV (RZ P Q j k) (SZ P Q j k) (RZ P Q i k) (SZ P Q i k) (RZ P Q i j) (SZ P Q i j) s t
def tN3 (P Q : Nat → Int32) (i j k : Nat) (p : Nat × Nat) : Nat := (T3 P Q i j k p.1 p.2).toNat
theorem rZ_bd {x y b : Int} (h1 : -b ≤ x) (h2 : x ≤ b) (h3 : -b ≤ y) (h4 : y ≤ b) : ∀ u, (-b ≤ (rZ x y u).1 ∧ (rZ x y u).1 ≤ b) ∧ -b ≤ (rZ x y u).2 ∧ (rZ x y u).2 ≤ b
  | 0 => ⟨⟨h1, h2⟩, h3, h4⟩
  | u + 1 => by
    have h := rZ_bd h1 h2 h3 h4 u
    show (-b ≤ -(rZ x y u).2 ∧ -(rZ x y u).2 ≤ b) ∧ -b ≤ (rZ x y u).1 ∧ (rZ x y u).1 ≤ b
    omega
theorem T3_bd {P Q : Nat → Int32} {n i j k : Nat} (h : VP P Q n) (hi : i < n) (hj : j < n) (hk : k < n) (s t : Nat) : 0 ≤ T3 P Q i j k s t ∧ T3 P Q i j k s t ≤ 11520000 := by
  obtain ⟨⟨a1, a2⟩, a3, a4⟩ := RS_bd h hj hk
  obtain ⟨⟨b1, b2⟩, b3, b4⟩ := RS_bd h hi hk
  obtain ⟨⟨c1, c2⟩, c3, c4⟩ := RS_bd h hi hj
  obtain ⟨⟨d1, d2⟩, d3, d4⟩ := rZ_bd b1 b2 b3 b4 s
  obtain ⟨⟨e1, e2⟩, e3, e4⟩ := rZ_bd c1 c2 c3 c4 t
  have m1 := sq_bd (b := 2400) (z := RZ P Q j k + (rZ (RZ P Q i k) (SZ P Q i k) s).1 + (rZ (RZ P Q i j) (SZ P Q i j) t).1) (by omega) (by omega)
  have m2 := sq_bd (b := 2400) (z := SZ P Q j k + (rZ (RZ P Q i k) (SZ P Q i k) s).2 + (rZ (RZ P Q i j) (SZ P Q i j) t).2) (by omega) (by omega)
  have m3 := sq_nn (RZ P Q j k + (rZ (RZ P Q i k) (SZ P Q i k) s).1 + (rZ (RZ P Q i j) (SZ P Q i j) t).1)
  have m4 := sq_nn (SZ P Q j k + (rZ (RZ P Q i k) (SZ P Q i k) s).2 + (rZ (RZ P Q i j) (SZ P Q i j) t).2)
  unfold T3 TV
  omega
theorem tN3_z {P Q : Nat → Int32} {n i j k : Nat} (h : VP P Q n) (hi : i < n) (hj : j < n) (hk : k < n) (p : Nat × Nat) : ((tN3 P Q i j k p : Nat) : Int) = T3 P Q i j k p.1 p.2 ∧ tN3 P Q i j k p ≤ 11520000 := by
  have := T3_bd h hi hj hk p.1 p.2
  unfold tN3
  omega
/-- the sixteen -/
def st16 : List (Nat × Nat) := [(0, 0), (0, 1), (0, 2), (0, 3), (1, 0), (1, 1), (1, 2), (1, 3), (2, 0), (2, 1), (2, 2), (2, 3), (3, 0), (3, 1), (3, 2), (3, 3)]
def TL (P Q : Nat → Int32) (i j k : Nat) : List Nat := st16.map (tN3 P Q i j k)
theorem tn_TL {P Q : Nat → Int32} {n i j k : Nat} (h : VP P Q n) (hi : i < n) (hj : j < n) (hk : k < n) : tnAll (prRe P Q j k) (prIm P Q j k) (prRe P Q i k) (prIm P Q i k) (prRe P Q i j) (prIm P Q i j) 4 = (TL P Q i j k).map nI := by
  have key : ∀ s t, tnV (prRe P Q j k) (prIm P Q j k) (prRe P Q i k) (prIm P Q i k) (prRe P Q i j) (prIm P Q i j) s (4 * s + t) = nI (tN3 P Q i j k (s, t)) := by
    intro s t
    rw [prRe_z, prIm_z, prRe_z, prIm_z, prRe_z, prIm_z, tnV_z, ← iI_nI, (tN3_z h hi hj hk (s, t)).1]
    rfl
  have row : ∀ s, tnRow (prRe P Q j k) (prIm P Q j k) (prRe P Q i k) (prIm P Q i k) (prRe P Q i j) (prIm P Q i j) s 4 = [nI (tN3 P Q i j k (s, 0)), nI (tN3 P Q i j k (s, 1)), nI (tN3 P Q i j k (s, 2)), nI (tN3 P Q i j k (s, 3))] := by
    intro s
    rw [← key s 0, ← key s 1, ← key s 2, ← key s 3]
    rfl
  show tnRow _ _ _ _ _ _ 0 4 ++ tnRow _ _ _ _ _ _ 1 4 ++ tnRow _ _ _ _ _ _ 2 4 ++ tnRow _ _ _ _ _ _ 3 4 = _
  rw [row, row, row, row]
  rfl
/-! the reference's sixty-four -/
def eU (x : Nat) : Int := ([1, 0, -1, 0] : List Int).getD x 0
def fU (x : Nat) : Int := ([0, 1, 0, -1] : List Int).getD x 0
theorem pt_e (p q : Int) : ∀ x, x < 4 → ptI (nI x) 0 (iI p) (iI q) = iI (eU x * p - fU x * q) ∧ ptI (nI x) 1 (iI p) (iI q) = iI (eU x * q + fU x * p) := by
  intro x hx
  match x, hx with
  | 0, _ => exact ⟨by show iI p = iI (1 * p - 0 * q); congr 1; omega, by show iI q = iI (1 * q + 0 * p); congr 1; omega⟩
  | 1, _ => exact ⟨by show -iI q = iI (0 * p - 1 * q); rw [iI_neg]; congr 1; omega, by show iI p = iI (0 * q + 1 * p); congr 1; omega⟩
  | 2, _ => exact ⟨by show -iI p = iI (-1 * p - 0 * q); rw [iI_neg]; congr 1; omega, by show -iI q = iI (-1 * q + 0 * p); rw [iI_neg]; congr 1; omega⟩
  | 3, _ => exact ⟨by show -(-iI q) = iI (0 * p - -1 * q); rw [iI_neg, iI_neg]; congr 1; omega, by show -iI p = iI (0 * q + -1 * p); rw [iI_neg]; congr 1; omega⟩
/-- the vector sum is the product of the three plates' numbers with a sum -/
theorem tri_id (pi qi pj qj pk qk e1 f1 e2 f2 e3 f3 : Int) :
    ((e1 * pi - f1 * qi) * ((pj * pj + qj * qj) * (pk * pk + qk * qk)) + (e2 * pj - f2 * qj) * ((pi * pi + qi * qi) * (pk * pk + qk * qk)) + (e3 * pk - f3 * qk) * ((pi * pi + qi * qi) * (pj * pj + qj * qj))
      = ((pi * pj - qi * qj) * pk - (pi * qj + qi * pj) * qk) * ((e1 * (pj * pk - qj * qk) + f1 * (pj * qk + qj * pk)) + (e2 * (pi * pk - qi * qk) + f2 * (pi * qk + qi * pk)) + (e3 * (pi * pj - qi * qj) + f3 * (pi * qj + qi * pj))) - ((pi * pj - qi * qj) * qk + (pi * qj + qi * pj) * pk) * ((f1 * (pj * pk - qj * qk) - e1 * (pj * qk + qj * pk)) + (f2 * (pi * pk - qi * qk) - e2 * (pi * qk + qi * pk)) + (f3 * (pi * pj - qi * qj) - e3 * (pi * qj + qi * pj))))
    ∧ ((e1 * qi + f1 * pi) * ((pj * pj + qj * qj) * (pk * pk + qk * qk)) + (e2 * qj + f2 * pj) * ((pi * pi + qi * qi) * (pk * pk + qk * qk)) + (e3 * qk + f3 * pk) * ((pi * pi + qi * qi) * (pj * pj + qj * qj))
      = ((pi * pj - qi * qj) * pk - (pi * qj + qi * pj) * qk) * ((f1 * (pj * pk - qj * qk) - e1 * (pj * qk + qj * pk)) + (f2 * (pi * pk - qi * qk) - e2 * (pi * qk + qi * pk)) + (f3 * (pi * pj - qi * qj) - e3 * (pi * qj + qi * pj))) + ((pi * pj - qi * qj) * qk + (pi * qj + qi * pj) * pk) * ((e1 * (pj * pk - qj * qk) + f1 * (pj * qk + qj * pk)) + (e2 * (pi * pk - qi * qk) + f2 * (pi * qk + qi * pk)) + (e3 * (pi * pj - qi * qj) + f3 * (pi * qj + qi * pj)))) := by
  constructor <;> grind
theorem tri_A (pi qi pj qj pk qk : Int) : ((pi * pj - qi * qj) * pk - (pi * qj + qi * pj) * qk) * ((pi * pj - qi * qj) * pk - (pi * qj + qi * pj) * qk) + ((pi * pj - qi * qj) * qk + (pi * qj + qi * pj) * pk) * ((pi * pj - qi * qj) * qk + (pi * qj + qi * pj) * pk) = (pi * pi + qi * qi) * (pj * pj + qj * qj) * (pk * pk + qk * qk) := by
  grind
theorem two_sq (R S a b : Int) : (R * a - S * b) * (R * a - S * b) + (R * b + S * a) * (R * b + S * a) = (a * a + b * b) * (R * R + S * S) := by
  grind
/-- which of the sixteen a code is -/
def sOf (c : Nat) : Nat := (c / 16 + 4 - c / 4 % 4) % 4
def tOf (c : Nat) : Nat := (c / 16 + 4 - c % 4) % 4
theorem unit_id (x1 y1 x2 y2 x3 y3 : Int) : ∀ c, c < 64 →
    ((eU (c / 16) * x1 + fU (c / 16) * y1) + (eU (c / 4 % 4) * x2 + fU (c / 4 % 4) * y2) + (eU (c % 4) * x3 + fU (c % 4) * y3)) * ((eU (c / 16) * x1 + fU (c / 16) * y1) + (eU (c / 4 % 4) * x2 + fU (c / 4 % 4) * y2) + (eU (c % 4) * x3 + fU (c % 4) * y3)) + ((fU (c / 16) * x1 - eU (c / 16) * y1) + (fU (c / 4 % 4) * x2 - eU (c / 4 % 4) * y2) + (fU (c % 4) * x3 - eU (c % 4) * y3)) * ((fU (c / 16) * x1 - eU (c / 16) * y1) + (fU (c / 4 % 4) * x2 - eU (c / 4 % 4) * y2) + (fU (c % 4) * x3 - eU (c % 4) * y3)) = TV x1 y1 x2 y2 x3 y3 (sOf c) (tOf c) := by
  have key : ∀ a b d : Nat, a < 4 → b < 4 → d < 4 →
    ((eU a * x1 + fU a * y1) + (eU b * x2 + fU b * y2) + (eU d * x3 + fU d * y3)) * ((eU a * x1 + fU a * y1) + (eU b * x2 + fU b * y2) + (eU d * x3 + fU d * y3)) + ((fU a * x1 - eU a * y1) + (fU b * x2 - eU b * y2) + (fU d * x3 - eU d * y3)) * ((fU a * x1 - eU a * y1) + (fU b * x2 - eU b * y2) + (fU d * x3 - eU d * y3)) = TV x1 y1 x2 y2 x3 y3 ((a + 4 - b) % 4) ((a + 4 - d) % 4) := by
    intro a b d ha hb hd
    -- turn by a: the sum of the turned ones is the same square
    have T : ∀ (u v : Nat), TV x1 y1 x2 y2 x3 y3 u v = (x1 + (rZ x2 y2 u).1 + (rZ x3 y3 v).1) * (x1 + (rZ x2 y2 u).1 + (rZ x3 y3 v).1) + (y1 + (rZ x2 y2 u).2 + (rZ x3 y3 v).2) * (y1 + (rZ x2 y2 u).2 + (rZ x3 y3 v).2) := fun _ _ => rfl
    have e0 : eU 0 = 1 ∧ eU 1 = 0 ∧ eU 2 = -1 ∧ eU 3 = 0 := ⟨rfl, rfl, rfl, rfl⟩
    have f0 : fU 0 = 0 ∧ fU 1 = 1 ∧ fU 2 = 0 ∧ fU 3 = -1 := ⟨rfl, rfl, rfl, rfl⟩
    have r0 : ∀ x y : Int, rZ x y 0 = (x, y) ∧ rZ x y 1 = (-y, x) ∧ rZ x y 2 = (-x, -y) ∧ rZ x y 3 = (-(-y), -x) := fun _ _ => ⟨rfl, rfl, rfl, rfl⟩
    rw [T]
    obtain ⟨e1, e2, e3, e4⟩ := e0
    obtain ⟨f1, f2, f3, f4⟩ := f0
    obtain ⟨s1, s2, s3, s4⟩ := r0 x2 y2
    obtain ⟨t1, t2, t3, t4⟩ := r0 x3 y3
    rcases (show a = 0 ∨ a = 1 ∨ a = 2 ∨ a = 3 by omega) with rfl | rfl | rfl | rfl <;> rcases (show b = 0 ∨ b = 1 ∨ b = 2 ∨ b = 3 by omega) with rfl | rfl | rfl | rfl <;> rcases (show d = 0 ∨ d = 1 ∨ d = 2 ∨ d = 3 by omega) with rfl | rfl | rfl | rfl <;> (simp only [e1, e2, e3, e4, f1, f2, f3, f4, s1, s2, s3, s4, t1, t2, t3, t4, Nat.reduceAdd, Nat.reduceSub, Nat.reduceMod]; grind)
  intro c hc
  exact key (c / 16) (c / 4 % 4) (c % 4) (by omega) (by omega) (by omega)
def aT (P Q : Nat → Int32) (i j k : Nat) : Nat := aN P Q i * aN P Q j * aN P Q k
theorem aT_bd {P Q : Nat → Int32} {n i j k : Nat} (h : VP P Q n) (hi : i < n) (hj : j < n) (hk : k < n) : 1 ≤ aT P Q i j k ∧ aT P Q i j k ≤ 512000000 := by
  have a := aP_bd h hi hj
  have b := aN_bd h hk
  exact ⟨Nat.mul_le_mul a.1 b.1, Nat.mul_le_mul a.2 b.2⟩
theorem aT_lN {P Q : Nat → Int32} {n i j k : Nat} (h : VP P Q n) (hi : i < n) (hj : j < n) (hk : k < n) : (ar P Q i).toInt64 * (ar P Q j).toInt64 * (ar P Q k).toInt64 = lN (aT P Q i j k) := by
  rw [ar_lN h hi, ar_lN h hj, ar_lN h hk, lN_mul, lN_mul]; rfl
theorem ptz_bd {P Q : Nat → Int32} {n k : Nat} (h : VP P Q n) (hk : k < n) : ∀ x, x < 4 → (-40 ≤ eU x * pz P k - fU x * pz Q k ∧ eU x * pz P k - fU x * pz Q k ≤ 40) ∧ -40 ≤ eU x * pz Q k + fU x * pz P k ∧ eU x * pz Q k + fU x * pz P k ≤ 40 := by
  obtain ⟨⟨h1, h2⟩, h3, h4⟩ := h k hk
  intro x hx
  simp only [pz]
  rcases (show x = 0 ∨ x = 1 ∨ x = 2 ∨ x = 3 by omega) with rfl | rfl | rfl | rfl
  · show (-40 ≤ 1 * _ - 0 * _ ∧ 1 * _ - 0 * _ ≤ (40 : Int)) ∧ -40 ≤ 1 * _ + 0 * _ ∧ 1 * _ + 0 * _ ≤ (40 : Int); omega
  · show (-40 ≤ 0 * _ - 1 * _ ∧ 0 * _ - 1 * _ ≤ (40 : Int)) ∧ -40 ≤ 0 * _ + 1 * _ ∧ 0 * _ + 1 * _ ≤ (40 : Int); omega
  · show (-40 ≤ -1 * _ - 0 * _ ∧ -1 * _ - 0 * _ ≤ (40 : Int)) ∧ -40 ≤ -1 * _ + 0 * _ ∧ -1 * _ + 0 * _ ≤ (40 : Int); omega
  · show (-40 ≤ 0 * _ - -1 * _ ∧ 0 * _ - -1 * _ ≤ (40 : Int)) ∧ -40 ≤ 0 * _ + -1 * _ ∧ 0 * _ + -1 * _ ≤ (40 : Int); omega
theorem tsL_n {P Q : Nat → Int32} {n i j k : Nat} (h : VP P Q n) (hi : i < n) (hj : j < n) (hk : k < n) {c : Nat} (hc : c < 64) : tsL P Q i j k (nI c) = lN (tN3 P Q i j k (sOf c, tOf c) * aT P Q i j k) := by
  have i1 : nI c / 16 = nI (c / 16) := pk_div (a := c) (d := 16) (by omega) (by omega) (by omega)
  have i2 : nI c / 4 = nI (c / 4) := pk_div (a := c) (d := 4) (by omega) (by omega) (by omega)
  have i3 : nI (c / 4) - nI (c / 4) / 4 * 4 = nI (c / 4 % 4) := pk_rem (a := c / 4) (d := 4) (by omega) (by omega) (by omega)
  have i4 : nI c - nI c / 4 * 4 = nI (c % 4) := pk_rem (a := c) (d := 4) (by omega) (by omega) (by omega)
  have p1 := pt_e (pz P i) (pz Q i) (c / 16) (by omega)
  have p2 := pt_e (pz P j) (pz Q j) (c / 4 % 4) (by omega)
  have p3 := pt_e (pz P k) (pz Q k) (c % 4) (by omega)
  have b1 := ptz_bd h hi (c / 16) (by omega)
  have b2 := ptz_bd h hj (c / 4 % 4) (by omega)
  have b3 := ptz_bd h hk (c % 4) (by omega)
  rw [← P_z, ← P_z] at p1 p2 p3
  have a1 := AZ_bd h hi
  have a2 := AZ_bd h hj
  have a3 := AZ_bd h hk
  have eX : tsP P Q i j k (nI c) 0 = jI ((eU (c / 16) * pz P i - fU (c / 16) * pz Q i) * (AZ P Q j * AZ P Q k) + (eU (c / 4 % 4) * pz P j - fU (c / 4 % 4) * pz Q j) * (AZ P Q i * AZ P Q k) + (eU (c % 4) * pz P k - fU (c % 4) * pz Q k) * (AZ P Q i * AZ P Q j)) := by
    unfold tsP
    rw [i1, i4, i2, i3, p1.1, p2.1, p3.1, ar_z, ar_z, ar_z, iI_toL (by omega) (by omega), iI_toL (by omega) (by omega), iI_toL (by omega) (by omega), iI_toL (by omega) (by omega), iI_toL (by omega) (by omega), iI_toL (by omega) (by omega)]
    simp only [jI_mul, jI_add]
  have eY : tsP P Q i j k (nI c) 1 = jI ((eU (c / 16) * pz Q i + fU (c / 16) * pz P i) * (AZ P Q j * AZ P Q k) + (eU (c / 4 % 4) * pz Q j + fU (c / 4 % 4) * pz P j) * (AZ P Q i * AZ P Q k) + (eU (c % 4) * pz Q k + fU (c % 4) * pz P k) * (AZ P Q i * AZ P Q j)) := by
    unfold tsP
    rw [i1, i4, i2, i3, p1.2, p2.2, p3.2, ar_z, ar_z, ar_z, iI_toL (by omega) (by omega), iI_toL (by omega) (by omega), iI_toL (by omega) (by omega), iI_toL (by omega) (by omega), iI_toL (by omega) (by omega), iI_toL (by omega) (by omega)]
    simp only [jI_mul, jI_add]
  unfold tsL
  rw [eX, eY, jI_mul, jI_mul, jI_add, ← jI_lN]
  congr 1
  obtain ⟨t1, t2⟩ := tri_id (pz P i) (pz Q i) (pz P j) (pz Q j) (pz P k) (pz Q k) (eU (c / 16)) (fU (c / 16)) (eU (c / 4 % 4)) (fU (c / 4 % 4)) (eU (c % 4)) (fU (c % 4))
  have t3 := tri_A (pz P i) (pz Q i) (pz P j) (pz Q j) (pz P k) (pz Q k)
  have t4 := unit_id (RZ P Q j k) (SZ P Q j k) (RZ P Q i k) (SZ P Q i k) (RZ P Q i j) (SZ P Q i j) c hc
  unfold aT
  rw [Int.natCast_mul, Int.natCast_mul, Int.natCast_mul, (tN3_z h hi hj hk (sOf c, tOf c)).1, aN_Z h hi, aN_Z h hj, aN_Z h hk]
  show _ = TV (RZ P Q j k) (SZ P Q j k) (RZ P Q i k) (SZ P Q i k) (RZ P Q i j) (SZ P Q i j) (sOf c) (tOf c) * _
  rw [← t4]
  unfold AZ
  rw [t1, t2, two_sq, t3]
  rfl
/-- all codes, by the sixteen -/
def MT (P Q : Nat → Int32) (i j k : Nat) (K : Nat) : List Nat := (List.range K).map (fun c => tN3 P Q i j k (sOf c, tOf c))
theorem st_pm : ((List.range 64).map (fun c => (sOf c, tOf c))).Perm (st16 ++ (st16 ++ (st16 ++ st16))) := by decide
theorem MT_x4 (P Q : Nat → Int32) (i j k : Nat) : (MT P Q i j k 64).Perm (x4 (TL P Q i j k)) := by
  have h := st_pm.map (tN3 P Q i j k)
  rw [List.map_map, List.map_append, List.map_append, List.map_append] at h
  exact h
theorem MT_mem (P Q : Nat → Int32) (i j k N : Nat) : N ∈ MT P Q i j k 64 ↔ N ∈ TL P Q i j k := by
  rw [(MT_x4 P Q i j k).mem_iff]
  unfold x4
  simp only [List.mem_append]
  constructor
  · intro h
    rcases h with h | h | h | h <;> exact h
  · exact Or.inl
theorem TL_le {P Q : Nat → Int32} {n i j k : Nat} (h : VP P Q n) (hi : i < n) (hj : j < n) (hk : k < n) : ∀ N, N ∈ TL P Q i j k → N ≤ 11520000 := by
  intro N hN
  obtain ⟨p, _, rfl⟩ := List.mem_map.mp hN
  exact (tN3_z h hi hj hk p).2
theorem b3_fold {P Q : Nat → Int32} {n i j k : Nat} (f ll : Int32) (h : VP P Q n) (hi : i < n) (hj : j < n) (hk : k < n) : ∀ K, K ≤ 64 → b3F P Q f ll i j k K = (MT P Q i j k K).foldl (fun t N => okS f ll (nI 3) (lN (aT P Q i j k * aT P Q i j k)) (lN (N * aT P Q i j k)) t) (nI 0, lN 0)
  | 0, _ => rfl
  | K + 1, hK => by
    have e : MT P Q i j k (K + 1) = MT P Q i j k K ++ [tN3 P Q i j k (sOf K, tOf K)] := by
      unfold MT
      rw [List.range_succ, List.map_append]; rfl
    rw [e, List.foldl_append, ← b3_fold f ll h hi hj hk K (by omega)]
    show b3S f ll (btL P Q i j k) (tsL P Q i j k (nI K)) (b3F P Q f ll i j k K) = okS f ll (nI 3) (lN (aT P Q i j k * aT P Q i j k)) (lN (tN3 P Q i j k (sOf K, tOf K) * aT P Q i j k)) (b3F P Q f ll i j k K)
    rw [tsL_n h hi hj hk (by omega)]
    unfold btL
    rw [aT_lN h hi hj hk, lN_mul]
    rfl
theorem b3_ok {P Q : Nat → Int32} {n i j k : Nat} {f ll : Int32} (h : VP P Q n) (hv : LV f ll) (hi : i < n) (hj : j < n) (hk : k < n) :
    b3F P Q f ll i j k 64 = (nI (4 * ctN (bd (aT P Q i j k) f ll) (TL P Q i j k)), lN (if mnN (bd (aT P Q i j k) f ll) 0 (TL P Q i j k) = 0 then 0 else aT P Q i j k / mnN (bd (aT P Q i j k) f ll) 0 (TL P Q i j k))) := by
  have a := aT_bd h hi hj hk
  rw [b3_fold f ll h hi hj hk 64 (Nat.le_refl _), ok_fold hv (by omega) a.1 (by omega) (MT P Q i j k 64) 0 0 (by omega) (fun N hN => by have := TL_le h hi hj hk N ((MT_mem P Q i j k N).mp hN); omega), Nat.zero_add, if_pos rfl, mx_mn (bd_0 _ _ _) (MT_mem P Q i j k)]
  have e : ctN (fun N => kb (aT P Q i j k) f ll N == 3) (MT P Q i j k 64) = 4 * ctN (bd (aT P Q i j k) f ll) (TL P Q i j k) := by
    rw [ctN_perm (MT_x4 P Q i j k), ctN_x4]; rfl
  rw [e]
theorem tb_ok {P Q : Nat → Int32} {n i j k : Nat} {f ll : Int32} (h : VP P Q n) (hv : LV f ll) (hi : i < n) (hj : j < n) (hk : k < n) : bcF (lsF (tnAll (prRe P Q j k) (prIm P Q j k) (prRe P Q i k) (prIm P Q i k) (prRe P Q i j) (prIm P Q i j) 4)) (lfL ((ar P Q i).toInt64 * (ar P Q j).toInt64 * (ar P Q k).toInt64) f) (glL ((ar P Q i).toInt64 * (ar P Q j).toInt64 * (ar P Q k).toInt64) ll) (tnAll (prRe P Q j k) (prIm P Q j k) (prRe P Q i k) (prIm P Q i k) (prRe P Q i j) (prIm P Q i j) 4).length = nI (4 * ctN (bd (aT P Q i j k) f ll) (TL P Q i j k)) := by
  have a := aT_bd h hi hj hk
  rw [tn_TL h hi hj hk, aT_lN h hi hj hk]
  exact bc_n hv (by omega) (fun N hN => by have := TL_le h hi hj hk N hN; omega)

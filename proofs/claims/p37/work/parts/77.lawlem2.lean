/-! small facts for whole, searches and acts -/
theorem wh_add {P Q : Nat → Int32} {n w i j A B : Nat} {f ll : Int32} (h : VP P Q n) (hv : LV f ll) (hi : i < n) (hj : j < n) (hw : w = 1 ∨ w = 2) : nI (A + B) + pbI P Q w f ll i j = nI (A + (B + bN P Q w f ll i j)) := by
  rw [(pb_ok h hv hi hj hw).1, nI_add, Nat.add_assoc]
  rfl
theorem cN_dvd (P Q : Nat → Int32) : ∀ n k, k < n → tN P Q k ∣ cN P Q n
  | 0, _, h => absurd h (Nat.not_lt_zero _)
  | n + 1, k, h => by
    show tN P Q k ∣ cN P Q n / Nat.gcd (cN P Q n) (tN P Q n) * tN P Q n
    by_cases e : k = n
    · rw [e]; exact Nat.dvd_mul_left _ _
    · have ih := cN_dvd P Q n k (by omega)
      obtain ⟨t, ht⟩ := Nat.gcd_dvd_right (cN P Q n) (tN P Q n)
      have e2 : cN P Q n / Nat.gcd (cN P Q n) (tN P Q n) * tN P Q n = cN P Q n * t := by
        conv => lhs; arg 2; rw [ht]
        rw [← Nat.mul_assoc, Nat.div_mul_cancel (Nat.gcd_dvd_left _ _)]
      rw [e2]
      exact Nat.dvd_trans ih (Nat.dvd_mul_right _ _)
theorem wh_ct {P Q : Nat → Int32} {n k : Nat} (h : VP P Q n) (hn : n ≤ 4) (hk : k < n) : lN (cN P Q n) - lN (cN P Q n) / lN (tN P Q k) * lN (tN P Q k) = 0 := by
  have b1 := cN_bd h n (Nat.le_refl _)
  have b2 : (800 : Nat) ^ n ≤ 800 ^ 4 := Nat.pow_le_pow_right (by decide) hn
  have b3 : (800 : Nat) ^ 4 = 409600000000 := by decide
  have t := (tN_bd h hk).2
  rw [pk_lRem (by omega) (by omega) (by omega), Nat.mod_eq_zero_of_dvd (cN_dvd P Q n k hk)]
  rfl
theorem wh_tne {P Q : Nat → Int32} {n k : Nat} (h : VP P Q n) (hk : k < n) : ¬ nI (tN P Q k) = 0 := fun q => by
  have t := (tN_bd h hk).2
  have := (nI_eq (a := tN P Q k) (b := 0) (by omega) (by omega)).mp q
  omega
theorem aN_p {P Q : Nat → Int32} {n k : Nat} (h : VP P Q n) (hk : k < n) : aN P Q k = pN P k * pN P k + pN Q k * pN Q k := by
  obtain ⟨⟨e1, p1, p2⟩, e2, q2⟩ := pN_e h hk
  have z := ar_nI h hk
  have bp : pN P k * pN P k ≤ 400 := Nat.mul_le_mul p2 p2
  have bq : pN Q k * pN Q k ≤ 400 := Nat.mul_le_mul q2 q2
  have bA := aN_bd h hk
  unfold ar at z
  rw [e1, e2, pk_mul, pk_mul, nI_add] at z
  exact ((nI_eq (by omega) (by omega)).mp z).symm
theorem wh_at {P Q : Nat → Int32} {n k : Nat} (h : VP P Q n) (hk : k < n) : nI (aN P Q k) - nI (aN P Q k) / nI (tN P Q k) * nI (tN P Q k) = 0 := by
  have t := (tN_bd h hk).2
  have a := aN_bd h hk
  have hd : Nat.gcd (pN P k) (pN Q k) ∣ aN P Q k := by
    rw [aN_p h hk]
    exact Nat.dvd_add (Nat.dvd_trans (Nat.gcd_dvd_left _ _) (Nat.dvd_mul_right _ _)) (Nat.dvd_trans (Nat.gcd_dvd_right _ _) (Nat.dvd_mul_right _ _))
  have hd2 : tN P Q k ∣ aN P Q k := ⟨Nat.gcd (pN P k) (pN Q k), (Nat.div_mul_cancel hd).symm⟩
  rw [pk_rem (by omega) (by omega) (by omega), Nat.mod_eq_zero_of_dvd hd2]
  rfl
theorem wh_hv (n : Nat) : ¬ hv n (nI n) := fun q => Int32.lt_irrefl q.2
theorem all_ex {P Q : Nat → Int32} {n w : Nat} {f ll : Int32} (h : VP P Q n) (hv : LV f ll) (hw : w = 1 ∨ w = 2) (hn : n ≤ 4) : ∃ dd : Nat, bgF P Q w f ll n 0 10 = nI dd ∧ dd ≤ 20000 := by
  have c := cS_le (P := P) (Q := Q) hw f ll n (fun _ => true) 10
  exact ⟨_, (all_ok h hv hw hn).1, by omega⟩
theorem best_n2 {P Q : Nat → Int32} {n w k lo hi dd : Nat} {f ll : Int32} (h : VP P Q n) (hv : LV f ll) (hw : w = 1 ∨ w = 2) (hn : n ≤ 4) (hk : k < n) (h1 : lo ≤ aN P Q k) (h2 : aN P Q k ≤ hi) (h3 : hi ≤ 800) (hD : bgF P Q w f ll n 0 10 = nI dd) (hDb : dd ≤ 20000) :
    ∃ x y C : Nat, (1 ≤ x ∧ x ≤ 20 ∧ y ≤ 20) ∧ (lo ≤ x * x + y * y ∧ x * x + y * y ≤ hi) ∧ seL P Q w f ll n k (nI lo) (nI hi) = nI (100 * x + y) ∧ bgF (upd P k (nI x)) (upd Q k (nI y)) w f ll n 0 10 = nI C ∧ C ≤ dd := by
  obtain ⟨x, y, C, D, a, b, c, d, e, g, k2⟩ := best_n (f := f) (ll := ll) h hv hw hn hk h1 h2 h3
  rw [hD] at d
  have := (nI_eq (by omega) (by omega)).mp d
  exact ⟨x, y, C, a, b, c, e, by omega⟩
theorem sc_rng {lo hh : Nat} (h1 : 1 ≤ lo) (h2 : lo ≤ hh) (h3 : hh ≤ 800) : 1 ≤ nI lo ∧ nI lo ≤ nI hh ∧ nI hh ≤ 800 :=
  ⟨(nI_leI (a := 1) (b := lo) (by omega) (by omega)).mpr h1, (nI_leI (by omega) (by omega)).mpr h2, (nI_leI (a := hh) (b := 800) (by omega) (by omega)).mpr h3⟩
theorem nI_subn {a b : Nat} (h : b ≤ a) (h2 : a ≤ 1000000000) : nI a - nI b = nI (a - b) := by
  rw [← iI_nI, ← iI_nI, iI_sub, ← iI_nI]
  congr 1
  omega
theorem sc_bad {n k lo hh : Nat} (h2 : lo ≤ hh) (h1 : 1 ≤ lo) (h3 : hh ≤ 1000) : ¬ (hv n (nI k) ∧ 1 ≤ nI hh ∧ nI hh ≤ nI lo - 1 ∧ nI lo - 1 ≤ 800) := fun q => by
  have q2 := q.2.2.1
  rw [show nI lo - 1 = nI (lo - 1) from nI_subn (a := lo) (b := 1) h1 (by omega)] at q2
  have := (nI_leI (by omega) (by omega)).mp q2
  omega
theorem sc_scr {x y : Nat} (h1 : 1 ≤ x) (h2 : x ≤ 20) (h3 : y ≤ 20) : 1 ≤ nI x ∧ nI x ≤ 20 ∧ 0 ≤ nI y ∧ nI y ≤ 20 :=
  ⟨(nI_leI (a := 1) (b := x) (by omega) (by omega)).mpr h1, (nI_leI (a := x) (b := 20) (by omega) (by omega)).mpr h2, nI_pos' (by omega), (nI_leI (a := y) (b := 20) (by omega) (by omega)).mpr h3⟩
theorem xy_div {x y : Nat} (h1 : x ≤ 20) (h2 : y ≤ 20) : nI (100 * x + y) / 100 = nI x := by
  rw [show (100 : Int32) = nI 100 from rfl, pk_div (by omega) (by omega) (by omega)]
  congr 1; omega
theorem xy_rem {x y : Nat} (h1 : x ≤ 20) (h2 : y ≤ 20) : nI (100 * x + y) - nI (100 * x + y) / 100 * 100 = nI y := by
  rw [show (100 : Int32) = nI 100 from rfl, pk_rem (by omega) (by omega) (by omega)]
  congr 1; omega
/-- behind a record the latest state is the one recorded -/
theorem rc_ex (D : Nat → SD) (q : Nat) (d : SD) (hq : q ≤ 5) : ∃ qq, rcQ q = qq + 1 ∧ qq < 5 ∧ rcD D q d qq = d := by
  by_cases e : q = 5
  · refine ⟨4, ?_, by decide, ?_⟩
    · unfold rcQ; rw [if_pos e]
    · unfold rcD; rw [if_pos e]; rfl
  · refine ⟨q, ?_, by omega, ?_⟩
    · unfold rcQ; rw [if_neg e]
    · unfold rcD; rw [if_neg e]; exact if_pos rfl

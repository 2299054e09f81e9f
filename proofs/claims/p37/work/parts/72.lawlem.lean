/-! small facts for the law's methods -/
def lowN (v : Int32) (k : Nat) : Nat := v.toBitVec.toNat % 2 ^ 31 % k
theorem low_lt (v : Int32) {k : Nat} (h : 1 ≤ k) : lowN v k < k := Nat.mod_lt _ h
theorem low_e (v : Int32) {k : Nat} (h1 : 1 ≤ k) (h2 : k ≤ 1000) : (v &&& 2147483647) - (v &&& 2147483647) / nI k * nI k = nI (lowN v k) := by
  have hm : v.toBitVec.toNat % 2 ^ 31 < 2 ^ 31 := Nat.mod_lt _ (by decide)
  rw [pk_and v (m := 2147483647) 31 (by decide), pk_rem hm (by omega) (by omega)]
  rfl
theorem qtN_bd {w : Nat} (hw : w = 1 ∨ w = 2) : 16 ≤ qtN w ∧ qtN w ≤ 144 := by
  rcases hw with rfl | rfl <;> decide
theorem pr_due1 {w : Nat} (h : w = 1) : (64 : Int32) = nI (4 * qtN w) := by rw [h]; decide
theorem pr_due2 {w : Nat} (hw : w = 1 ∨ w = 2) (h : w ≠ 1) : (576 : Int32) = nI (4 * qtN w) := by
  rw [hw.resolve_left h]; decide
theorem pr_nlt0 {a : Nat} (h : a < 2 ^ 62) : ¬ lN a < 0 := fun q => absurd ((pk_lLT (a := a) (b := 0) (by omega) (by decide)).mp q) (by omega)
theorem pr_nlt1 {a : Nat} (h1 : 1 ≤ a) (h : a < 2 ^ 62) : ¬ lN a < 1 := fun q => absurd ((pk_lLT (a := a) (b := 1) (by omega) (by decide)).mp q) (by omega)
theorem pr_ne {a : Nat} (h : a < 2 ^ 62) (hn : a ≠ 0) : ¬ lN a = 0 := lN_ne (by omega) (Nat.pos_of_ne_zero hn)
theorem isq_self (q : Nat) : isq q ≤ q := by
  have h := (isq_spec q).1
  rcases Nat.eq_zero_or_pos (isq q) with e | e
  · omega
  · have h2 : isq q * 1 ≤ isq q * isq q := Nat.mul_le_mul_left _ e
    omega
theorem isq_bd {A N : Nat} (hA : A ≤ 640000) : isq (A / N) ≤ 640000 := by
  have h1 := isq_self (A / N)
  have h2 := Nat.div_le_self A N
  omega
theorem pr_nn4 {n : Nat} (h : n ≤ 640000) : ¬ nI n = -4 := fun q => by
  have h2 := n4_lt n (by omega)
  rw [q] at h2
  exact h2.2 (by decide)
theorem pr_lk0 {nr sp : Nat → Nat} {r : Nat} (hr : r = 0) (h0 : nr r = 0) (hs : sp 0 = 0) : nI (if nr 0 = 0 then 4 * sp 1 else 0) = nI (4 * (sp (r + 1) - sp r)) := by
  subst hr
  rw [if_pos h0, hs, Nat.sub_zero]
theorem pr_nle {nr : Nat → Nat} {r R A : Nat} {la : Int64} (hla : la = -1 ∨ ∃ r0, r0 < r ∧ r0 < R ∧ la = lN (nr r0 * A)) (hN : nr r ≤ 51200) (hA : 1 ≤ A ∧ A ≤ 640000) (hinc : ∀ a b, a < b → b < R → nr a < nr b) (hr : r < R) : ¬ lN (nr r * A) ≤ la := by
  have b1 : nr r * A ≤ 51200 * 640000 := Nat.mul_le_mul hN hA.2
  rcases hla with e | ⟨r0, h1, h2, e⟩
  · rw [e]
    intro q
    have q2 := Int64.le_trans (lN_nn (a := nr r * A) (by omega)) q
    exact absurd q2 (by decide)
  · rw [e]
    have h3 := hinc r0 r h1 hr
    have b2 : nr r0 * A < nr r * A := Nat.mul_lt_mul_of_pos_right h3 (by omega)
    exact fun q => absurd ((pk_lLE (by omega) (by omega)).mp q) (by omega)
theorem pr_mono {A N M : Nat} (hA : 1 ≤ A ∧ A ≤ 640000) (h : N < M) (h0 : ¬ N = 0) (hN : N ≤ 51200) : nI (isq (A / M)) ≤ nI (isq (A / N)) := by
  have h1 : A / M ≤ A / N := Nat.div_le_div_left (by omega) (Nat.pos_of_ne_zero h0)
  have h2 := isq_mono h1
  have h3 := isq_bd (A := A) (N := N) hA.2
  exact (nI_leI (by omega) (by omega)).mpr h2
theorem pr_mod4 (B : Nat) (h : B ≤ 1000) : nI (4 * B) - nI (4 * B) / 4 * 4 = 0 := by
  rw [show (4 : Int32) = nI 4 from rfl, pk_rem (a := 4 * B) (d := 4) (by omega) (by omega) (by omega), Nat.mul_mod_right]
  rfl
theorem pr_spb {sp : Nat → Nat} {r R q : Nat} (h : ∀ r, r < R → sp r < sp (r + 1) ∧ sp (r + 1) ≤ q) (hr : r < R) (hq : 16 ≤ q ∧ q ≤ 144) : sp (r + 1) - sp r ≤ 1000 := by
  have := h r hr
  omega
theorem pr_sum {st a r R q : Nat} {sp : Nat → Nat} (ha : st = 1 → a = 4 * sp r) (hsp : ∀ r, r < R → sp r < sp (r + 1) ∧ sp (r + 1) ≤ q) (hr : r < R) : st = 1 → a + 4 * (sp (r + 1) - sp r) = 4 * sp (r + st) := by
  intro e
  have h1 := ha e
  have h2 := hsp r hr
  rw [e]
  omega
theorem pr_r0 {nr : Nat → Nat} {r R : Nat} (hinc : ∀ a b, a < b → b < R → nr a < nr b) (hr : r < R) (h0 : nr r = 0) : r = 0 := by
  rcases Nat.eq_zero_or_pos r with e | e
  · exact e
  · have := hinc 0 r e hr
    omega
theorem pr_rem0 {N A : Nat} (hA : 1 ≤ A ∧ A ≤ 640000) (hN : N ≤ 51200) : lN (A * A) - lN (A * A) / lN (dnN N A) * lN (dnN N A) = 0 := by
  have hud := (ud_n hN hA).2.2
  have hAA : A * A ≤ 640000 * 640000 := Nat.mul_le_mul hA.2 hA.2
  rw [pk_lRem (by omega) (by omega) (by omega), show A * A % dnN N A = 0 from (its_eq hA.1).1]
  rfl
theorem pr_its {N A : Nat} (hA : 1 ≤ A ∧ A ≤ 640000) (hN : N ≤ 51200) : lN (upN N A) * (lN (A * A) / lN (dnN N A)) = lN (N * A) := by
  have hud := (ud_n hN hA).2.2
  have hAA : A * A ≤ 640000 * 640000 := Nat.mul_le_mul hA.2 hA.2
  rw [pk_lDiv (by omega) (by omega) (by omega), lN_mul, show upN N A * (A * A / dnN N A) = N * A from (its_eq hA.1).2]
theorem pr_n0 {a : Nat} (h : a ≠ 0) (h2 : a ≤ 5760) : ¬ nI a = 0 := fun q => h ((nI_eq (a := a) (b := 0) (by omega) (by omega)).mp q)

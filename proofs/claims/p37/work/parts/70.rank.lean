/-! the ranks of a row in order: its runs -/
noncomputable def nxt (G : Nat → Nat) (z k : Nat) : Nat := if h : k < z then Classical.choose (run_of G h) else k + 1
theorem nxt_spec (G : Nat → Nat) {z k : Nat} (h : k < z) : k < nxt G z k ∧ nxt G z k ≤ z ∧ (∀ j, k ≤ j → j < nxt G z k → G j = G k) ∧ (nxt G z k < z → G (nxt G z k) ≠ G k) := by
  unfold nxt
  rw [dif_pos h]
  exact Classical.choose_spec (run_of G h)
noncomputable def sr (G : Nat → Nat) (z : Nat) : Nat → Nat
  | 0 => 0
  | r + 1 => nxt G z (sr G z r)
theorem rn_ex (G : Nat → Nat) (z : Nat) : ∀ N r, sr G z r ≤ z → z - sr G z r ≤ N → (∀ u, u < r → sr G z u < z) → ∃ R, r ≤ R ∧ R ≤ r + N ∧ sr G z R = z ∧ ∀ u, u < R → sr G z u < z
  | 0, r, h0, h1, h2 => ⟨r, Nat.le_refl _, by omega, by omega, h2⟩
  | N + 1, r, h0, h1, h2 => by
    by_cases e : sr G z r < z
    · obtain ⟨a, b, _, _⟩ := nxt_spec G e
      have e1 : sr G z (r + 1) = nxt G z (sr G z r) := rfl
      obtain ⟨R, r1, r2, r3, r4⟩ := rn_ex G z N (r + 1) (by omega) (by omega) (fun u hu => by
        by_cases q : u = r
        · rw [q]; exact e
        · exact h2 u (by omega))
      exact ⟨R, by omega, by omega, r3, r4⟩
    · exact ⟨r, Nat.le_refl _, by omega, by omega, h2⟩
/-- R runs: where each starts -/
def RN (G : Nat → Nat) (z R : Nat) : Prop := sr G z R = z ∧ ∀ u, u < R → sr G z u < z
theorem RN_ex (G : Nat → Nat) {z : Nat} (hz : 1 ≤ z) : ∃ R, 1 ≤ R ∧ R ≤ z ∧ RN G z R := by
  obtain ⟨R, r1, r2, r3, r4⟩ := rn_ex G z z 0 (Nat.zero_le _) (Nat.sub_le _ _) (fun u hu => absurd hu (Nat.not_lt_zero _))
  refine ⟨R, ?_, by omega, r3, r4⟩
  rcases Nat.eq_zero_or_pos R with e | e
  · rw [e] at r3
    have : (0 : Nat) = z := r3
    omega
  · exact e
theorem RN_step {G : Nat → Nat} {z R : Nat} (H : RN G z R) {r : Nat} (hr : r < R) : sr G z r < sr G z (r + 1) ∧ sr G z (r + 1) ≤ z ∧ (∀ j, sr G z r ≤ j → j < sr G z (r + 1) → G j = G (sr G z r)) ∧ (sr G z (r + 1) < z → G (sr G z (r + 1)) ≠ G (sr G z r)) := nxt_spec G (H.2 r hr)
theorem RN_stA {G : Nat → Nat} {z R : Nat} (H : RN G z R) : ∀ {r : Nat}, r < R → stA G (sr G z r)
  | 0, _ => Or.inl rfl
  | r + 1, hr => by
    obtain ⟨a, b, c, d⟩ := RN_step H (show r < R by omega)
    exact stA_run a c d (H.2 (r + 1) hr)
theorem RN_dn {G : Nat → Nat} {z A R : Nat} {F : Nat → Int32} {SQ : Nat → Int64} (H : hold G z A F SQ) (K : RN G z R) : ∀ r, r ≤ R → dnF F (sr G z r) = nI r
  | 0, _ => rfl
  | r + 1, hr => by
    obtain ⟨a, b, c, d⟩ := RN_step K (show r < R by omega)
    have e := dn_run H b c (RN_stA K (show r < R by omega)) (sr G z (r + 1) - (sr G z r + 1)) (by omega)
    rw [show sr G z r + 1 + (sr G z (r + 1) - (sr G z r + 1)) = sr G z (r + 1) by omega, RN_dn H K r (by omega), nI_1] at e
    exact e
theorem RN_na {G : Nat → Nat} {z A R : Nat} {F : Nat → Int32} {SQ : Nat → Int64} (H : hold G z A F SQ) (K : RN G z R) {r : Nat} (hr : r < 2 ^ 31) : ∀ d m, m + d = R → m ≤ r → naF F (nI r) (z - sr G z m) (sr G z m) (nI m) = if r < R then F (sr G z r) else -4
  | 0, m, e, hm => by
    rw [show m = R by omega, K.1, Nat.sub_self, if_neg (by omega)]
    rfl
  | d + 1, m, e, hm => by
    have hmR : m < R := by omega
    have hk := K.2 m hmR
    obtain ⟨a, b, c, q⟩ := RN_step K hmR
    have hR : R < 2 ^ 31 := by
      have := H.1
      have h2 : ∀ u, u ≤ R → u ≤ sr G z u := by
        intro u
        induction u with
        | zero => intro _; exact Nat.zero_le _
        | succ u ih =>
          intro hu
          have := (RN_step K (show u < R by omega)).1
          have := ih (by omega)
          omega
      have := h2 R (Nat.le_refl _)
      rw [K.1] at this
      omega
    have hn : naF F (nI r) (z - sr G z m) (sr G z m) (nI m) = if nI m = nI r then F (sr G z m) else naF F (nI r) (z - (sr G z m + 1)) (sr G z m + 1) (nI m + 1) := by
      rw [show z - sr G z m = z - (sr G z m + 1) + 1 by omega]
      exact if_neg (st_F H hk (RN_stA K hmR))
    rw [hn]
    by_cases hc : m = r
    · rw [if_pos (by rw [hc]), ← hc, if_pos hmR]
    · rw [if_neg (fun w => hc ((nI_eq (by omega) hr).mp w)), na_skip H b c (nI r) (nI m + 1) (sr G z (m + 1) - (sr G z m + 1)) (by omega), show sr G z m + 1 + (sr G z (m + 1) - (sr G z m + 1)) = sr G z (m + 1) by omega, nI_1]
      exact RN_na H K hr d (m + 1) (by omega) (by omega)
/-- the answer of a rank -/
theorem RN_at {G : Nat → Nat} {z A R : Nat} {F : Nat → Int32} {SQ : Nat → Int64} (H : hold G z A F SQ) (K : RN G z R) {r : Nat} (hr : r < 2 ^ 31) : naF F (nI r) z 0 0 = if r < R then nI (G (sr G z r)) else -4 := by
  have h := RN_na H K hr R 0 (by omega) (Nat.zero_le _)
  change naF F (nI r) z 0 0 = _ at h
  rw [h]
  by_cases e : r < R
  · rw [if_pos e, if_pos e]
    exact H.2.2.2.2.1 _ (K.2 r e)
  · rw [if_neg e, if_neg e]
theorem RN_fr {G : Nat → Nat} {z A R : Nat} {F : Nat → Int32} {SQ : Nat → Int64} (H : hold G z A F SQ) (K : RN G z R) {r : Nat} (hr : r < R) : cwF F (nI (G (sr G z r))) z = nI (4 * (sr G z (r + 1) - sr G z r)) := by
  obtain ⟨a, b, c, d⟩ := RN_step K hr
  have h := cw_run H a b c d (RN_stA K hr) z (Nat.le_refl _)
  rw [H.2.2.2.2.1 _ (K.2 r hr), Nat.min_eq_right b] at h
  exact h
theorem RN_lt {G : Nat → Nat} {z A R : Nat} {F : Nat → Int32} {SQ : Nat → Int64} (H : hold G z A F SQ) (K : RN G z R) : ∀ d r, r + 1 + d < R → G (sr G z r) < G (sr G z (r + 1 + d))
  | 0, r, h => by
    obtain ⟨a, b, c, d⟩ := RN_step K (show r < R by omega)
    have h1 := K.2 (r + 1) h
    have := H.2.2.2.1 (sr G z r) (sr G z (r + 1)) (by omega) h1
    have := d h1
    show G (sr G z r) < G (sr G z (r + 1))
    omega
  | d + 1, r, h => by
    have h1 := RN_lt H K 0 r (by omega)
    have h2 := RN_lt H K d (r + 1) (by omega)
    rw [show r + 1 + (d + 1) = r + 1 + 1 + d by omega]
    exact Nat.lt_trans h1 h2
theorem isq_mono {a b : Nat} (h : a ≤ b) : isq a ≤ isq b := by
  have h1 := (isq_spec a).1
  have h2 := (isq_spec b).2
  rcases Nat.lt_or_ge (isq b) (isq a) with e | e
  · have h3 : (isq b + 1) * (isq b + 1) ≤ isq a * isq a := Nat.mul_le_mul e e
    omega
  · exact e
theorem its_eq {N A : Nat} (hA : 1 ≤ A) : A * A % (A / Nat.gcd N A) = 0 ∧ N / Nat.gcd N A * (A * A / (A / Nat.gcd N A)) = N * A := by
  have g0 : 0 < Nat.gcd N A := Nat.gcd_pos_of_pos_right N (by omega)
  obtain ⟨a, ha⟩ := Nat.gcd_dvd_right N A
  obtain ⟨n, hn⟩ := Nat.gcd_dvd_left N A
  generalize Nat.gcd N A = g at *
  have ha0 : 0 < a := by
    rcases Nat.eq_zero_or_pos a with e | e
    · rw [e] at ha; omega
    · exact e
  have e1 : A / g = a := by rw [ha, Nat.mul_div_cancel_left a g0]
  have e2 : N / g = n := by rw [hn, Nat.mul_div_cancel_left n g0]
  rw [e1, e2]
  have e3 : A * A = a * (g * A) := by
    conv => lhs; arg 1; rw [ha]
    rw [Nat.mul_comm g a, Nat.mul_assoc]
  have e4 : A * A / a = g * A := by rw [e3, Nat.mul_div_cancel_left _ ha0]
  refine ⟨by rw [e3, Nat.mul_mod_right], ?_⟩
  rw [e4, hn, ← Nat.mul_assoc, Nat.mul_comm n g]

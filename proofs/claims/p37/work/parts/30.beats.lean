/-! beats by their rank: class and reference -/
theorem run_ex (G : Nat → Nat) (v z : Nat) : ∀ d k, k + d = z → ∃ k', k ≤ k' ∧ k' ≤ z ∧ (∀ j, k ≤ j → j < k' → G j = v) ∧ (k' < z → G k' ≠ v)
  | 0, k, e => ⟨k, Nat.le_refl _, by omega, fun j h1 h2 => by omega, fun h => by omega⟩
  | d + 1, k, e => by
    by_cases h : G k = v
    · obtain ⟨k', a, b, c, q⟩ := run_ex G v z d (k + 1) (by omega)
      refine ⟨k', by omega, b, fun j h1 h2 => ?_, q⟩
      by_cases e2 : j = k
      · rw [e2]; exact h
      · exact c j (by omega) h2
    · exact ⟨k, Nat.le_refl _, by omega, fun j h1 h2 => by omega, fun _ => h⟩
theorem run_of (G : Nat → Nat) {z k : Nat} (hk : k < z) : ∃ k', k < k' ∧ k' ≤ z ∧ (∀ j, k ≤ j → j < k' → G j = G k) ∧ (k' < z → G k' ≠ G k) := by
  obtain ⟨k', a, b, c, q⟩ := run_ex G (G k) z (z - k) k (by omega)
  refine ⟨k', ?_, b, c, q⟩
  by_cases e : k' = k
  · rw [e] at q; exact absurd rfl (q hk)
  · omega
theorem bh_uniq (SQ : Nat → Int64) (v : Int64) : ∀ u x y, x ≤ y → y ≤ x + u → (∀ j, x ≤ j → j < y → SQ j = v) → (y < x + u → SQ y ≠ v) → bhF SQ v u x = y
  | 0, x, y, h1, h2, _, _ => by
    show x = y
    omega
  | u + 1, x, y, h1, h2, h3, h4 => by
    show (if SQ x = v then bhF SQ v u (x + 1) else x) = y
    by_cases e : SQ x = v
    · rw [if_pos e]
      have hne : y ≠ x := fun q => by rw [q] at h4; exact h4 (by omega) e
      exact bh_uniq SQ v u (x + 1) y (by omega) (by omega) (fun j a b => h3 j (by omega) b) (fun a => h4 (by omega))
    · rw [if_neg e]
      by_cases q : y = x
      · exact q.symm
      · exact absurd (h3 x (Nat.le_refl _) (by omega)) e
/-- a row of numbers in order, as the class and the reference hold it -/
def hold (G : Nat → Nat) (z A : Nat) (F : Nat → Int32) (SQ : Nat → Int64) : Prop := (1 ≤ z ∧ z ≤ 144) ∧ (1 ≤ A ∧ A ≤ 640000) ∧ (∀ k, k < z → G k ≤ 51200) ∧ (∀ a b, a ≤ b → b < z → G a ≤ G b) ∧ (∀ k, k < z → F k = nI (G k)) ∧ ∀ k, k < 4 * z → SQ k = lN (G (k / 4) * A)
theorem SQ_inj {G : Nat → Nat} {z A : Nat} {F : Nat → Int32} {SQ : Nat → Int64} (H : hold G z A F SQ) {a b : Nat} (ha : a < 4 * z) (hb : b < 4 * z) : SQ a = SQ b ↔ G (a / 4) = G (b / 4) := by
  obtain ⟨_, hA, hG, _, _, hS⟩ := H
  have b1 : G (a / 4) * A ≤ 51200 * 640000 := Nat.mul_le_mul (hG _ (by omega)) hA.2
  have b2 : G (b / 4) * A ≤ 51200 * 640000 := Nat.mul_le_mul (hG _ (by omega)) hA.2
  rw [hS a ha, hS b hb, pk_lEQ (by omega) (by omega)]
  exact ⟨fun e => Nat.eq_of_mul_eq_mul_right (by omega) e, fun e => by rw [e]⟩
theorem F_inj {G : Nat → Nat} {z A : Nat} {F : Nat → Int32} {SQ : Nat → Int64} (H : hold G z A F SQ) {a b : Nat} (ha : a < z) (hb : b < z) : F a = F b ↔ G a = G b := by
  obtain ⟨_, _, hG, _, hF, _⟩ := H
  have b1 := hG a ha
  have b2 := hG b hb
  rw [hF a ha, hF b hb, nI_eq (by omega) (by omega)]
theorem bh_4 {G : Nat → Nat} {z A : Nat} {F : Nat → Int32} {SQ : Nat → Int64} (H : hold G z A F SQ) {k k' : Nat} (h1 : k < k') (h2 : k' ≤ z) (h3 : ∀ j, k ≤ j → j < k' → G j = G k) (h4 : k' < z → G k' ≠ G k) : bhN SQ (4 * z) (4 * k) = 4 * k' := by
  unfold bhN
  refine bh_uniq SQ (SQ (4 * k)) _ _ _ (by omega) (by omega) (fun j a b => ?_) (fun a => ?_)
  · rw [SQ_inj H (by omega) (by omega), Nat.mul_div_cancel_left k (by omega)]
    exact h3 _ (by omega) (by omega)
  · rw [Ne, SQ_inj H (by omega) (by omega), Nat.mul_div_cancel_left k (by omega), Nat.mul_div_cancel_left k' (by omega)]
    exact h4 (by omega)
def stA (G : Nat → Nat) (k : Nat) : Prop := k = 0 ∨ G k ≠ G (k - 1)
theorem stA_run {G : Nat → Nat} {k k' z : Nat} (h1 : k < k') (h3 : ∀ j, k ≤ j → j < k' → G j = G k) (h4 : k' < z → G k' ≠ G k) (h : k' < z) : stA G k' := Or.inr (by rw [h3 (k' - 1) (by omega) (by omega)]; exact h4 h)
theorem st_F {G : Nat → Nat} {z A : Nat} {F : Nat → Int32} {SQ : Nat → Int64} (H : hold G z A F SQ) {k : Nat} (hk : k < z) (h : stA G k) : ¬ (k ≠ 0 ∧ F k = F (k - 1)) := fun q => by
  rcases h with h | h
  · exact q.1 h
  · exact h ((F_inj H hk (by omega)).mp q.2)
theorem in_F {G : Nat → Nat} {z A : Nat} {F : Nat → Int32} {SQ : Nat → Int64} (H : hold G z A F SQ) {k k' j : Nat} (h2 : k' ≤ z) (h3 : ∀ j, k ≤ j → j < k' → G j = G k) (hj : k < j) (hj2 : j < k') : j ≠ 0 ∧ F j = F (j - 1) := ⟨by omega, (F_inj H (by omega) (by omega)).mpr (by rw [h3 j (by omega) hj2, h3 (j - 1) (by omega) (by omega)])⟩
theorem dn_run {G : Nat → Nat} {z A : Nat} {F : Nat → Int32} {SQ : Nat → Int64} (H : hold G z A F SQ) {k k' : Nat} (h2 : k' ≤ z) (h3 : ∀ j, k ≤ j → j < k' → G j = G k) (hs : stA G k) : ∀ d, k + 1 + d ≤ k' → dnF F (k + 1 + d) = dnF F k + 1
  | 0, h => if_neg (st_F H (by omega) hs)
  | d + 1, h => (if_pos (in_F H h2 h3 (show k < k + 1 + d by omega) (by omega))).trans (dn_run H h2 h3 hs d (by omega))
theorem bm_ok {G : Nat → Nat} {z A : Nat} {F : Nat → Int32} {SQ : Nat → Int64} (H : hold G z A F SQ) : ∀ u k, z < k + u → k ≤ z → (k < z → stA G k) → bmF SQ (4 * z) u (4 * k) (dnF F k) = dnF F z
  | 0, k, hu, hk, _ => by omega
  | u + 1, k, hu, hk, hs => by
    show (if 4 * k < 4 * z then bmF SQ (4 * z) u (bhN SQ (4 * z) (4 * k)) (dnF F k + 1) else dnF F k) = _
    by_cases e : k < z
    · obtain ⟨k', a, b, c, q⟩ := run_of G e
      have hd := dn_run H b c (hs e) (k' - (k + 1)) (by omega)
      rw [show k + 1 + (k' - (k + 1)) = k' by omega] at hd
      rw [if_pos (by omega), bh_4 H a b c q, ← hd]
      exact bm_ok H u k' (by omega) b (stA_run a c q)
    · rw [if_neg (by omega), show k = z by omega]
theorem na_skip {G : Nat → Nat} {z A : Nat} {F : Nat → Int32} {SQ : Nat → Int64} (H : hold G z A F SQ) {k k' : Nat} (h2 : k' ≤ z) (h3 : ∀ j, k ≤ j → j < k' → G j = G k) (rk nx : Int32) : ∀ d, k + 1 + d ≤ k' → naF F rk (z - (k + 1)) (k + 1) nx = naF F rk (z - (k + 1 + d)) (k + 1 + d) nx
  | 0, _ => rfl
  | d + 1, h => by
    rw [na_skip H h2 h3 rk nx d (by omega), show z - (k + 1 + d) = z - (k + 1 + (d + 1)) + 1 by omega]
    exact if_pos (in_F H h2 h3 (show k < k + 1 + d by omega) (by omega))
theorem nI_m1 (a : Nat) : nI (a + 1) + -1 = nI a := by
  rw [← nI_1, Int32.add_assoc, show (1 : Int32) + -1 = 0 by decide, Int32.add_zero]
theorem na_ok {G : Nat → Nat} {z A : Nat} {F : Nat → Int32} {SQ : Nat → Int64} (H : hold G z A F SQ) {r : Nat} (hr : r < 2 ^ 31) : ∀ u k m, z < k + u → k ≤ z → (k < z → stA G k) → m ≤ r →
    ∃ k', k' ≤ z ∧ plF SQ (4 * z) u (4 * k) (nI (r - m)) = 4 * k' ∧ (k' < z → stA G k') ∧ naF F (nI r) (z - k) k (nI m) = if k' = z then -4 else F k'
  | 0, k, m, hu, hk, _, _ => by omega
  | u + 1, k, m, hu, hk, hs, hm => by
    show ∃ k', k' ≤ z ∧ (if 4 * k < 4 * z ∧ 0 < nI (r - m) then plF SQ (4 * z) u (bhN SQ (4 * z) (4 * k)) (nI (r - m) + -1) else 4 * k) = 4 * k' ∧ _
    have h0 : (0 : Int32) < nI (r - m) ↔ m < r := by
      rw [show (0 : Int32) = nI 0 from rfl, nI_ltI (by omega) (by omega)]
      omega
    by_cases e : k < z
    · have hz : z - k = z - (k + 1) + 1 := by omega
      have hn : naF F (nI r) (z - k) k (nI m) = if nI m = nI r then F k else naF F (nI r) (z - (k + 1)) (k + 1) (nI m + 1) := by
        rw [hz]
        exact if_neg (st_F H e (hs e))
      by_cases c : m = r
      · refine ⟨k, hk, if_neg (fun q => ?_), hs, ?_⟩
        · have := h0.mp q.2
          omega
        · rw [hn, if_pos (by rw [c]), if_neg (by omega)]
      · obtain ⟨k1, a, b, c1, q⟩ := run_of G e
        obtain ⟨k', i1, i2, i3, i4⟩ := na_ok H hr u k1 (m + 1) (by omega) b (stA_run a c1 q) (by omega)
        refine ⟨k', i1, ?_, i3, ?_⟩
        · rw [if_pos ⟨by omega, h0.mpr (by omega)⟩, bh_4 H a b c1 q, show r - m = r - (m + 1) + 1 by omega, nI_m1]
          exact i2
        · rw [hn, if_neg (fun w => c ((nI_eq (by omega) hr).mp w)), na_skip H b c1 (nI r) (nI m + 1) (k1 - (k + 1)) (by omega), show k + 1 + (k1 - (k + 1)) = k1 by omega, nI_1]
          exact i4
    · have ek : k = z := by omega
      refine ⟨z, Nat.le_refl _, ?_, fun h => absurd h (Nat.lt_irrefl _), ?_⟩
      · rw [if_neg (fun q => by omega), ek]
      · rw [if_pos rfl, ek, Nat.sub_self]; rfl
theorem cw_run {G : Nat → Nat} {z A : Nat} {F : Nat → Int32} {SQ : Nat → Int64} (H : hold G z A F SQ) {k k' : Nat} (h1 : k < k') (h2 : k' ≤ z) (h3 : ∀ j, k ≤ j → j < k' → G j = G k) (h4 : k' < z → G k' ≠ G k) (hs : stA G k) : ∀ m, m ≤ z → cwF F (F k) m = nI (4 * (min m k' - k))
  | 0, _ => by
    rw [Nat.zero_min, Nat.zero_sub]; rfl
  | m + 1, hm => by
    show (if F m = F k then cwF F (F k) m + 4 else cwF F (F k) m) = _
    rw [cw_run H h1 h2 h3 h4 hs m (by omega)]
    by_cases e : k ≤ m ∧ m < k'
    · rw [if_pos ((F_inj H (by omega) (by omega)).mpr (h3 m e.1 e.2)), show nI (4 * (min m k' - k)) + 4 = nI (4 * (min m k' - k) + 4) from nI_add _ 4]
      congr 1; omega
    · have hne : ¬ F m = F k := by
        rw [F_inj H (by omega) (by omega)]
        intro q
        obtain ⟨_, _, _, hA, _, _⟩ := H
        by_cases c : m < k
        · rcases hs with hs | hs
          · omega
          · have a1 := hA m (k - 1) (by omega) (by omega)
            have a2 := hA (k - 1) k (by omega) (by omega)
            exact hs (by omega)
        · have a1 := hA k k' (by omega) (by omega)
          have a2 := hA k' m (by omega) (by omega)
          exact h4 (by omega) (by omega)
      rw [if_neg hne]
      congr 1; omega
/-- a fraction, in lowest terms -/
theorem fr_ok {N A : Nat} (b1 : N ≤ 51200) (a1 : 1 ≤ A ∧ A ≤ 640000) : dvL (nI N).toInt64 (gcL (nI N).toInt64 (lN A)) = lN (N * A) / gcM (lN (N * A)) (lN (A * A)) ∧ dvL (lN A) (gcL (nI N).toInt64 (lN A)) = lN (A * A) / gcM (lN (N * A)) (lN (A * A)) ∧ 0 ≤ lN (N * A) ∧ ¬ gcM (lN (N * A)) (lN (A * A)) = 0 := by
  have hNA : N * A ≤ 51200 * 640000 := Nat.mul_le_mul b1 a1.2
  have hAA : A * A ≤ 640000 * 640000 := Nat.mul_le_mul a1.2 a1.2
  have g0 : 0 < Nat.gcd N A := Nat.gcd_pos_of_pos_right N (by omega)
  have gA : Nat.gcd N A ≤ A := Nat.gcd_le_right N (by omega)
  have gm : Nat.gcd (N * A) (A * A) = Nat.gcd N A * A := Nat.gcd_mul_right N A A
  have gp : 0 < Nat.gcd N A * A := Nat.mul_pos g0 a1.1
  have gb : Nat.gcd N A * A ≤ A * A := Nat.mul_le_mul_right A gA
  rw [nI_toL (by omega), gcL_n (by omega) (by omega), gcM_n (by omega) (by omega), gm, dvL_n (by omega) (by omega), dvL_n (by omega) (by omega), pk_lDiv (by omega) gp (by omega), pk_lDiv (by omega) gp (by omega), Nat.mul_div_mul_right N _ a1.1, Nat.mul_div_mul_right A _ a1.1]
  exact ⟨rfl, rfl, lN_nn (by omega), lN_ne (by omega) gp⟩
theorem qt_ok {N A : Nat} (b1 : N ≤ 51200) (b0 : 1 ≤ N) (a1 : 1 ≤ A ∧ A ≤ 640000) : lN (A * A) / lN (N * A) = lN (A / N) ∧ A / N < 360000000000000000 := by
  have hNA : N * A ≤ 51200 * 640000 := Nat.mul_le_mul b1 a1.2
  have hAA : A * A ≤ 640000 * 640000 := Nat.mul_le_mul a1.2 a1.2
  have hd := Nat.div_le_self A N
  rw [pk_lDiv (by omega) (Nat.mul_pos b0 a1.1) (by omega), Nat.mul_div_mul_right A N a1.1]
  exact ⟨rfl, by omega⟩
/-- what the reference's walks ask -/
theorem bt_ok {G : Nat → Nat} {z A : Nat} {F : Nat → Int32} {SQ : Nat → Int64} (H : hold G z A F SQ) : btH SQ (4 * z) (lN (A * A)) := by
  obtain ⟨hz, hA, hG, _, _, hS⟩ := H
  have hAA : A * A ≤ 640000 * 640000 := Nat.mul_le_mul hA.2 hA.2
  refine ⟨lN_nn (by omega), fun x hx => ?_⟩
  have hg := hG (x / 4) (by omega)
  rw [hS x hx]
  have f := fr_ok hg hA
  refine ⟨f.2.2.1, f.2.2.2, fun hne => ?_⟩
  have h1 : 1 ≤ G (x / 4) := by
    rcases Nat.eq_zero_or_pos (G (x / 4)) with e | e
    · rw [e, Nat.zero_mul] at hne; exact absurd rfl hne
    · exact e
  have q := qt_ok hg h1 hA
  exact ⟨A / G (x / 4), q.2, q.1, by rw [q.1, lN_tN (by omega)]⟩
/-- the four answers, by rank -/
theorem be_ok {G : Nat → Nat} {z A : Nat} {F : Nat → Int32} {SQ : Nat → Int64} (H : hold G z A F SQ) {rk : Int32} (hrk : 0 ≤ rk) :
    ((if 0 ≤ naF F rk z 0 0 then dvL (naF F rk z 0 0).toInt64 (gcL (naF F rk z 0 0).toInt64 (lN A)) else (naF F rk z 0 0).toInt64) = (if plF SQ (4 * z) (4 * z + 1) 0 rk = 4 * z then -4 else SQ (plF SQ (4 * z) (4 * z + 1) 0 rk) / gcM (SQ (plF SQ (4 * z) (4 * z + 1) 0 rk)) (lN (A * A)))
    ∧ (if 0 ≤ naF F rk z 0 0 then dvL (lN A) (gcL (naF F rk z 0 0).toInt64 (lN A)) else (naF F rk z 0 0).toInt64) = (if plF SQ (4 * z) (4 * z + 1) 0 rk = 4 * z then -4 else lN (A * A) / gcM (SQ (plF SQ (4 * z) (4 * z + 1) 0 rk)) (lN (A * A))))
    ∧ (if 0 ≤ naF F rk z 0 0 then cwF F (naF F rk z 0 0) z else naF F rk z 0 0) = (if plF SQ (4 * z) (4 * z + 1) 0 rk = 4 * z then -4 else (nI (bhN SQ (4 * z) (plF SQ (4 * z) (4 * z + 1) 0 rk)) - nI (plF SQ (4 * z) (4 * z + 1) 0 rk)).toInt64 : Int64).toInt32
    ∧ (if 0 ≤ naF F rk z 0 0 then (if naF F rk z 0 0 = 0 then -4 else prI (lN A) (naF F rk z 0 0)) else naF F rk z 0 0) = (if plF SQ (4 * z) (4 * z + 1) 0 rk = 4 * z then -4 else (if SQ (plF SQ (4 * z) (4 * z + 1) 0 rk) = 0 then -4 else (nI (isq (lN (A * A) / SQ (plF SQ (4 * z) (4 * z + 1) 0 rk)).toInt.toNat)).toInt64) : Int64).toInt32 := by
  obtain ⟨r, hr, er⟩ : ∃ r : Nat, r < 2 ^ 31 ∧ rk = nI r := by
    rw [Int32.le_iff_toInt_le] at hrk
    have e0 : (0 : Int32).toInt = 0 := rfl
    have hlt := Int32.toInt_lt rk
    refine ⟨rk.toInt.toNat, by omega, ?_⟩
    rw [← iI_nI, Int.toNat_of_nonneg (by omega), iI_toInt]
  subst er
  obtain ⟨k', i1, i2, i3, i4⟩ := na_ok H hr (4 * z + 1) 0 0 (by omega) (Nat.zero_le _) (fun _ => Or.inl rfl) (Nat.zero_le _)
  rw [Nat.sub_zero] at i2 i4
  change plF SQ (4 * z) (4 * z + 1) 0 (nI r) = 4 * k' at i2
  change naF F (nI r) z 0 0 = _ at i4
  rw [i2, i4]
  by_cases e : k' = z
  · have e4 : 4 * k' = 4 * z := by rw [e]
    rw [if_pos e]
    exact ⟨⟨by rw [if_pos e4]; rfl, by rw [if_pos e4]; rfl⟩, by rw [if_pos e4]; rfl, by rw [if_pos e4]; rfl⟩
  · have hk : k' < z := by omega
    have e4 : ¬ 4 * k' = 4 * z := by omega
    obtain ⟨k1, a, b, c, q⟩ := run_of G hk
    have cw := cw_run H a b c q (i3 hk) z (Nat.le_refl _)
    have bh := bh_4 H a b c q
    obtain ⟨hz, hA, hG, _, hF, hS⟩ := H
    have hg := hG k' hk
    have hp : (0 : Int32) ≤ F k' := by rw [hF k' hk]; exact nI_pos' (by omega)
    have hsq : SQ (4 * k') = lN (G k' * A) := by rw [hS (4 * k') (by omega), Nat.mul_div_cancel_left k' (by omega)]
    have f := fr_ok hg hA
    rw [if_neg e]
    refine ⟨⟨?_, ?_⟩, ?_, ?_⟩
    · rw [if_pos hp, if_neg e4, hsq, hF k' hk]; exact f.1
    · rw [if_pos hp, if_neg e4, hsq, hF k' hk]; exact f.2.1
    · rw [if_pos hp, if_neg e4, cw, bh, Int32.toInt32_toInt64, ← iI_nI (4 * k1), ← iI_nI (4 * k'), iI_sub, ← iI_nI]
      congr 1; omega
    · have hNA : G k' * A ≤ 51200 * 640000 := Nat.mul_le_mul hg hA.2
      rw [if_pos hp, if_neg e4, hsq, hF k' hk]
      by_cases h0 : G k' = 0
      · rw [h0, Nat.zero_mul, if_pos (show nI 0 = 0 from rfl), if_pos (show lN 0 = 0 from rfl)]; rfl
      · have q1 := qt_ok hg (Nat.pos_of_ne_zero h0) hA
        rw [if_neg (show ¬ nI (G k') = 0 from fun w => h0 ((nI_eq (a := G k') (b := 0) (by omega) (by omega)).mp w)), if_neg (lN_ne (by omega) (Nat.mul_pos (Nat.pos_of_ne_zero h0) hA.1)), q1.1, lN_tN (by omega), prI_n (by omega) (by omega), Int32.toInt32_toInt64]
/-- every beat of a pair -/
theorem hold_of {P Q : Nat → Int32} {n i j w : Nat} (SQ : Nat → Int64) (h : VP P Q n) (hi : i < n) (hj : j < n) (hw : w = 1 ∨ w = 2) :
    ∃ G : Nat → Nat, hold G (npAll (P i) (Q i) (P j) (Q j) w w).length (aP P Q i j) (srF (lsF (npAll (P i) (Q i) (P j) (Q j) w w)) ((npAll (P i) (Q i) (P j) (Q j) w w).length - 1)) (insA SQ 0 (laL P Q w i j)) ∧ (laL P Q w i j).length = 4 * (npAll (P i) (Q i) (P j) (Q j) w w).length := by
  obtain ⟨C, c1, c2, c3, c4, c5, c6⟩ := rows_ok SQ h hi hj hw
  have e : (npAll (P i) (Q i) (P j) (Q j) w w).length = C.length := by rw [np_NL h hi hj hw, List.length_map, c1]
  rw [e] at c4 ⊢
  have ln := NL_len P Q hw i j
  refine ⟨fun k => C.getD k 0, ⟨by omega, aP_bd h hi hj, fun k hk => ?_, fun a b hab hb => ?_, c4, c6⟩, c5⟩
  · show C.getD k 0 ≤ 51200
    rw [List.getD_eq_getElem?_getD, List.getElem?_eq_getElem hk]
    exact c3 _ (List.getElem_mem hk)
  · show C.getD a 0 ≤ C.getD b 0
    rw [List.getD_eq_getElem?_getD, List.getD_eq_getElem?_getD, List.getElem?_eq_getElem hb, List.getElem?_eq_getElem (show a < C.length by omega)]
    show C[a] ≤ C[b]
    by_cases hq : a = b
    · subst hq; exact Nat.le_refl _
    · exact List.pairwise_iff_getElem.mp c2 a b (by omega) hb (by omega)
theorem bcount_ok {P Q : Nat → Int32} {n i j w : Nat} (SQ : Nat → Int64) (h : VP P Q n) (hi : i < n) (hj : j < n) (hw : w = 1 ∨ w = 2) : dnF (srF (lsF (npAll (P i) (Q i) (P j) (Q j) w w)) ((npAll (P i) (Q i) (P j) (Q j) w w).length - 1)) (npAll (P i) (Q i) (P j) (Q j) w w).length = bmF (insA SQ 0 (laL P Q w i j)) (laL P Q w i j).length ((laL P Q w i j).length + 1) 0 0 := by
  obtain ⟨G, H, e⟩ := hold_of SQ h hi hj hw
  rw [e]
  exact (bm_ok H _ 0 (by omega) (Nat.zero_le _) (fun _ => Or.inl rfl)).symm
theorem bth_ok {P Q : Nat → Int32} {n i j w : Nat} (SQ : Nat → Int64) (h : VP P Q n) (hi : i < n) (hj : j < n) (hw : w = 1 ∨ w = 2) : btH (insA SQ 0 (laL P Q w i j)) (laL P Q w i j).length (bsL P Q i j) := by
  obtain ⟨G, H, e⟩ := hold_of SQ h hi hj hw
  rw [e, bsL_n h hi hj]
  exact bt_ok H
theorem beat_ok {P Q : Nat → Int32} {n i j w : Nat} (SQ : Nat → Int64) {rk : Int32} (h : VP P Q n) (hi : i < n) (hj : j < n) (hw : w = 1 ∨ w = 2) (hrk : 0 ≤ rk) :
    ((if 0 ≤ naF (srF (lsF (npAll (P i) (Q i) (P j) (Q j) w w)) ((npAll (P i) (Q i) (P j) (Q j) w w).length - 1)) rk (npAll (P i) (Q i) (P j) (Q j) w w).length 0 0 then dvL (naF (srF (lsF (npAll (P i) (Q i) (P j) (Q j) w w)) ((npAll (P i) (Q i) (P j) (Q j) w w).length - 1)) rk (npAll (P i) (Q i) (P j) (Q j) w w).length 0 0).toInt64 (gcL (naF (srF (lsF (npAll (P i) (Q i) (P j) (Q j) w w)) ((npAll (P i) (Q i) (P j) (Q j) w w).length - 1)) rk (npAll (P i) (Q i) (P j) (Q j) w w).length 0 0).toInt64 ((ar P Q i).toInt64 * (ar P Q j).toInt64)) else (naF (srF (lsF (npAll (P i) (Q i) (P j) (Q j) w w)) ((npAll (P i) (Q i) (P j) (Q j) w w).length - 1)) rk (npAll (P i) (Q i) (P j) (Q j) w w).length 0 0).toInt64)
      = (if plF (insA SQ 0 (laL P Q w i j)) (laL P Q w i j).length ((laL P Q w i j).length + 1) 0 rk = (laL P Q w i j).length then -4 else (insA SQ 0 (laL P Q w i j)) (plF (insA SQ 0 (laL P Q w i j)) (laL P Q w i j).length ((laL P Q w i j).length + 1) 0 rk) / gcM ((insA SQ 0 (laL P Q w i j)) (plF (insA SQ 0 (laL P Q w i j)) (laL P Q w i j).length ((laL P Q w i j).length + 1) 0 rk)) (bsL P Q i j))
    ∧ (if 0 ≤ naF (srF (lsF (npAll (P i) (Q i) (P j) (Q j) w w)) ((npAll (P i) (Q i) (P j) (Q j) w w).length - 1)) rk (npAll (P i) (Q i) (P j) (Q j) w w).length 0 0 then dvL ((ar P Q i).toInt64 * (ar P Q j).toInt64) (gcL (naF (srF (lsF (npAll (P i) (Q i) (P j) (Q j) w w)) ((npAll (P i) (Q i) (P j) (Q j) w w).length - 1)) rk (npAll (P i) (Q i) (P j) (Q j) w w).length 0 0).toInt64 ((ar P Q i).toInt64 * (ar P Q j).toInt64)) else (naF (srF (lsF (npAll (P i) (Q i) (P j) (Q j) w w)) ((npAll (P i) (Q i) (P j) (Q j) w w).length - 1)) rk (npAll (P i) (Q i) (P j) (Q j) w w).length 0 0).toInt64)
      = (if plF (insA SQ 0 (laL P Q w i j)) (laL P Q w i j).length ((laL P Q w i j).length + 1) 0 rk = (laL P Q w i j).length then -4 else bsL P Q i j / gcM ((insA SQ 0 (laL P Q w i j)) (plF (insA SQ 0 (laL P Q w i j)) (laL P Q w i j).length ((laL P Q w i j).length + 1) 0 rk)) (bsL P Q i j)))
    ∧ (if 0 ≤ naF (srF (lsF (npAll (P i) (Q i) (P j) (Q j) w w)) ((npAll (P i) (Q i) (P j) (Q j) w w).length - 1)) rk (npAll (P i) (Q i) (P j) (Q j) w w).length 0 0 then cwF (srF (lsF (npAll (P i) (Q i) (P j) (Q j) w w)) ((npAll (P i) (Q i) (P j) (Q j) w w).length - 1)) (naF (srF (lsF (npAll (P i) (Q i) (P j) (Q j) w w)) ((npAll (P i) (Q i) (P j) (Q j) w w).length - 1)) rk (npAll (P i) (Q i) (P j) (Q j) w w).length 0 0) (npAll (P i) (Q i) (P j) (Q j) w w).length else naF (srF (lsF (npAll (P i) (Q i) (P j) (Q j) w w)) ((npAll (P i) (Q i) (P j) (Q j) w w).length - 1)) rk (npAll (P i) (Q i) (P j) (Q j) w w).length 0 0)
      = ((if plF (insA SQ 0 (laL P Q w i j)) (laL P Q w i j).length ((laL P Q w i j).length + 1) 0 rk = (laL P Q w i j).length then -4 else (nI (bhN (insA SQ 0 (laL P Q w i j)) (laL P Q w i j).length (plF (insA SQ 0 (laL P Q w i j)) (laL P Q w i j).length ((laL P Q w i j).length + 1) 0 rk)) - nI (plF (insA SQ 0 (laL P Q w i j)) (laL P Q w i j).length ((laL P Q w i j).length + 1) 0 rk)).toInt64 : Int64).toInt32)
    ∧ (if 0 ≤ naF (srF (lsF (npAll (P i) (Q i) (P j) (Q j) w w)) ((npAll (P i) (Q i) (P j) (Q j) w w).length - 1)) rk (npAll (P i) (Q i) (P j) (Q j) w w).length 0 0 then (if naF (srF (lsF (npAll (P i) (Q i) (P j) (Q j) w w)) ((npAll (P i) (Q i) (P j) (Q j) w w).length - 1)) rk (npAll (P i) (Q i) (P j) (Q j) w w).length 0 0 = 0 then -4 else prI ((ar P Q i).toInt64 * (ar P Q j).toInt64) (naF (srF (lsF (npAll (P i) (Q i) (P j) (Q j) w w)) ((npAll (P i) (Q i) (P j) (Q j) w w).length - 1)) rk (npAll (P i) (Q i) (P j) (Q j) w w).length 0 0)) else naF (srF (lsF (npAll (P i) (Q i) (P j) (Q j) w w)) ((npAll (P i) (Q i) (P j) (Q j) w w).length - 1)) rk (npAll (P i) (Q i) (P j) (Q j) w w).length 0 0)
      = ((if plF (insA SQ 0 (laL P Q w i j)) (laL P Q w i j).length ((laL P Q w i j).length + 1) 0 rk = (laL P Q w i j).length then -4 else (if (insA SQ 0 (laL P Q w i j)) (plF (insA SQ 0 (laL P Q w i j)) (laL P Q w i j).length ((laL P Q w i j).length + 1) 0 rk) = 0 then -4 else (nI (isq (bsL P Q i j / ((insA SQ 0 (laL P Q w i j)) (plF (insA SQ 0 (laL P Q w i j)) (laL P Q w i j).length ((laL P Q w i j).length + 1) 0 rk))).toInt.toNat)).toInt64) : Int64).toInt32) := by
  obtain ⟨G, H, e⟩ := hold_of SQ h hi hj hw
  rw [e, bsL_n h hi hj, aP_lN h hi hj]
  exact be_ok H hrk

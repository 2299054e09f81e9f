/-! the law's sums of bands, the worst one -/
def bN (P Q : Nat → Int32) (w : Nat) (f ll : Int32) (i j : Nat) : Nat := 4 * ctN (bd (aP P Q i j) f ll) (NL P Q w i j)
def bT (P Q : Nat → Int32) (f ll : Int32) (i j k : Nat) : Nat := 4 * ctN (bd (aT P Q i j k) f ll) (TL P Q i j k)
def suK (P Q : Nat → Int32) (f ll : Int32) (i j : Nat) : Nat → Nat
  | 0 => 0
  | d + 1 => suK P Q f ll i j d + bT P Q f ll i j (j + 1 + d)
def suJ (P Q : Nat → Int32) (w : Nat) (f ll : Int32) (n i : Nat) : Nat → Nat
  | 0 => 0
  | d + 1 => suJ P Q w f ll n i d + bN P Q w f ll i (i + 1 + d) + suK P Q f ll i (i + 1 + d) (n - (i + 1 + d + 1))
def suI (P Q : Nat → Int32) (w : Nat) (f ll : Int32) (n : Nat) : Nat → Nat
  | 0 => 0
  | i + 1 => suI P Q w f ll n i + suJ P Q w f ll n i (n - (i + 1))
theorem cnt_e (P Q : Nat → Int32) (w : Nat) (f ll : Int32) : cnt P Q w f ll 0 = bN P Q w f ll 0 1 ∧ cnt P Q w f ll 1 = bN P Q w f ll 0 2 ∧ cnt P Q w f ll 2 = bN P Q w f ll 0 3 ∧ cnt P Q w f ll 3 = bN P Q w f ll 1 2 ∧ cnt P Q w f ll 4 = bN P Q w f ll 1 3 ∧ cnt P Q w f ll 5 = bN P Q w f ll 2 3
    ∧ cnt P Q w f ll 6 = bT P Q f ll 0 1 2 ∧ cnt P Q w f ll 7 = bT P Q f ll 0 1 3 ∧ cnt P Q w f ll 8 = bT P Q f ll 0 2 3 ∧ cnt P Q w f ll 9 = bT P Q f ll 1 2 3 := by
  have hp : ∀ gi, gi < 6 → cnt P Q w f ll gi = bN P Q w f ll (giI gi) (giJ gi) := fun gi h => by
    unfold cnt gA gL bN
    rw [if_pos h, if_pos h]
  have ht : ∀ gi, ¬ gi < 6 → cnt P Q w f ll gi = bT P Q f ll (giI gi) (giJ gi) (giK gi) := fun gi h => by
    unfold cnt gA gL bT
    rw [if_neg h, if_neg h]
  exact ⟨hp 0 (by decide), hp 1 (by decide), hp 2 (by decide), hp 3 (by decide), hp 4 (by decide), hp 5 (by decide), ht 6 (by decide), ht 7 (by decide), ht 8 (by decide), ht 9 (by decide)⟩
theorem cS_s (P Q : Nat → Int32) (w : Nat) (f ll : Int32) (n g : Nat) : cS P Q w f ll n (fun _ => true) (g + 1) = if giT g < n then cS P Q w f ll n (fun _ => true) g + cnt P Q w f ll g else cS P Q w f ll n (fun _ => true) g := by
  show (if giT g < n ∧ true = true then _ else _) = _
  by_cases e : giT g < n
  · rw [if_pos e, if_pos ⟨e, rfl⟩]
  · rw [if_neg e, if_neg (fun q => e q.1)]
theorem su_all (P Q : Nat → Int32) (w : Nat) (f ll : Int32) {n : Nat} (hn : n ≤ 4) : suI P Q w f ll n n = cS P Q w f ll n (fun _ => true) 10 := by
  obtain ⟨c0, c1, c2, c3, c4, c5, c6, c7, c8, c9⟩ := cnt_e P Q w f ll
  have s0 : cS P Q w f ll n (fun _ => true) 0 = 0 := rfl
  rw [cS_s, cS_s, cS_s, cS_s, cS_s, cS_s, cS_s, cS_s, cS_s, cS_s, s0, c0, c1, c2, c3, c4, c5, c6, c7, c8, c9]
  have t : giT 0 = 1 ∧ giT 1 = 2 ∧ giT 2 = 3 ∧ giT 3 = 2 ∧ giT 4 = 3 ∧ giT 5 = 3 ∧ giT 6 = 2 ∧ giT 7 = 3 ∧ giT 8 = 3 ∧ giT 9 = 3 := by decide
  obtain ⟨t0, t1, t2, t3, t4, t5, t6, t7, t8, t9⟩ := t
  rw [t0, t1, t2, t3, t4, t5, t6, t7, t8, t9]
  rcases (show n = 0 ∨ n = 1 ∨ n = 2 ∨ n = 3 ∨ n = 4 by omega) with rfl | rfl | rfl | rfl | rfl
  · rfl
  · rfl
  · show 0 + 0 + (0 + bN P Q w f ll 0 (0 + 1 + 0) + 0) + 0 = _
    simp
  · simp [suI, suJ, suK]
    omega
  · simp [suI, suJ, suK]
    omega
theorem su_le {P Q : Nat → Int32} {w n : Nat} (hw : w = 1 ∨ w = 2) (f ll : Int32) (hn : n ≤ 4) : suI P Q w f ll n n ≤ 5760 := by
  rw [su_all P Q w f ll hn]
  exact cS_le hw f ll n _ 10
theorem kN_band2 {A F G N : Nat} (h : kN A F G N = 3) : 0 < N ∧ N * F < A ∧ A < N * G := by
  have h1 := kN_band h
  refine ⟨h1.1, h1.2, ?_⟩
  unfold kN at h
  rw [if_neg (by omega), if_pos h1.2] at h
  by_cases h2 : A < N * G
  · exact h2
  · rw [if_neg h2] at h; omega
/-- a pair's or triple's widest: none just if it has no band; else under the long limit -/
theorem mn_cnt {P Q : Nat → Int32} {n w gi : Nat} {f ll : Int32} (h : VP P Q n) (hv : LV f ll) (hw : w = 1 ∨ w = 2) (hg : gi < 10) (ht : giT gi < n) :
    (cnt P Q w f ll gi = 0 ∧ isq (wqG P Q w f ll gi) = 0) ∨ (cnt P Q w f ll gi ≠ 0 ∧ 1 ≤ isq (wqG P Q w f ll gi) ∧ isq (wqG P Q w f ll gi) < fX ll) := by
  have ga := gA_bd h hg ht
  have m := mnN_spec (bd (gA P Q gi) f ll) (bd_0 _ _ _) (gL P Q w gi) 0
  obtain ⟨m1, m2, m3⟩ := m
  by_cases e : mnG P Q w f ll gi = 0
  · left
    have h1 := (m1 e).2
    refine ⟨?_, ?_⟩
    · unfold cnt
      rw [ctN_none h1]
    · unfold wqG
      rw [e, Nat.div_zero, isq_0]
  · right
    have h2 := (m3 e).1.resolve_left e
    have h3 := kN_band2 (beq_iff_eq.mp h2.2)
    change 0 < mnG P Q w f ll gi ∧ mnG P Q w f ll gi * (fX f * fX f) < gA P Q gi ∧ gA P Q gi < mnG P Q w f ll gi * (fX ll * fX ll) at h3
    have h4 := bd_lt hv h2.2
    change 0 < mnG P Q w f ll gi ∧ mnG P Q w f ll gi ≤ gA P Q gi at h4
    refine ⟨fun q => ?_, ?_, ?_⟩
    · have h5 : 0 < ctN (bd (gA P Q gi) f ll) (gL P Q w gi) := by
        rw [ctN_countP]
        exact List.countP_pos_iff.mpr ⟨_, h2.1, h2.2⟩
      unfold cnt at q
      omega
    · refine isq_pos ?_
      unfold wqG
      exact (Nat.one_le_div_iff h3.1).mpr h4.2
    · have h6 : wqG P Q w f ll gi < fX ll * fX ll := by
        unfold wqG
        rw [Nat.div_lt_iff_lt_mul h3.1, Nat.mul_comm]
        exact h3.2.2
      have h7 := (isq_spec (wqG P Q w f ll gi)).1
      rcases Nat.lt_or_ge (isq (wqG P Q w f ll gi)) (fX ll) with c | c
      · exact c
      · have := Nat.mul_le_mul c c
        omega
/-- what the search for the worst one has found -/
def WI (P Q : Nat → Int32) (w : Nat) (f ll : Int32) (n g : Nat) (s : Int32 × Int32) : Prop :=
  (cS P Q w f ll n (fun _ => true) g = 0 ∧ s = (-4, 0)) ∨ (cS P Q w f ll n (fun _ => true) g ≠ 0 ∧ ∃ gi x : Nat, gi < 10 ∧ giT gi < n ∧ 1 ≤ x ∧ x < fX ll ∧ s = (gN gi, nI x))
theorem wi_ok {P Q : Nat → Int32} {n w : Nat} {f ll : Int32} (h : VP P Q n) (hv : LV f ll) (hw : w = 1 ∨ w = 2) (hn : n ≤ 4) : ∀ g, g ≤ 10 → WI P Q w f ll n g (wsF P Q w f ll n g)
  | 0, _ => Or.inl ⟨rfl, rfl⟩
  | g + 1, hg => by
    have ih := wi_ok h hv hw hn g (by omega)
    have hll := hv.2.2
    have hfx : fX ll ≤ 10000 := by unfold fX; omega
    unfold WI at ih ⊢
    rw [cS_s]
    show (_ ∧ (if wpI P Q w f ll n g ≤ (wsF P Q w f ll n g).2 then wsF P Q w f ll n g else (gN g, wpI P Q w f ll n g)) = _) ∨ _ ∧ ∃ gi x : Nat, gi < 10 ∧ giT gi < n ∧ 1 ≤ x ∧ x < fX ll ∧ (if wpI P Q w f ll n g ≤ (wsF P Q w f ll n g).2 then wsF P Q w f ll n g else (gN g, wpI P Q w f ll n g)) = _
    by_cases e : giT g < n
    · rw [if_pos e, wpI_n h hv hw hn (by omega) e]
      rcases mn_cnt h hv hw (show g < 10 by omega) e with ⟨c1, c2⟩ | ⟨c1, c2, c3⟩
      · rw [c1, c2, Nat.add_zero]
        rcases ih with ⟨i1, i2⟩ | ⟨i1, gi, x, x1, x2, x3, x4, i2⟩
        · rw [i2, if_pos (show nI 0 ≤ ((-4 : Int32), (0 : Int32)).2 by decide)]
          exact Or.inl ⟨i1, rfl⟩
        · rw [i2, if_pos (show nI 0 ≤ (gN gi, nI x).2 from (nI_leI (by omega) (by omega)).mpr (by omega))]
          exact Or.inr ⟨i1, gi, x, x1, x2, x3, x4, rfl⟩
      · rcases ih with ⟨i1, i2⟩ | ⟨i1, gi, x, x1, x2, x3, x4, i2⟩
        · rw [i2, if_neg (show ¬ nI (isq (wqG P Q w f ll g)) ≤ ((-4 : Int32), (0 : Int32)).2 from fun q => absurd ((nI_leI (b := 0) (by omega) (by omega)).mp q) (by omega))]
          exact Or.inr ⟨by omega, g, _, by omega, e, c2, c3, rfl⟩
        · rw [i2]
          by_cases c : isq (wqG P Q w f ll g) ≤ x
          · rw [if_pos (show nI (isq (wqG P Q w f ll g)) ≤ (gN gi, nI x).2 from (nI_leI (by omega) (by omega)).mpr c)]
            exact Or.inr ⟨by omega, gi, x, x1, x2, x3, x4, rfl⟩
          · rw [if_neg (show ¬ nI (isq (wqG P Q w f ll g)) ≤ (gN gi, nI x).2 from fun q => c ((nI_leI (by omega) (by omega)).mp q))]
            exact Or.inr ⟨by omega, g, _, by omega, e, c2, c3, rfl⟩
    · have e0 : wpI P Q w f ll n g = 0 := if_neg (fun q => e ((gi_top g (by omega) n hn).mp q))
      rw [if_neg e, e0]
      rcases ih with ⟨i1, i2⟩ | ⟨i1, gi, x, x1, x2, x3, x4, i2⟩
      · rw [i2, if_pos (show (0 : Int32) ≤ ((-4 : Int32), (0 : Int32)).2 by decide)]
        exact Or.inl ⟨i1, rfl⟩
      · rw [i2, if_pos (show (0 : Int32) ≤ (gN gi, nI x).2 from nI_pos' (by omega))]
        exact Or.inr ⟨i1, gi, x, x1, x2, x3, x4, rfl⟩
theorem gN_n0 : ∀ gi, gi < 10 → 3 ≤ ([3, 5, 9, 6, 10, 12, 7, 11, 13, 14] : List Nat).getD gi 0 ∧ ([3, 5, 9, 6, 10, 12, 7, 11, 13, 14] : List Nat).getD gi 0 < 16 ∧ gN gi = nI (([3, 5, 9, 6, 10, 12, 7, 11, 13, 14] : List Nat).getD gi 0) := by decide
theorem gN_n : ∀ gi, gi < 10 → ∃ x : Nat, 3 ≤ x ∧ x < 16 ∧ gN gi = nI x := fun gi h => ⟨_, gN_n0 gi h⟩
/-- nothing, where there are no bands; else the worst one's period and plates -/
theorem worst_n {P Q : Nat → Int32} {n w : Nat} {f ll : Int32} (h : VP P Q n) (hv : LV f ll) (hw : w = 1 ∨ w = 2) (hn : n ≤ 4) :
    (suI P Q w f ll n n = 0 → (wsF P Q w f ll n 10).1 = -4) ∧ (suI P Q w f ll n n ≠ 0 → ∃ x y : Nat, (1 ≤ x ∧ x ≤ 10000 ∧ nI x < ll) ∧ (3 ≤ y ∧ y < 16 ∧ nI y < (1 : Int32) <<< (nI n &&& 31)) ∧ (wsF P Q w f ll n 10).1 = nI y ∧ (wsF P Q w f ll n 10).2 = nI x) := by
  have hI := wi_ok h hv hw hn 10 (Nat.le_refl _)
  unfold WI at hI
  rw [← su_all P Q w f ll hn] at hI
  rcases hI with ⟨i1, i2⟩ | ⟨i1, gi, x, x1, x2, x3, x4, i2⟩
  · exact ⟨fun _ => by rw [i2], fun q => absurd i1 q⟩
  · refine ⟨fun q => absurd q i1, fun _ => ?_⟩
    obtain ⟨y, y1, y2, y3⟩ := gN_n gi x1
    have hl := hv.2.2
    have hl2 := hv.2.1
    have hl3 := hv.1.1
    have ef : ((fX ll : Nat) : Int) = ll.toInt := by unfold fX; omega
    refine ⟨x, y, ⟨x3, by omega, ?_⟩, ⟨y1, y2, ?_⟩, by rw [i2, ← y3], by rw [i2]⟩
    · rw [Int32.lt_iff_toInt_lt, nI_toInt (by omega)]
      omega
    · rw [← y3]
      exact (gi_top gi x1 n hn).mpr x2

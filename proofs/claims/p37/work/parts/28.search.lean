/-! the search: class and reference find the same -/
def onG (k gi : Nat) : Bool := giI gi == k || giJ gi == k || (decide (6 ≤ gi) && giK gi == k)
theorem wt_on : ∀ k, k < 4 → ∀ gi, gi < 10 → wtB ((1 : Int32) <<< (nI k &&& 31)) gi = onG k gi := by decide
theorem aN_cg {P Q P' Q' : Nat → Int32} {i : Nat} (hp : P' i = P i) (hq : Q' i = Q i) : aN P' Q' i = aN P Q i := by
  unfold aN AZ pz
  rw [hp, hq]
theorem NL_cg {P Q P' Q' : Nat → Int32} {i j : Nat} (w : Nat) (h1 : P' i = P i) (h2 : Q' i = Q i) (h3 : P' j = P j) (h4 : Q' j = Q j) : NL P' Q' w i j = NL P Q w i j := by
  unfold NL nW nN pz
  rw [h1, h2, h3, h4]
theorem TL_cg {P Q P' Q' : Nat → Int32} {i j k : Nat} (h1 : P' i = P i) (h2 : Q' i = Q i) (h3 : P' j = P j) (h4 : Q' j = Q j) (h5 : P' k = P k) (h6 : Q' k = Q k) : TL P' Q' i j k = TL P Q i j k := by
  unfold TL tN3 T3 RZ SZ pz
  rw [h1, h2, h3, h4, h5, h6]
theorem cnt_off {P Q : Nat → Int32} (w : Nat) (f ll : Int32) {k gi : Nat} (x y : Int32) (h : onG k gi = false) : cnt (upd P k x) (upd Q k y) w f ll gi = cnt P Q w f ll gi := by
  unfold onG at h
  rw [Bool.or_eq_false_iff, Bool.or_eq_false_iff, beq_eq_false_iff_ne, beq_eq_false_iff_ne] at h
  obtain ⟨⟨h1, h2⟩, h3⟩ := h
  unfold cnt gA gL aP aT
  by_cases h6 : gi < 6
  · simp only [if_pos h6]
    rw [aN_cg (pk_un h1) (pk_un h1), aN_cg (pk_un h2) (pk_un h2), NL_cg w (pk_un h1) (pk_un h1) (pk_un h2) (pk_un h2)]
  · have h4 : giK gi ≠ k := by
      intro q
      rw [decide_eq_true (show 6 ≤ gi by omega), q, beq_self_eq_true] at h3
      cases h3
    simp only [if_neg h6]
    rw [aN_cg (pk_un h1) (pk_un h1), aN_cg (pk_un h2) (pk_un h2), aN_cg (pk_un h4) (pk_un h4), TL_cg (pk_un h1) (pk_un h1) (pk_un h2) (pk_un h2) (pk_un h4) (pk_un h4)]
theorem cS_cm {P Q : Nat → Int32} {w : Nat} {f ll : Int32} {n : Nat} {m m' : Nat → Bool} : ∀ g, (∀ x, x < g → m x = m' x) → cS P Q w f ll n m g = cS P Q w f ll n m' g
  | 0, _ => rfl
  | g + 1, h => by
    show (if giT g < n ∧ m g = true then _ else _) = (if giT g < n ∧ m' g = true then _ else _)
    rw [h g (by omega), cS_cm g (fun x hx => h x (by omega))]
theorem cS_off (P Q : Nat → Int32) (w : Nat) (f ll : Int32) (n k : Nat) (x y : Int32) : ∀ g, cS (upd P k x) (upd Q k y) w f ll n (fun z => !onG k z) g = cS P Q w f ll n (fun z => !onG k z) g
  | 0 => rfl
  | g + 1 => by
    have ih := cS_off P Q w f ll n k x y g
    show (if giT g < n ∧ (!onG k g) = true then _ + cnt (upd P k x) (upd Q k y) w f ll g else _) = (if giT g < n ∧ (!onG k g) = true then _ + cnt P Q w f ll g else _)
    by_cases e : giT g < n ∧ (!onG k g) = true
    · rw [if_pos e, if_pos e, ih, cnt_off w f ll x y (by have := e.2; rwa [Bool.not_eq_true'] at this)]
    · rw [if_neg e, if_neg e, ih]
def upX (P : Nat → Int32) (k x : Nat) : Nat → Int32 := upd P k (nI x)
/-- all bands with the screen: those with the plate, and the rest, that stays -/
theorem sea_n {P Q : Nat → Int32} {n w k x y : Nat} {f ll : Int32} (h : VP P Q n) (hv : LV f ll) (hw : w = 1 ∨ w = 2) (hn : n ≤ 4) (hk : k < n) (hx1 : 1 ≤ x) (hx : x ≤ 20) (hy : y ≤ 20) :
    ∃ C : Nat, C ≤ 5760 ∧ bgF (upd P k (nI x)) (upd Q k (nI y)) w f ll n ((1 : Int32) <<< (nI k &&& 31)) 10 = nI C
      ∧ (faL (upd P k (nI x)) (upd Q k (nI y)) w f ll n).1 = nI (C + cS P Q w f ll n (fun z => !onG k z) 10)
      ∧ bgF (upd P k (nI x)) (upd Q k (nI y)) w f ll n 0 10 = nI (C + cS P Q w f ll n (fun z => !onG k z) 10) := by
  have hV := VP_upd h k x y hx1 hx hy
  have a := all_ok hV hv hw hn
  have b := bg_n ((1 : Int32) <<< (nI k &&& 31)) hV hv hw hn 10 (Nat.le_refl _)
  have c := cS_split (upd P k (nI x)) (upd Q k (nI y)) w f ll n (onG k) 10
  have d := cS_le (P := upd P k (nI x)) (Q := upd Q k (nI y)) hw f ll n (onG k) 10
  rw [cS_cm 10 (fun z hz => wt_on k (by omega) z hz)] at b
  rw [cS_off] at c
  refine ⟨_, d, b, ?_, ?_⟩
  · rw [a.2, c]
  · rw [a.1, c]
theorem abs_sz (v : Int32) : absI v = szI v := by
  unfold absI szI
  rw [Int32.zero_sub]
/-- what both have found so far -/
def seI (P Q : Nat → Int32) (w : Nat) (f ll : Int32) (n k R : Nat) (t t' : Int32 × Int32 × Int32) : Prop :=
  (t = (-4, 0, 0) ∧ t' = (-4, -4, 0)) ∨ ∃ x y C : Nat, (1 ≤ x ∧ x ≤ 20 ∧ y ≤ 20 ∧ C ≤ 5760) ∧ t.1 = nI (100 * x + y) ∧ t'.1 = nI (100 * x + y) ∧ t.2.1 = nI C ∧ t'.2.1 = nI (C + R) ∧ t.2.2 = t'.2.2 ∧ bgF (upd P k (nI x)) (upd Q k (nI y)) w f ll n 0 10 = nI (C + R)
theorem h100 (x y : Nat) : (100 : Int32) * nI x + nI y = nI (100 * x + y) := by
  rw [← nI_add, ← pk_mul]; rfl
theorem seS_ok {P Q : Nat → Int32} {n w k x y : Nat} {f ll low high : Int32} (h : VP P Q n) (hv : LV f ll) (hw : w = 1 ∨ w = 2) (hn : n ≤ 4) (hk : k < n) (hx1 : 1 ≤ x) (hx : x ≤ 20) (hy : y ≤ 20) {t t' : Int32 × Int32 × Int32}
    (hI : seI P Q w f ll n k (cS P Q w f ll n (fun z => !onG k z) 10) t t') : seI P Q w f ll n k (cS P Q w f ll n (fun z => !onG k z) 10) (seS P Q w f ll n k low high x y t) (msS P Q w f ll n k low high x y t') := by
  obtain ⟨C, c1, c2, c3, c4⟩ := sea_n (f := f) (ll := ll) (w := w) h hv hw hn hk hx1 hx hy
  have hR := cS_le (P := P) (Q := Q) hw f ll n (fun z => !onG k z) 10
  unfold seS msS
  rw [c2, c3, abs_sz, h100]
  generalize nI x * nI x + nI y * nI y = ar1
  generalize szI (ar1 - ar P Q k) = dd
  generalize cS P Q w f ll n (fun z => !onG k z) 10 = R at *
  have hb : 100 * x + y ≤ 1000000000 := by omega
  by_cases h1 : ar1 < low
  · rw [if_pos h1, if_neg (fun q => absurd q.1 (Int32.not_le.mpr h1))]
    exact hI
  · rw [if_neg h1]
    by_cases h2 : ar1 ≤ high
    · rw [if_pos h2, if_pos (show low ≤ ar1 ∧ ar1 ≤ high from ⟨Int32.not_lt.mp h1, h2⟩)]
      have hnew : seI P Q w f ll n k R (nI (100 * x + y), nI C, dd) (nI (100 * x + y), nI (C + R), dd) := Or.inr ⟨x, y, C, ⟨hx1, hx, hy, c1⟩, rfl, rfl, rfl, rfl, rfl, c4⟩
      rcases hI with ⟨i1, i2⟩ | ⟨x0, y0, C0, ⟨b1, b2, b3, b4⟩, i1, i2, i3, i4, i5, i6⟩
      · rw [if_pos (show t.1 = -4 ∨ _ from Or.inl (by rw [i1])), if_pos (show t'.1 < 0 ∨ _ from Or.inl (by rw [i2]; decide))]
        exact hnew
      · have n4 : ¬ nI (100 * x0 + y0) = -4 := by
          intro q
          have q2 := congrArg Int32.toInt q
          rw [nI_toInt (by omega)] at q2
          have e4 : (-4 : Int32).toInt = -4 := rfl
          omega
        have n0 : ¬ nI (100 * x0 + y0) < 0 := by
          intro q
          rw [Int32.lt_iff_toInt_lt, nI_toInt (by omega)] at q
          have e4 : (0 : Int32).toInt = 0 := rfl
          omega
        rw [i1, i2, i3, i4, i5]
        have e1 : (nI (100 * x0 + y0) = -4 ∨ nI C < nI C0 ∨ nI C = nI C0 ∧ dd < t'.2.2) ↔ (C < C0 ∨ C = C0 ∧ dd < t'.2.2) := by
          rw [nI_ltI (by omega) (by omega), nI_eq (by omega) (by omega)]
          exact ⟨fun q => q.resolve_left n4, Or.inr⟩
        have e2 : (nI (100 * x0 + y0) < 0 ∨ nI (C + R) < nI (C0 + R) ∨ nI (C + R) = nI (C0 + R) ∧ dd < t'.2.2) ↔ (C < C0 ∨ C = C0 ∧ dd < t'.2.2) := by
          rw [nI_ltI (by omega) (by omega), nI_eq (by omega) (by omega)]
          constructor
          · intro q
            rcases q.resolve_left n0 with q | ⟨q, q2⟩
            · exact Or.inl (by omega)
            · exact Or.inr ⟨by omega, q2⟩
          · intro q
            rcases q with q | ⟨q, q2⟩
            · exact Or.inr (Or.inl (by omega))
            · exact Or.inr (Or.inr ⟨by omega, q2⟩)
        by_cases c : C < C0 ∨ C = C0 ∧ dd < t'.2.2
        · rw [if_pos (e1.mpr c), if_pos (e2.mpr c)]
          exact hnew
        · rw [if_neg (fun q => c (e1.mp q)), if_neg (fun q => c (e2.mp q))]
          exact Or.inr ⟨x0, y0, C0, ⟨b1, b2, b3, b4⟩, i1, i2, i3, i4, i5, i6⟩
    · rw [if_neg h2, if_neg (fun q => h2 q.2)]
      exact hI
theorem seR_ok {P Q : Nat → Int32} {n w k x : Nat} {f ll low high : Int32} (h : VP P Q n) (hv : LV f ll) (hw : w = 1 ∨ w = 2) (hn : n ≤ 4) (hk : k < n) (hx1 : 1 ≤ x) (hx : x ≤ 20) {t t' : Int32 × Int32 × Int32}
    (hI : seI P Q w f ll n k (cS P Q w f ll n (fun z => !onG k z) 10) t t') : ∀ y, y ≤ 21 → seI P Q w f ll n k (cS P Q w f ll n (fun z => !onG k z) 10) (seR P Q w f ll n k low high x t y) (msR P Q w f ll n k low high x t' y)
  | 0, _ => hI
  | y + 1, hy => seS_ok h hv hw hn hk hx1 hx (by omega) (seR_ok h hv hw hn hk hx1 hx hI y (by omega))
theorem seA_ok {P Q : Nat → Int32} {n w k : Nat} {f ll low high : Int32} (h : VP P Q n) (hv : LV f ll) (hw : w = 1 ∨ w = 2) (hn : n ≤ 4) (hk : k < n) : ∀ x, x ≤ 20 → seI P Q w f ll n k (cS P Q w f ll n (fun z => !onG k z) 10) (seA P Q w f ll n k low high x) (msA P Q w f ll n k low high x)
  | 0, _ => Or.inl ⟨rfl, rfl⟩
  | x + 1, hx => seR_ok h hv hw hn hk (by omega) hx (seA_ok h hv hw hn hk x (by omega)) 21 (Nat.le_refl _)
theorem se_ok {P Q : Nat → Int32} {n w k : Nat} {f ll low high : Int32} (h : VP P Q n) (hv : LV f ll) (hw : w = 1 ∨ w = 2) (hn : n ≤ 4) (hk : k < n) :
    seL P Q w f ll n k low high = (msL P Q w f ll n k low high).1
    ∧ (if seL P Q w f ll n k low high = -4 then -4 else bgF (upd P k (seL P Q w f ll n k low high / 100)) (upd Q k (seL P Q w f ll n k low high - seL P Q w f ll n k low high / 100 * 100)) w f ll n 0 10) = (msL P Q w f ll n k low high).2.1 := by
  rw [msL_eq]
  have hI := seA_ok (low := low) (high := high) h hv hw hn hk 20 (Nat.le_refl _)
  unfold seL
  have hR := cS_le (P := P) (Q := Q) hw f ll n (fun z => !onG k z) 10
  generalize seA P Q w f ll n k low high 20 = t at hI ⊢
  generalize msA P Q w f ll n k low high 20 = t' at hI ⊢
  rcases hI with ⟨i1, i2⟩ | ⟨x0, y0, C0, ⟨b1, b2, b3, b4⟩, i1, i2, i3, i4, i5, i6⟩
  · rw [i1, i2]
    exact ⟨rfl, if_pos rfl⟩
  · have d1 : nI (100 * x0 + y0) / 100 = nI x0 := by
      rw [show (100 : Int32) = nI 100 from rfl, pk_div (by omega) (by omega) (by omega)]
      congr 1; omega
    have d2 : nI (100 * x0 + y0) - nI (100 * x0 + y0) / 100 * 100 = nI y0 := by
      rw [show (100 : Int32) = nI 100 from rfl, pk_rem (by omega) (by omega) (by omega)]
      congr 1; omega
    have n4 : ¬ nI (100 * x0 + y0) = -4 := by
      intro q
      have q2 := congrArg Int32.toInt q
      rw [nI_toInt (by omega)] at q2
      have e4 : (-4 : Int32).toInt = -4 := rfl
      omega
    rw [i1, i2, i4, if_neg n4, d2, d1]
    exact ⟨rfl, i6⟩
theorem smS_ok {P Q : Nat → Int32} {n w k : Nat} {f ll : Int32} (h : VP P Q n) (hv : LV f ll) (hw : w = 1 ∨ w = 2) : ∀ x y : Nat, 1 ≤ x → x ≤ 20 → y ≤ 20 → smW (upd P k (nI x)) (upd Q k (nI y)) w f ll n :=
  fun x y h1 h2 h3 => sm_ok (VP_upd h k x y h1 h2 h3) hv hw

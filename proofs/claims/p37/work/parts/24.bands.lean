/-! bands, locked ones, periods: class and reference by the same lists -/
def LV (f ll : Int32) : Prop := (1 ≤ f.toInt ∧ f.toInt ≤ 1000) ∧ f.toInt < ll.toInt ∧ ll.toInt ≤ 10000
def fX (f : Int32) : Nat := f.toInt.toNat
def kb (A : Nat) (f ll : Int32) (N : Nat) : Nat := kN A (fX f * fX f) (fX ll * fX ll) N
def bd (A : Nat) (f ll : Int32) (N : Nat) : Bool := kb A f ll N == 3
theorem fX_sq {f : Int32} (h1 : 1 ≤ f.toInt) (h2 : f.toInt ≤ 10000) : f.toInt64 * f.toInt64 = lN (fX f * fX f) ∧ 1 ≤ fX f ∧ fX f ≤ 10000 := by
  obtain ⟨x, a, b, c⟩ := nI_sq (f := f) (by omega) h2
  have e : fX f = x := by unfold fX; omega
  rw [e]
  exact ⟨c, by omega, a⟩
theorem kdI_k {A N : Nat} {f ll : Int32} (hv : LV f ll) (hA : A ≤ 512000000) (hN : N ≤ 1000000000) : kdI (nI N) (lfL (lN A) f) (glL (lN A) ll) = nI (kb A f ll N) := by
  obtain ⟨a1, a2, a3⟩ := fX_sq (f := f) hv.1.1 (by have := hv.1.2; omega)
  obtain ⟨b1, b2, b3⟩ := fX_sq (f := ll) (by have := hv.1.1; have := hv.2.1; omega) hv.2.2
  exact kdI_n hA hN a3 a2 b3 b2 a1 b1
theorem kdM_k {A N : Nat} {f ll : Int32} (hv : LV f ll) (hA : A ≤ 512000000) (hA1 : 1 ≤ A) (hN : N ≤ 1000000000) (hNA : N * A < 2 ^ 62) : kdM f ll (lN (N * A)) (lN (A * A)) = nI (kb A f ll N) := by
  obtain ⟨a1, a2, a3⟩ := fX_sq (f := f) hv.1.1 (by have := hv.1.2; omega)
  obtain ⟨b1, b2, b3⟩ := fX_sq (f := ll) (by have := hv.1.1; have := hv.2.1; omega) hv.2.2
  exact kdM_n hA hA1 hN hNA a3 a2 b3 b2 a1 b1
theorem nI_is {a b : Nat} (ha : a ≤ 1000000000) (hb : b ≤ 1000000000) : nI a = nI b ↔ (a == b) = true := by
  rw [nI_eq (by omega) (by omega), beq_iff_eq]
theorem kb_le (A : Nat) (f ll : Int32) (N : Nat) : kb A f ll N ≤ 3 := kN_le _ _ _ _
theorem bd_of {A : Nat} {f ll : Int32} (N : Nat) : nI (kb A f ll N) = 3 ↔ bd A f ll N = true := by
  have := kb_le A f ll N
  exact nI_is (a := kb A f ll N) (b := 3) (by omega) (by omega)
theorem bd_0 (A : Nat) (f ll : Int32) : bd A f ll 0 = false := by
  unfold bd kb kN
  rw [if_pos rfl]; rfl
theorem bd_lt {A : Nat} {f ll : Int32} (hv : LV f ll) {N : Nat} (h : bd A f ll N = true) : 0 < N ∧ N ≤ A := by
  have h2 := kN_band (beq_iff_eq.mp h)
  have h3 := (fX_sq (f := f) hv.1.1 (by have := hv.1.2; omega)).2.1
  have h4 : N * (1 * 1) ≤ N * (fX f * fX f) := Nat.mul_le_mul_left N (Nat.mul_le_mul h3 h3)
  omega
theorem foldl_cg {σ α : Type} {f g : σ → α → σ} : ∀ (L : List α) (t : σ), (∀ t x, x ∈ L → f t x = g t x) → L.foldl f t = L.foldl g t
  | [], _, _ => rfl
  | x :: L, t, h => by
    rw [List.foldl_cons, List.foldl_cons, h t x List.mem_cons_self]
    exact foldl_cg L _ (fun t y hy => h t y (List.mem_cons_of_mem _ hy))
theorem bc_n {L : List Nat} {A : Nat} {f ll : Int32} (hv : LV f ll) (hA : A ≤ 512000000) (hL : ∀ N, N ∈ L → N ≤ 100000000) : bcF (lsF (L.map nI)) (lfL (lN A) f) (glL (lN A) ll) (L.map nI).length = nI (4 * ctN (bd A f ll) L) := by
  rw [rec_foldl (fun v r => if kdI v (lfL (lN A) f) (glL (lN A) ll) = 3 then r + 4 else r) (bcF (lsF (L.map nI)) (lfL (lN A) f) (glL (lN A) ll)) (L.map nI) (fun k _ => rfl), List.foldl_map]
  have e : L.foldl (fun (r : Int32) N => if kdI (nI N) (lfL (lN A) f) (glL (lN A) ll) = 3 then r + 4 else r) (nI 0) = L.foldl (fun (r : Int32) N => if bd A f ll N = true then r + 4 else r) (nI 0) := by
    refine foldl_cg L _ (fun t N hN => ?_)
    rw [kdI_k hv hA (by have := hL N hN; omega)]
    by_cases h : bd A f ll N = true
    · rw [if_pos h, if_pos ((bd_of N).mpr h)]
    · rw [if_neg h, if_neg (fun q => h ((bd_of N).mp q))]
  show L.foldl _ (nI 0) = _
  rw [e, fold4, Nat.zero_add]
theorem cw_n {L : List Nat} {v : Nat} (hv : v ≤ 100000000) (hL : ∀ N, N ∈ L → N ≤ 100000000) : cwF (lsF (L.map nI)) (nI v) (L.map nI).length = nI (4 * ctN (fun N => N == v) L) := by
  rw [rec_foldl (fun x r => if x = nI v then r + 4 else r) (cwF (lsF (L.map nI)) (nI v)) (L.map nI) (fun k _ => rfl), List.foldl_map]
  have e : L.foldl (fun (r : Int32) N => if nI N = nI v then r + 4 else r) (nI 0) = L.foldl (fun (r : Int32) N => if (N == v) = true then r + 4 else r) (nI 0) := by
    refine foldl_cg L _ (fun t N hN => ?_)
    have h2 := hL N hN
    by_cases h : (N == v) = true
    · rw [if_pos h, if_pos ((nI_is (by omega) (by omega)).mpr h)]
    · rw [if_neg h, if_neg (fun q => h ((nI_is (by omega) (by omega)).mp q))]
  show L.foldl _ (nI 0) = _
  rw [e, fold4 (fun N => N == v), Nat.zero_add]
theorem wl_fold {A : Nat} {f ll : Int32} (hv : LV f ll) (hA : A ≤ 512000000) : ∀ (L : List Nat) (t : Nat), t ≤ 100000000 → (∀ N, N ∈ L → N ≤ 100000000) → L.foldl (fun (r : Int32) N => if kdI (nI N) (lfL (lN A) f) (glL (lN A) ll) = 3 then (if r = 0 then nI N else if r ≤ nI N then r else nI N) else r) (nI t) = nI (mnN (bd A f ll) t L)
  | [], _, _, _ => rfl
  | N :: L, t, ht, hL => by
    have h1 := hL N List.mem_cons_self
    rw [List.foldl_cons, kdI_k hv hA (by omega)]
    show _ = nI (mnN (bd A f ll) (if bd A f ll N = true then (if t = 0 then N else if t ≤ N then t else N) else t) L)
    have hL2 : ∀ K, K ∈ L → K ≤ 100000000 := fun K hK => hL K (List.mem_cons_of_mem _ hK)
    by_cases h : bd A f ll N = true
    · rw [if_pos h, if_pos ((bd_of N).mpr h)]
      by_cases h0 : t = 0
      · rw [if_pos h0, if_pos (show nI t = 0 by rw [h0]; rfl)]
        exact wl_fold hv hA L N h1 hL2
      · rw [if_neg h0, if_neg (show ¬ nI t = 0 from fun q => h0 ((nI_eq (a := t) (b := 0) (by omega) (by omega)).mp q))]
        by_cases h2 : t ≤ N
        · rw [if_pos h2, if_pos ((nI_leI (by omega) (by omega)).mpr h2)]
          exact wl_fold hv hA L t ht hL2
        · rw [if_neg h2, if_neg (fun q => h2 ((nI_leI (by omega) (by omega)).mp q))]
          exact wl_fold hv hA L N h1 hL2
    · rw [if_neg h, if_neg (fun q => h ((bd_of N).mp q))]
      exact wl_fold hv hA L t ht hL2
theorem wl_n {L : List Nat} {A : Nat} {f ll : Int32} (hv : LV f ll) (hA : A ≤ 512000000) (hL : ∀ N, N ∈ L → N ≤ 100000000) : wlF (lsF (L.map nI)) (lfL (lN A) f) (glL (lN A) ll) (L.map nI).length = nI (mnN (bd A f ll) 0 L) := by
  rw [rec_foldl (fun v r => if kdI v (lfL (lN A) f) (glL (lN A) ll) = 3 then (if r = 0 then v else if r ≤ v then r else v) else r) (wlF (lsF (L.map nI)) (lfL (lN A) f) (glL (lN A) ll)) (L.map nI) (fun k _ => rfl), List.foldl_map]
  exact wl_fold hv hA L 0 (by omega) hL
/-- the reference's count and its widest -/
theorem ok_fold {A kn : Nat} {f ll : Int32} (hv : LV f ll) (hA : A ≤ 512000000) (hA1 : 1 ≤ A) (hk : kn ≤ 3) : ∀ (L : List Nat) (c m : Nat), m ≤ 512000000 → (∀ N, N ∈ L → N ≤ 100000000) → L.foldl (fun t N => okS f ll (nI kn) (lN (A * A)) (lN (N * A)) t) (nI c, lN m) = (nI (c + ctN (fun N => kb A f ll N == kn) L), lN (if kn = 3 then mxN A (bd A f ll) m L else m))
  | [], c, m, _, _ => by
    by_cases e : kn = 3
    · rw [if_pos e]; rfl
    · rw [if_neg e]; rfl
  | N :: L, c, m, hm, hL => by
    have h1 := hL N List.mem_cons_self
    have hNA : N * A ≤ 100000000 * 512000000 := Nat.mul_le_mul h1 hA
    have hAA : A * A ≤ 512000000 * 512000000 := Nat.mul_le_mul hA hA
    have hL2 : ∀ K, K ∈ L → K ≤ 100000000 := fun K hK => hL K (List.mem_cons_of_mem _ hK)
    rw [List.foldl_cons]
    show L.foldl _ (if kdM f ll (lN (N * A)) (lN (A * A)) = nI kn then (nI c + 1, if nI kn = 3 then (if lN (A * A) / lN (N * A) ≤ lN m then lN m else lN (A * A) / lN (N * A)) else lN m) else (nI c, lN m)) = (nI (c + ((if (kb A f ll N == kn) = true then 1 else 0) + ctN (fun N => kb A f ll N == kn) L)), lN (if kn = 3 then mxN A (bd A f ll) (if bd A f ll N = true then (if A / N ≤ m then m else A / N) else m) L else m))
    rw [kdM_k hv hA hA1 (by omega) (by omega)]
    have hkb := kb_le A f ll N
    by_cases h : (kb A f ll N == kn) = true
    · rw [if_pos h, if_pos ((nI_is (by omega) (by omega)).mpr h), nI_1]
      by_cases e : kn = 3
      · have hb : bd A f ll N = true := by unfold bd; rw [← e]; exact h
        have hN := (bd_lt hv hb).1
        have hd : lN (A * A) / lN (N * A) = lN (A / N) := by
          rw [pk_lDiv (by omega) (Nat.mul_pos hN hA1) (by omega), Nat.mul_div_mul_right A N hA1]
        have hdA : A / N ≤ A := Nat.div_le_self A N
        rw [if_pos (show nI kn = 3 by rw [e]; rfl), hd, if_pos hb, if_pos e]
        by_cases h2 : A / N ≤ m
        · rw [if_pos h2, if_pos ((pk_lLE (by omega) (by omega)).mpr h2), ok_fold hv hA hA1 hk L (c + 1) m hm hL2, if_pos e]
          congr 2; omega
        · rw [if_neg h2, if_neg (fun q => h2 ((pk_lLE (by omega) (by omega)).mp q)), ok_fold hv hA hA1 hk L (c + 1) (A / N) (by omega) hL2, if_pos e]
          congr 2; omega
      · rw [if_neg (show ¬ nI kn = 3 from fun q => e ((nI_eq (a := kn) (b := 3) (by omega) (by omega)).mp q)), if_neg e, ok_fold hv hA hA1 hk L (c + 1) m hm hL2, if_neg e]
        congr 2; omega
    · rw [if_neg h, if_neg (fun q => h ((nI_is (by omega) (by omega)).mp q)), ok_fold hv hA hA1 hk L c m hm hL2]
      by_cases e : kn = 3
      · have hb : ¬ bd A f ll N = true := by unfold bd; rw [← e]; exact h
        rw [if_pos e, if_pos e, if_neg hb]
        congr 2; omega
      · rw [if_neg e, if_neg e]
        congr 2; omega
def aP (P Q : Nat → Int32) (i j : Nat) : Nat := aN P Q i * aN P Q j
theorem aP_bd {P Q : Nat → Int32} {n i j : Nat} (h : VP P Q n) (hi : i < n) (hj : j < n) : 1 ≤ aP P Q i j ∧ aP P Q i j ≤ 640000 := by
  have a := aN_bd h hi
  have b := aN_bd h hj
  exact ⟨Nat.mul_le_mul a.1 b.1, Nat.mul_le_mul a.2 b.2⟩
theorem aP_lN {P Q : Nat → Int32} {n i j : Nat} (h : VP P Q n) (hi : i < n) (hj : j < n) : (ar P Q i).toInt64 * (ar P Q j).toInt64 = lN (aP P Q i j) := by
  rw [ar_lN h hi, ar_lN h hj, lN_mul]; rfl
theorem ok_n {P Q : Nat → Int32} {n i j w kn : Nat} {f ll : Int32} (h : VP P Q n) (hv : LV f ll) (hi : i < n) (hj : j < n) (hw : w = 1 ∨ w = 2) (hk : kn ≤ 3) :
    okF P Q w f ll i j (nI kn) (wd4 w) = (nI (ctN (fun N => kb (aP P Q i j) f ll N == kn) (ML P Q w i j)), lN (if kn = 3 then mxN (aP P Q i j) (bd (aP P Q i j) f ll) 0 (ML P Q w i j) else 0)) := by
  have a := aP_bd h hi hj
  rw [okF_qd, qd_w hw, bsL_n h hi hj]
  have e : ML P Q w i j = ((pts w).flatMap (fun p => (pts w).map (fun q => (p, q)))).map (fun z => nN P Q i j z.1.1 z.1.2 z.2.1 z.2.2) := by
    unfold ML
    rw [map_fm]
    refine flatMap_cg (fun p _ => ?_)
    unfold nW
    rw [List.map_map]
    exact List.map_congr_left (fun q _ => rfl)
  have e2 : ((pts w).flatMap (fun p => (pts w).map (fun q => (p, q)))).foldl (fun t z => okS f ll (nI kn) (lN ((aN P Q i * aN P Q j) * (aN P Q i * aN P Q j))) (psL P Q i j (iI z.1.1) (iI z.1.2) (iI z.2.1) (iI z.2.2)) t) ((0 : Int32), (0 : Int64)) = (ML P Q w i j).foldl (fun t N => okS f ll (nI kn) (lN (aP P Q i j * aP P Q i j)) (lN (N * aP P Q i j)) t) (nI 0, lN 0) := by
    rw [e, List.foldl_map]
    refine foldl_cg _ _ (fun t z hz => ?_)
    obtain ⟨p, hp, hz⟩ := List.mem_flatMap.mp hz
    obtain ⟨q, hq, rfl⟩ := List.mem_map.mp hz
    rw [psL_n h hi hj (pts_o2 hw p hp).1 (pts_o2 hw p hp).2 (pts_o2 hw q hq).1 (pts_o2 hw q hq).2]
    rfl
  rw [e2, ok_fold hv (by omega) a.1 hk (ML P Q w i j) 0 0 (by omega) (fun N hN => by have := ML_le h hi hj hw N hN; omega), Nat.zero_add]
/-- the bands of a pair: the class's number is the reference's -/
theorem pb_ok {P Q : Nat → Int32} {n i j w : Nat} {f ll : Int32} (h : VP P Q n) (hv : LV f ll) (hi : i < n) (hj : j < n) (hw : w = 1 ∨ w = 2) : pbI P Q w f ll i j = nI (4 * ctN (bd (aP P Q i j) f ll) (NL P Q w i j)) ∧ (okF P Q w f ll i j 3 (wd4 w)).1 = nI (4 * ctN (bd (aP P Q i j) f ll) (NL P Q w i j)) := by
  have a := aP_bd h hi hj
  constructor
  · unfold pbI
    rw [np_NL h hi hj hw, aP_lN h hi hj]
    exact bc_n hv (by omega) (fun N hN => by have := NL_le h hi hj hw N hN; omega)
  · rw [show (3 : Int32) = nI 3 from rfl, ok_n h hv hi hj hw (by omega)]
    show nI (ctN (bd (aP P Q i j) f ll) (ML P Q w i j)) = _
    rw [ctN_perm (ML_x4 P Q hw i j), ctN_x4]
theorem lk_ok {P Q : Nat → Int32} {n i j w : Nat} {f ll : Int32} (h : VP P Q n) (hv : LV f ll) (hi : i < n) (hj : j < n) (hw : w = 1 ∨ w = 2) : cwF (lsF (npAll (P i) (Q i) (P j) (Q j) w w)) 0 (npAll (P i) (Q i) (P j) (Q j) w w).length = (okF P Q w f ll i j 0 (wd4 w)).1 := by
  have a := aP_bd h hi hj
  rw [np_NL h hi hj hw, show (0 : Int32) = nI 0 from rfl, cw_n (by omega) (fun N hN => by have := NL_le h hi hj hw N hN; omega), ok_n h hv hi hj hw (by omega)]
  show _ = nI (ctN (fun N => kb (aP P Q i j) f ll N == 0) (ML P Q w i j))
  rw [ctN_perm (ML_x4 P Q hw i j), ctN_x4]
  have e : (fun N => kb (aP P Q i j) f ll N == 0) = (fun N => N == 0) := by
    funext N
    unfold kb kN
    by_cases h0 : N = 0
    · rw [if_pos h0, h0]
    · rw [if_neg h0]
      have e1 : (N == 0) = false := by rw [beq_eq_false_iff_ne]; exact h0
      rw [e1, beq_eq_false_iff_ne]
      by_cases h1 : N * (fX f * fX f) < aP P Q i j
      · rw [if_pos h1]
        by_cases h2 : aP P Q i j < N * (fX ll * fX ll)
        · rw [if_pos h2]; decide
        · rw [if_neg h2]; decide
      · rw [if_neg h1]; decide
  rw [e]
/-- the widest of a pair, and its period -/
theorem wd_ok {P Q : Nat → Int32} {n i j w : Nat} {f ll : Int32} (h : VP P Q n) (hv : LV f ll) (hi : i < n) (hj : j < n) (hw : w = 1 ∨ w = 2) : (okF P Q w f ll i j 3 (wd4 w)).2 = lN (if mnN (bd (aP P Q i j) f ll) 0 (NL P Q w i j) = 0 then 0 else aP P Q i j / mnN (bd (aP P Q i j) f ll) 0 (NL P Q w i j)) := by
  rw [show (3 : Int32) = nI 3 from rfl, ok_n h hv hi hj hw (by omega)]
  show lN (mxN (aP P Q i j) (bd (aP P Q i j) f ll) 0 (ML P Q w i j)) = _
  rw [mx_mn (bd_0 _ _ _) (ML_mem P Q hw i j)]

/-! pairs and triples by their number; all bands; the worst one -/
def gA (P Q : Nat → Int32) (gi : Nat) : Nat := if gi < 6 then aP P Q (giI gi) (giJ gi) else aT P Q (giI gi) (giJ gi) (giK gi)
def gL (P Q : Nat → Int32) (w gi : Nat) : List Nat := if gi < 6 then NL P Q w (giI gi) (giJ gi) else TL P Q (giI gi) (giJ gi) (giK gi)
def cnt (P Q : Nat → Int32) (w : Nat) (f ll : Int32) (gi : Nat) : Nat := 4 * ctN (bd (gA P Q gi) f ll) (gL P Q w gi)
def mnG (P Q : Nat → Int32) (w : Nat) (f ll : Int32) (gi : Nat) : Nat := mnN (bd (gA P Q gi) f ll) 0 (gL P Q w gi)
def wqG (P Q : Nat → Int32) (w : Nat) (f ll : Int32) (gi : Nat) : Nat := gA P Q gi / mnG P Q w f ll gi
theorem div_if (A m : Nat) : (if m = 0 then 0 else A / m) = A / m := by
  by_cases h : m = 0
  · rw [if_pos h, h, Nat.div_zero]
  · rw [if_neg h]
theorem gA_bd {P Q : Nat → Int32} {n gi : Nat} (h : VP P Q n) (hg : gi < 10) (ht : giT gi < n) : 1 ≤ gA P Q gi ∧ gA P Q gi ≤ 512000000 := by
  obtain ⟨g1, g2, g3, g4, g5⟩ := gi_lt gi hg
  unfold gA
  by_cases h6 : gi < 6
  · rw [if_pos h6]
    have := aP_bd h (show giI gi < n by omega) (show giJ gi < n by omega)
    omega
  · rw [if_neg h6]
    exact aT_bd h (show giI gi < n by omega) (show giJ gi < n by omega) (by have := g5 (by omega); omega)
theorem gL_len {P Q : Nat → Int32} {w : Nat} (hw : w = 1 ∨ w = 2) (gi : Nat) : (gL P Q w gi).length ≤ 144 := by
  unfold gL
  by_cases h6 : gi < 6
  · rw [if_pos h6]; exact (NL_len P Q hw _ _).2
  · rw [if_neg h6]
    unfold TL
    rw [List.length_map]; decide
theorem cnt_le {P Q : Nat → Int32} {w : Nat} (hw : w = 1 ∨ w = 2) (f ll : Int32) (gi : Nat) : cnt P Q w f ll gi ≤ 576 := by
  have h1 := ctN_le (bd (gA P Q gi) f ll) (gL P Q w gi)
  have h2 := gL_len (P := P) (Q := Q) hw gi
  unfold cnt
  omega
theorem bcP_n {P Q : Nat → Int32} {n w gi : Nat} {f ll : Int32} (h : VP P Q n) (hv : LV f ll) (hw : w = 1 ∨ w = 2) (hg : gi < 10) (ht : giT gi < n) : bcP P Q w f ll gi = nI (cnt P Q w f ll gi) := by
  obtain ⟨g1, g2, g3, g4, g5⟩ := gi_lt gi hg
  unfold bcP cnt gpL gpA gA gL
  by_cases h6 : gi < 6
  · simp only [if_pos h6]
    exact (pb_ok h hv (show giI gi < n by omega) (show giJ gi < n by omega) hw).1
  · simp only [if_neg h6]
    exact tb_ok h hv (show giI gi < n by omega) (show giJ gi < n by omega) (by have := g5 (by omega); omega)
theorem wpI_n {P Q : Nat → Int32} {n w gi : Nat} {f ll : Int32} (h : VP P Q n) (hv : LV f ll) (hw : w = 1 ∨ w = 2) (hn : n ≤ 4) (hg : gi < 10) (ht : giT gi < n) : wpI P Q w f ll n gi = nI (isq (wqG P Q w f ll gi)) := by
  obtain ⟨g1, g2, g3, g4, g5⟩ := gi_lt gi hg
  have ga := gA_bd h hg ht
  unfold wpI
  rw [if_pos ((gi_top gi hg n hn).mpr ht)]
  unfold wqG mnG gpL gpA
  by_cases h6 : gi < 6
  · have hi : giI gi < n := by omega
    have hj : giJ gi < n := by omega
    have a := aP_bd h hi hj
    unfold gA gL
    simp only [if_pos h6]
    rw [np_NL h hi hj hw, aP_lN h hi hj, wl_n hv (by omega) (fun N hN => by have := NL_le h hi hj hw N hN; omega)]
    obtain ⟨m1, m2, m3⟩ := mnN_spec (bd (aP P Q (giI gi) (giJ gi)) f ll) (bd_0 _ _ _) (NL P Q w (giI gi) (giJ gi)) 0
    refine prI_n (by omega) ?_
    by_cases e : mnN (bd (aP P Q (giI gi) (giJ gi)) f ll) 0 (NL P Q w (giI gi) (giJ gi)) = 0
    · omega
    · have := NL_le h hi hj hw _ ((m3 e).1.resolve_left e).1
      omega
  · have hi : giI gi < n := by omega
    have hj : giJ gi < n := by omega
    have hk : giK gi < n := by have := g5 (by omega); omega
    have a := aT_bd h hi hj hk
    unfold gA gL
    simp only [if_neg h6]
    rw [tn_TL h hi hj hk, aT_lN h hi hj hk, wl_n hv (by omega) (fun N hN => by have := TL_le h hi hj hk N hN; omega)]
    obtain ⟨m1, m2, m3⟩ := mnN_spec (bd (aT P Q (giI gi) (giJ gi) (giK gi)) f ll) (bd_0 _ _ _) (TL P Q (giI gi) (giJ gi) (giK gi)) 0
    refine prI_n (by omega) ?_
    by_cases e : mnN (bd (aT P Q (giI gi) (giJ gi) (giK gi)) f ll) 0 (TL P Q (giI gi) (giJ gi) (giK gi)) = 0
    · omega
    · have := TL_le h hi hj hk _ ((m3 e).1.resolve_left e).1
      omega
/-! the class's sum -/
def cS (P Q : Nat → Int32) (w : Nat) (f ll : Int32) (n : Nat) (m : Nat → Bool) : Nat → Nat
  | 0 => 0
  | gi + 1 => if giT gi < n ∧ m gi = true then cS P Q w f ll n m gi + cnt P Q w f ll gi else cS P Q w f ll n m gi
def wtB (wt : Int32) (gi : Nat) : Bool := decide (gN gi &&& wt = wt)
theorem bg_n {P Q : Nat → Int32} {n w : Nat} {f ll : Int32} (wt : Int32) (h : VP P Q n) (hv : LV f ll) (hw : w = 1 ∨ w = 2) (hn : n ≤ 4) : ∀ g, g ≤ 10 → bgF P Q w f ll n wt g = nI (cS P Q w f ll n (wtB wt) g)
  | 0, _ => rfl
  | g + 1, hg => by
    have ih := bg_n wt h hv hw hn g (by omega)
    have top := gi_top g (by omega) n hn
    show (if gN g < (1 : Int32) <<< (nI n &&& 31) then (if gN g &&& wt = wt then bgF P Q w f ll n wt g + bcP P Q w f ll g else bgF P Q w f ll n wt g) else bgF P Q w f ll n wt g) = nI (if giT g < n ∧ wtB wt g = true then cS P Q w f ll n (wtB wt) g + cnt P Q w f ll g else cS P Q w f ll n (wtB wt) g)
    by_cases h1 : giT g < n
    · rw [if_pos (top.mpr h1)]
      by_cases h2 : gN g &&& wt = wt
      · rw [if_pos h2, if_pos ⟨h1, decide_eq_true h2⟩, ih, bcP_n h hv hw (by omega) h1, nI_add]
      · rw [if_neg h2, if_neg (fun q => h2 (of_decide_eq_true q.2)), ih]
    · rw [if_neg (fun q => h1 (top.mp q)), if_neg (fun q => h1 q.1), ih]
theorem cS_le {P Q : Nat → Int32} {w : Nat} (hw : w = 1 ∨ w = 2) (f ll : Int32) (n : Nat) (m : Nat → Bool) : ∀ g, cS P Q w f ll n m g ≤ 576 * g
  | 0 => Nat.le_refl _
  | g + 1 => by
    have ih := cS_le (P := P) (Q := Q) hw f ll n m g
    have c := cnt_le (P := P) (Q := Q) hw f ll g
    show (if giT g < n ∧ m g = true then cS P Q w f ll n m g + cnt P Q w f ll g else cS P Q w f ll n m g) ≤ _
    by_cases e : giT g < n ∧ m g = true
    · rw [if_pos e]; omega
    · rw [if_neg e]; omega
theorem cS_split (P Q : Nat → Int32) (w : Nat) (f ll : Int32) (n : Nat) (m : Nat → Bool) : ∀ g, cS P Q w f ll n (fun _ => true) g = cS P Q w f ll n m g + cS P Q w f ll n (fun x => !m x) g
  | 0 => rfl
  | g + 1 => by
    have ih := cS_split P Q w f ll n m g
    show (if giT g < n ∧ true = true then _ else _) = (if giT g < n ∧ m g = true then _ else _) + (if giT g < n ∧ (!m g) = true then _ else _)
    by_cases h1 : giT g < n
    · rw [if_pos ⟨h1, rfl⟩]
      cases hm : m g
      · rw [if_neg (fun q => by cases q.2), if_pos ⟨h1, rfl⟩, ih]; omega
      · rw [if_pos ⟨h1, rfl⟩, if_neg (fun q => by cases q.2), ih]; omega
    · rw [if_neg (fun q => h1 q.1), if_neg (fun q => h1 q.1), if_neg (fun q => h1 q.1), ih]
theorem cS_all (P Q : Nat → Int32) (w : Nat) (f ll : Int32) (n : Nat) : ∀ g, cS P Q w f ll n (wtB 0) g = cS P Q w f ll n (fun _ => true) g
  | 0 => rfl
  | g + 1 => by
    have ih := cS_all P Q w f ll n g
    have e : wtB 0 g = true := decide_eq_true (by rw [Int32.and_zero])
    show (if giT g < n ∧ wtB 0 g = true then _ else _) = (if giT g < n ∧ true = true then _ else _)
    rw [e, ih]
/-! the reference's walk over the groups -/
noncomputable def mgS (P Q : Nat → Int32) (w : Nat) (f ll : Int32) (t : Int32 × Int32 × Int32) (gi : Nat) : Int32 × Int32 × Int32 := (t.1 + nI (cnt P Q w f ll gi), ntF (lN (wqG P Q w f ll gi)) (gN gi) t.2)
noncomputable def stP (P Q : Nat → Int32) (w : Nat) (f ll : Int32) (i j : Nat) (t : Int32 × Int32 × Int32) : Int32 × Int32 × Int32 := (t.1 + (okF P Q w f ll i j 3 (wd4 w)).1, ntF (okF P Q w f ll i j 3 (wd4 w)).2 ((1 : Int32) <<< (nI i &&& 31) ||| (1 : Int32) <<< (nI j &&& 31)) t.2)
noncomputable def stT (P Q : Nat → Int32) (f ll : Int32) (i j k : Nat) (t : Int32 × Int32 × Int32) : Int32 × Int32 × Int32 := (t.1 + (b3F P Q f ll i j k 64).1, ntF (b3F P Q f ll i j k 64).2 ((1 : Int32) <<< (nI i &&& 31) ||| (1 : Int32) <<< (nI j &&& 31) ||| (1 : Int32) <<< (nI k &&& 31)) t.2)
theorem gi_set2 : ∀ gi, gi < 6 → (1 : Int32) <<< (nI (giI gi) &&& 31) ||| (1 : Int32) <<< (nI (giJ gi) &&& 31) = gN gi := by decide
theorem gi_set3 : ∀ gi, gi < 10 → 6 ≤ gi → (1 : Int32) <<< (nI (giI gi) &&& 31) ||| (1 : Int32) <<< (nI (giJ gi) &&& 31) ||| (1 : Int32) <<< (nI (giK gi) &&& 31) = gN gi := by decide
theorem stP_g {P Q : Nat → Int32} {n w gi : Nat} {f ll : Int32} (h : VP P Q n) (hv : LV f ll) (hw : w = 1 ∨ w = 2) (h6 : gi < 6) (ht : giT gi < n) (t : Int32 × Int32 × Int32) : stP P Q w f ll (giI gi) (giJ gi) t = mgS P Q w f ll t gi := by
  obtain ⟨g1, g2, g3, g4, g5⟩ := gi_lt gi (by omega)
  have hi : giI gi < n := by omega
  have hj : giJ gi < n := by omega
  unfold stP mgS wqG mnG cnt gA gL
  rw [(pb_ok h hv hi hj hw).2, wd_ok h hv hi hj hw, gi_set2 gi h6, div_if]
  simp only [if_pos h6]
theorem stT_g {P Q : Nat → Int32} {n w gi : Nat} {f ll : Int32} (h : VP P Q n) (hv : LV f ll) (hg : gi < 10) (h6 : 6 ≤ gi) (ht : giT gi < n) (t : Int32 × Int32 × Int32) : stT P Q f ll (giI gi) (giJ gi) (giK gi) t = mgS P Q w f ll t gi := by
  obtain ⟨g1, g2, g3, g4, g5⟩ := gi_lt gi hg
  have hi : giI gi < n := by omega
  have hj : giJ gi < n := by omega
  have hk : giK gi < n := by have := g5 h6; omega
  have h7 : ¬ gi < 6 := by omega
  unfold stT mgS wqG mnG cnt gA gL
  rw [b3_ok h hv hi hj hk, gi_set3 gi hg h6, div_if]
  simp only [if_neg h7]
theorem foldl_flt {σ α : Type} (p : α → Bool) (g : σ → α → σ) : ∀ (L : List α) (t : σ), L.foldl (fun t x => if p x = true then g t x else t) t = (L.filter p).foldl g t
  | [], _ => rfl
  | x :: L, t => by
    rw [List.foldl_cons, List.filter_cons]
    by_cases e : p x = true
    · rw [if_pos e, if_pos e, List.foldl_cons, foldl_flt p g L]
    · rw [if_neg e, if_neg e, foldl_flt p g L]
theorem ft_fold (P Q : Nat → Int32) (w : Nat) (f ll : Int32) (n : Nat) : ∀ K, ftF P Q w f ll n K = (List.range K).foldl (fun t x => if decide (t64I x < t64J x ∧ t64J x < t64K x ∧ t64K x < n) = true then stT P Q f ll (t64I x) (t64J x) (t64K x) t else t) (foF P Q w f ll n n)
  | 0 => rfl
  | K + 1 => by
    rw [List.range_succ, List.foldl_append, ← ft_fold P Q w f ll n K]
    show (if t64I K < t64J K ∧ t64J K < t64K K ∧ t64K K < n then _ else _) = (if decide (t64I K < t64J K ∧ t64J K < t64K K ∧ t64K K < n) = true then _ else _)
    by_cases e : t64I K < t64J K ∧ t64J K < t64K K ∧ t64K K < n
    · rw [if_pos e, if_pos (decide_eq_true e)]; rfl
    · rw [if_neg e, if_neg (fun q => e (of_decide_eq_true q))]
def gs (n : Nat) : List Nat := (List.range 10).filter (fun gi => decide (giT gi < n))
theorem gs_of {n gi : Nat} (h : gi ∈ gs n) : gi < 10 ∧ giT gi < n := by
  unfold gs at h
  rw [List.mem_filter] at h
  exact ⟨List.mem_range.mp h.1, of_decide_eq_true h.2⟩
theorem fiF_0 (P Q : Nat → Int32) (w : Nat) (f ll : Int32) (i : Nat) (t : Int32 × Int32 × Int32) : fiF P Q w f ll i t 0 = t := rfl
theorem fiF_s (P Q : Nat → Int32) (w : Nat) (f ll : Int32) (i : Nat) (t : Int32 × Int32 × Int32) (d : Nat) : fiF P Q w f ll i t (d + 1) = stP P Q w f ll i (i + 1 + d) (fiF P Q w f ll i t d) := rfl
theorem foF_0 (P Q : Nat → Int32) (w : Nat) (f ll : Int32) (n : Nat) : foF P Q w f ll n 0 = (0, -4, -4) := rfl
theorem foF_s (P Q : Nat → Int32) (w : Nat) (f ll : Int32) (n i : Nat) : foF P Q w f ll n (i + 1) = fiF P Q w f ll i (foF P Q w f ll n i) (n - (i + 1)) := rfl
def trs (n : Nat) : List Nat := (List.range 64).filter (fun x => decide (t64I x < t64J x ∧ t64J x < t64K x ∧ t64K x < n))
theorem trs_n : trs 0 = [] ∧ trs 1 = [] ∧ trs 2 = [] ∧ trs 3 = [6] ∧ trs 4 = [6, 7, 11, 27] := by decide
theorem gs_n : gs 0 = [] ∧ gs 1 = [] ∧ gs 2 = [0] ∧ gs 3 = [0, 1, 3, 6] ∧ gs 4 = [0, 1, 2, 3, 4, 5, 6, 7, 8, 9] := by decide
theorem st_0 {P Q : Nat → Int32} {n w : Nat} {f ll : Int32} (h : VP P Q n) (hv : LV f ll) (hw : w = 1 ∨ w = 2) (gi i j : Nat) (t : Int32 × Int32 × Int32) (ei : giI gi = i) (ej : giJ gi = j) (h6 : gi < 6) (ht : giT gi < n) : stP P Q w f ll i j t = mgS P Q w f ll t gi := by
  subst ei; subst ej; exact stP_g h hv hw h6 ht t
theorem st_3 {P Q : Nat → Int32} {n w : Nat} {f ll : Int32} (h : VP P Q n) (hv : LV f ll) (gi x : Nat) (t : Int32 × Int32 × Int32) (ei : giI gi = t64I x) (ej : giJ gi = t64J x) (ek : giK gi = t64K x) (hg : gi < 10) (h6 : 6 ≤ gi) (ht : giT gi < n) : stT P Q f ll (t64I x) (t64J x) (t64K x) t = mgS P Q w f ll t gi := by
  rw [← ei, ← ej, ← ek]; exact stT_g h hv hg h6 ht t
theorem fo_n {P Q : Nat → Int32} {n w : Nat} {f ll : Int32} (h : VP P Q n) (hv : LV f ll) (hw : w = 1 ∨ w = 2) (hn : n ≤ 4) : foF P Q w f ll n n = ((gs n).filter (fun gi => decide (gi < 6))).foldl (mgS P Q w f ll) (0, -4, -4) := by
  rcases (show n = 0 ∨ n = 1 ∨ n = 2 ∨ n = 3 ∨ n = 4 by omega) with rfl | rfl | rfl | rfl | rfl
  · rw [show (gs 0).filter (fun gi => decide (gi < 6)) = [] by decide, foF_0, List.foldl_nil]
  · rw [show (gs 1).filter (fun gi => decide (gi < 6)) = [] by decide, foF_s, foF_0, fiF_0, List.foldl_nil]
  · rw [show (gs 2).filter (fun gi => decide (gi < 6)) = [0] by decide, foF_s, foF_s, foF_0, fiF_0, fiF_s, fiF_0, List.foldl_cons, List.foldl_nil,
      st_0 h hv hw 0 0 (0 + 1 + 0) _ rfl rfl (by decide) (by decide)]
  · rw [show (gs 3).filter (fun gi => decide (gi < 6)) = [0, 1, 3] by decide, foF_s, foF_s, foF_s, foF_0, fiF_0, fiF_s, fiF_s, fiF_0, fiF_s, fiF_0]
    simp only [List.foldl_cons, List.foldl_nil]
    rw [st_0 h hv hw 0 0 (0 + 1 + 0) _ rfl rfl (by decide) (by decide), st_0 h hv hw 1 0 (0 + 1 + 1) _ rfl rfl (by decide) (by decide), st_0 h hv hw 3 (0 + 1) (0 + 1 + 1 + 0) _ rfl rfl (by decide) (by decide)]
  · rw [show (gs 4).filter (fun gi => decide (gi < 6)) = [0, 1, 2, 3, 4, 5] by decide, foF_s, foF_s, foF_s, foF_s, foF_0, fiF_0, fiF_s, fiF_s, fiF_s, fiF_0, fiF_s, fiF_s, fiF_0, fiF_s, fiF_0]
    simp only [List.foldl_cons, List.foldl_nil]
    rw [st_0 h hv hw 0 0 (0 + 1 + 0) _ rfl rfl (by decide) (by decide), st_0 h hv hw 1 0 (0 + 1 + 1) _ rfl rfl (by decide) (by decide), st_0 h hv hw 2 0 (0 + 1 + 2) _ rfl rfl (by decide) (by decide), st_0 h hv hw 3 (0 + 1) (0 + 1 + 1 + 0) _ rfl rfl (by decide) (by decide), st_0 h hv hw 4 (0 + 1) (0 + 1 + 1 + 1) _ rfl rfl (by decide) (by decide), st_0 h hv hw 5 (0 + 1 + 1) (0 + 1 + 1 + 1 + 0) _ rfl rfl (by decide) (by decide)]
theorem fa_n {P Q : Nat → Int32} {n w : Nat} {f ll : Int32} (h : VP P Q n) (hv : LV f ll) (hw : w = 1 ∨ w = 2) (hn : n ≤ 4) : faL P Q w f ll n = (gs n).foldl (mgS P Q w f ll) (0, -4, -4) := by
  rw [faL_eq, ft_fold, foldl_flt, fo_n h hv hw hn]
  have e : (gs n) = (gs n).filter (fun gi => decide (gi < 6)) ++ (gs n).filter (fun gi => decide (6 ≤ gi)) := by
    rcases (show n = 0 ∨ n = 1 ∨ n = 2 ∨ n = 3 ∨ n = 4 by omega) with rfl | rfl | rfl | rfl | rfl <;> decide
  conv => rhs; rw [e, List.foldl_append]
  generalize ((gs n).filter (fun gi => decide (gi < 6))).foldl (mgS P Q w f ll) (0, -4, -4) = t0
  change (trs n).foldl _ _ = _
  rcases (show n = 0 ∨ n = 1 ∨ n = 2 ∨ n = 3 ∨ n = 4 by omega) with rfl | rfl | rfl | rfl | rfl
  · rw [trs_n.1, show (gs 0).filter (fun gi => decide (6 ≤ gi)) = [] by decide, List.foldl_nil, List.foldl_nil]
  · rw [trs_n.2.1, show (gs 1).filter (fun gi => decide (6 ≤ gi)) = [] by decide, List.foldl_nil, List.foldl_nil]
  · rw [trs_n.2.2.1, show (gs 2).filter (fun gi => decide (6 ≤ gi)) = [] by decide, List.foldl_nil, List.foldl_nil]
  · rw [trs_n.2.2.2.1, show (gs 3).filter (fun gi => decide (6 ≤ gi)) = [6] by decide]
    simp only [List.foldl_cons, List.foldl_nil]
    rw [st_3 (w := w) h hv 6 6 _ rfl rfl rfl (by decide) (by decide) (by decide)]
  · rw [trs_n.2.2.2.2, show (gs 4).filter (fun gi => decide (6 ≤ gi)) = [6, 7, 8, 9] by decide]
    simp only [List.foldl_cons, List.foldl_nil]
    rw [st_3 (w := w) h hv 6 6 _ rfl rfl rfl (by decide) (by decide) (by decide), st_3 (w := w) h hv 7 7 _ rfl rfl rfl (by decide) (by decide) (by decide), st_3 (w := w) h hv 8 11 _ rfl rfl rfl (by decide) (by decide) (by decide), st_3 (w := w) h hv 9 27 _ rfl rfl rfl (by decide) (by decide) (by decide)]
/-! all bands -/
theorem cS_fold (P Q : Nat → Int32) (w : Nat) (f ll : Int32) (n : Nat) : ∀ g, nI (cS P Q w f ll n (fun _ => true) g) = (((List.range g).filter (fun gi => decide (giT gi < n))).foldl (mgS P Q w f ll) (0, -4, -4)).1
  | 0 => rfl
  | g + 1 => by
    have ih := cS_fold P Q w f ll n g
    rw [List.range_succ, List.filter_append, List.foldl_append]
    show nI (if giT g < n ∧ true = true then cS P Q w f ll n (fun _ => true) g + cnt P Q w f ll g else cS P Q w f ll n (fun _ => true) g) = _
    by_cases e : giT g < n
    · rw [if_pos ⟨e, rfl⟩, List.filter_cons, if_pos (decide_eq_true e), ← nI_add, ih]; rfl
    · rw [if_neg (fun q => e q.1), List.filter_cons, if_neg (fun q => e (of_decide_eq_true q)), ih]; rfl
theorem all_ok {P Q : Nat → Int32} {n w : Nat} {f ll : Int32} (h : VP P Q n) (hv : LV f ll) (hw : w = 1 ∨ w = 2) (hn : n ≤ 4) : bgF P Q w f ll n 0 10 = nI (cS P Q w f ll n (fun _ => true) 10) ∧ (faL P Q w f ll n).1 = nI (cS P Q w f ll n (fun _ => true) 10) := by
  constructor
  · rw [bg_n 0 h hv hw hn 10 (Nat.le_refl _), cS_all]
  · rw [fa_n h hv hw hn, cS_fold]; rfl
/-! the worst one -/
theorem isq_pos {q : Nat} (h : 0 < q) : 1 ≤ isq q := by
  have h2 := (isq_spec q).2
  rcases Nat.eq_zero_or_pos (isq q) with e | e
  · rw [e] at h2; omega
  · exact e
theorem isq_0 : isq 0 = 0 := isq_of (Nat.le_refl _) (by decide)
def wInv (s : Int32 × Int32) (t : Int32 × Int32) : Prop := (s = (-4, 0) ∧ t = (-4, -4)) ∨ ∃ x : Nat, 1 ≤ x ∧ x ≤ 600000000 ∧ s.2 = nI x ∧ t = (nI x, s.1) ∧ ¬ s.1 = -4
theorem n4_lt (x : Nat) (h : x ≤ 1000000000) : -4 ≤ nI x ∧ ¬ nI x ≤ -4 := by
  have e : (-4 : Int32).toInt = -4 := rfl
  rw [Int32.le_iff_toInt_le, Int32.le_iff_toInt_le, nI_toInt (by omega), e]
  omega
theorem w_step {P Q : Nat → Int32} {n w gi : Nat} {f ll : Int32} (h : VP P Q n) (hv : LV f ll) (hw : w = 1 ∨ w = 2) (hn : n ≤ 4) (hg : gi < 10) (ht : giT gi < n) {s t : Int32 × Int32} (hI : wInv s t) :
    wInv (if wpI P Q w f ll n gi ≤ s.2 then s else (gN gi, wpI P Q w f ll n gi)) (ntF (lN (wqG P Q w f ll gi)) (gN gi) t) := by
  have ga := gA_bd h hg ht
  have hq : wqG P Q w f ll gi ≤ gA P Q gi := Nat.div_le_self _ _
  rw [wpI_n h hv hw hn hg ht]
  generalize wqG P Q w f ll gi = q at hq ⊢
  have hy := isq_lt (q := q) (by omega)
  have ep : pdI (lN q) = if q = 0 then -4 else nI (isq q) := by
    unfold pdI
    rw [lN_tN (by omega)]
    by_cases e : q = 0
    · rw [if_pos e, if_pos (by rw [e]; rfl)]
    · rw [if_neg e, if_neg (lN_ne (by omega) (Nat.pos_of_ne_zero e))]
  unfold ntF
  rw [ep]
  by_cases e : q = 0
  · rw [if_pos e, e, isq_0]
    rcases hI with ⟨h1, h2⟩ | ⟨x, h1, h2, h3, h4, h5⟩
    · rw [if_pos (show nI 0 ≤ s.2 by rw [h1]; decide), if_pos (show (-4 : Int32) ≤ t.1 by rw [h2]; decide)]
      exact Or.inl ⟨h1, h2⟩
    · rw [if_pos (show nI 0 ≤ s.2 by rw [h3]; exact (nI_leI (by omega) (by omega)).mpr (by omega)), if_pos (show (-4 : Int32) ≤ t.1 by rw [h4]; exact (n4_lt x (by omega)).1)]
      exact Or.inr ⟨x, h1, h2, h3, h4, h5⟩
  · have hp := isq_pos (Nat.pos_of_ne_zero e)
    rw [if_neg e]
    rcases hI with ⟨h1, h2⟩ | ⟨x, h1, h2, h3, h4, h5⟩
    · rw [if_neg (show ¬ nI (isq q) ≤ s.2 by rw [h1]; exact fun z => absurd ((nI_leI (a := isq q) (b := 0) (by omega) (by omega)).mp z) (by omega)), if_neg (show ¬ nI (isq q) ≤ t.1 by rw [h2]; exact (n4_lt _ (by omega)).2)]
      exact Or.inr ⟨isq q, hp, hy, rfl, rfl, gN_ne gi hg⟩
    · rw [h3, h4]
      by_cases c : isq q ≤ x
      · rw [if_pos ((nI_leI (by omega) (by omega)).mpr c), if_pos (show nI (isq q) ≤ (nI x, s.1).1 from (nI_leI (by omega) (by omega)).mpr c)]
        exact Or.inr ⟨x, h1, h2, h3, rfl, h5⟩
      · rw [if_neg (fun z => c ((nI_leI (by omega) (by omega)).mp z)), if_neg (show ¬ nI (isq q) ≤ (nI x, s.1).1 from fun z => c ((nI_leI (by omega) (by omega)).mp z))]
        exact Or.inr ⟨isq q, hp, hy, rfl, rfl, gN_ne gi hg⟩
theorem w_nn {s t : Int32 × Int32} (h : wInv s t) : (0 : Int32) ≤ s.2 := by
  rcases h with ⟨h1, _⟩ | ⟨x, _, h2, h3, _, _⟩
  · rw [h1]; decide
  · rw [h3]; exact nI_pos' (by omega)
theorem w_fold {P Q : Nat → Int32} {n w : Nat} {f ll : Int32} (h : VP P Q n) (hv : LV f ll) (hw : w = 1 ∨ w = 2) (hn : n ≤ 4) : ∀ g, g ≤ 10 → wInv (wsF P Q w f ll n g) (((List.range g).filter (fun gi => decide (giT gi < n))).foldl (mgS P Q w f ll) (0, -4, -4)).2
  | 0, _ => Or.inl ⟨rfl, rfl⟩
  | g + 1, hg => by
    have ih := w_fold h hv hw hn g (by omega)
    rw [List.range_succ, List.filter_append, List.foldl_append]
    show wInv (if wpI P Q w f ll n g ≤ (wsF P Q w f ll n g).2 then wsF P Q w f ll n g else (gN g, wpI P Q w f ll n g)) _
    by_cases e : giT g < n
    · rw [List.filter_cons, if_pos (decide_eq_true e)]
      exact w_step h hv hw hn (by omega) e ih
    · rw [List.filter_cons, if_neg (fun q => e (of_decide_eq_true q))]
      have e0 : wpI P Q w f ll n g = 0 := if_neg (fun q => e ((gi_top g (by omega) n hn).mp q))
      rw [e0, if_pos (w_nn ih)]
      exact ih
theorem worst_ok {P Q : Nat → Int32} {n w : Nat} {f ll : Int32} (h : VP P Q n) (hv : LV f ll) (hw : w = 1 ∨ w = 2) (hn : n ≤ 4) : (wsF P Q w f ll n 10).1 = (faL P Q w f ll n).2.2 ∧ (if (wsF P Q w f ll n 10).1 = -4 then -4 else (wsF P Q w f ll n 10).2) = (faL P Q w f ll n).2.1 := by
  have hI := w_fold h hv hw hn 10 (Nat.le_refl _)
  rw [fa_n h hv hw hn]
  change wInv (wsF P Q w f ll n 10) ((gs n).foldl (mgS P Q w f ll) (0, -4, -4)).2 at hI
  generalize wsF P Q w f ll n 10 = s at hI ⊢
  generalize ((gs n).foldl (mgS P Q w f ll) (0, -4, -4)).2 = t at hI ⊢
  rcases hI with ⟨h1, h2⟩ | ⟨x, h1, h2, h3, h4, h5⟩
  · rw [h1, h2]; exact ⟨rfl, rfl⟩
  · rw [h4, if_neg h5, h3]; exact ⟨rfl, rfl⟩
theorem sm_ok {P Q : Nat → Int32} {n w : Nat} {f ll : Int32} (h : VP P Q n) (hv : LV f ll) (hw : w = 1 ∨ w = 2) : smW P Q w f ll n := by
  refine ⟨fun i j hij hj => ?_, fun i j k hij hjk hk => ?_⟩
  · have a := aP_bd h (show i < n by omega) hj
    refine ⟨_, ?_, wd_ok h hv (show i < n by omega) hj hw⟩
    rw [div_if]
    have := Nat.div_le_self (aP P Q i j) (mnN (bd (aP P Q i j) f ll) 0 (NL P Q w i j))
    omega
  · have a := aT_bd h (show i < n by omega) (show j < n by omega) hk
    refine ⟨aT P Q i j k / mnN (bd (aT P Q i j k) f ll) 0 (TL P Q i j k), ?_, by rw [b3_ok h hv (show i < n by omega) (show j < n by omega) hk, div_if]⟩
    have := Nat.div_le_self (aT P Q i j k) (mnN (bd (aT P Q i j k) f ll) 0 (TL P Q i j k))
    omega
/-! the pair with the most -/
def qInv (s t : Int32 × Int32) : Prop := (s = (-4, -1) ∧ t = (-4, -4)) ∨ s = t
theorem q_in {P Q : Nat → Int32} {n w i : Nat} {f ll : Int32} (h : VP P Q n) (hv : LV f ll) (hw : w = 1 ∨ w = 2) (hi : i < n) {s t : Int32 × Int32} (h0 : qInv s t) : ∀ d, d ≤ n - (i + 1) → qInv (wqI P Q w f ll i s d) (mqI P Q w f ll i t d)
  | 0, _ => h0
  | d + 1, hd => by
    have ih := q_in h hv hw hi h0 d (by omega)
    have e := pb_ok h hv hi (show i + 1 + d < n by omega) hw
    have c := ctN_le (bd (aP P Q i (i + 1 + d)) f ll) (NL P Q w i (i + 1 + d))
    have c2 := (NL_len P Q hw i (i + 1 + d)).2
    show qInv (if pbI P Q w f ll i (i + 1 + d) ≤ (wqI P Q w f ll i s d).2 then wqI P Q w f ll i s d else (10 * nI i + nI (i + 1 + d), pbI P Q w f ll i (i + 1 + d))) (if (okF P Q w f ll i (i + 1 + d) 3 (wd4 w)).1 ≤ (mqI P Q w f ll i t d).2 then mqI P Q w f ll i t d else (10 * nI i + nI (i + 1 + d), (okF P Q w f ll i (i + 1 + d) 3 (wd4 w)).1))
    rw [e.1, e.2]
    have hb : 4 * ctN (bd (aP P Q i (i + 1 + d)) f ll) (NL P Q w i (i + 1 + d)) ≤ 1000000000 := by omega
    generalize 4 * ctN (bd (aP P Q i (i + 1 + d)) f ll) (NL P Q w i (i + 1 + d)) = v at *
    have hv3 : v ≤ 1000000000 → ¬ nI v ≤ -1 ∧ ¬ nI v ≤ -4 := by
      intro hv2
      have e1 : (-1 : Int32).toInt = -1 := rfl
      have e4 : (-4 : Int32).toInt = -4 := rfl
      rw [Int32.le_iff_toInt_le, Int32.le_iff_toInt_le, nI_toInt (by omega), e1, e4]
      omega
    rcases ih with ⟨h1, h2⟩ | h1
    · rw [h1, h2, if_neg (hv3 hb).1, if_neg (hv3 hb).2]
      exact Or.inr rfl
    · rw [h1]
      exact Or.inr rfl
theorem q_out {P Q : Nat → Int32} {n w : Nat} {f ll : Int32} (h : VP P Q n) (hv : LV f ll) (hw : w = 1 ∨ w = 2) : ∀ i, i ≤ n → qInv (wqO P Q w f ll n i) (mqO P Q w f ll n i)
  | 0, _ => Or.inl ⟨rfl, rfl⟩
  | i + 1, hi => q_in h hv hw (by omega) (q_out h hv hw i (by omega)) (n - (i + 1)) (Nat.le_refl _)
theorem wpair_ok {P Q : Nat → Int32} {n w : Nat} {f ll : Int32} (h : VP P Q n) (hv : LV f ll) (hw : w = 1 ∨ w = 2) : (wqO P Q w f ll n n).1 = (mqO P Q w f ll n n).1 := by
  rcases q_out h hv hw n (Nat.le_refl _) with ⟨h1, h2⟩ | h1
  · rw [h1, h2]
  · rw [h1]

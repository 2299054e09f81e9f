/-! the lists of norms that the fills lay, and how long they are -/
theorem cI_lt {k w : Nat} (hw : w ≤ 2) (hk : k ≤ 100) : nI w < iI ((k : Int) - (w : Int)) ↔ 2 * w < k := by
  rw [← iI_nI, iI_lt (by omega) (by omega) (by omega) (by omega)]
  omega
theorem cI_1 (k w : Nat) : iI ((k : Int) - (w : Int)) + 1 = iI (((k + 1 : Nat) : Int) - (w : Int)) := by
  rw [iI_1, show (k : Int) - (w : Int) + 1 = ((k + 1 : Nat) : Int) - (w : Int) by omega]
theorem iI_0 {z : Int} (h1 : -1000 ≤ z) (h2 : z ≤ 1000) : iI z = 0 ↔ z = 0 := by
  constructor
  · intro h
    have h3 := congrArg Int32.toInt h
    rw [i_z z (by omega) (by omega)] at h3
    exact h3
  · intro h
    rw [h]
    rfl
theorem cI_0 {k w : Nat} (hw : w ≤ 2) (hk : k ≤ 100) : iI ((k : Int) - (w : Int)) = 0 ↔ k = w := by
  rw [iI_0 (by omega) (by omega)]
  omega
theorem neg_nI (w : Nat) : -(nI w) = iI (((0 : Nat) : Int) - (w : Int)) := by
  rw [show (((0 : Nat) : Int) - (w : Int)) = -(w : Int) by omega, ← iI_nI]
  exact (Int32.ofInt_neg (w : Int)).symm
theorem lnI_len (pi qi fx fy : Int32) (w : Nat) (x y : Int) : (lnI pi qi fx fy w x y).length = if x = 0 ∧ y = 0 then 0 else 1 := by
  unfold lnI
  by_cases h : x = 0 ∧ y = 0
  · rw [if_pos h, if_pos h]; rfl
  · rw [if_neg h, if_neg h]; rfl
theorem lnRow_len (pi qi fx fy : Int32) (w : Nat) (x : Int) : ∀ m : Nat, (lnRow pi qi fx fy w x m).length = m - (if x = 0 ∧ w < m then 1 else 0)
  | 0 => by
    rw [if_neg (by omega)]; rfl
  | m + 1 => by
    show (lnRow pi qi fx fy w x m ++ lnI pi qi fx fy w x ((m : Int) - w)).length = _
    rw [List.length_append, lnRow_len pi qi fx fy w x m, lnI_len]
    by_cases hx : x = 0
    · by_cases h1 : w < m
      · rw [if_pos ⟨hx, h1⟩, if_neg (by omega), if_pos ⟨hx, by omega⟩]; omega
      · by_cases h2 : w = m
        · rw [if_neg (by omega), if_pos ⟨hx, by omega⟩, if_pos ⟨hx, by omega⟩]; omega
        · rw [if_neg (by omega), if_neg (by omega), if_neg (by omega)]; omega
    · rw [if_neg (fun h => hx h.1), if_neg (fun h => hx h.1), if_neg (fun h => hx h.1)]; omega
theorem lnAll_len (pi qi fx fy : Int32) (w : Nat) : ∀ k : Nat, (lnAll pi qi fx fy w k).length = k * (2 * w + 1) - (if w < k then 1 else 0)
  | 0 => by
    rw [if_neg (by omega)]; show 0 = _; omega
  | k + 1 => by
    show (lnAll pi qi fx fy w k ++ lnRow pi qi fx fy w ((k : Int) - w) (2 * w + 1)).length = _
    rw [List.length_append, lnAll_len pi qi fx fy w k, lnRow_len, Nat.add_mul, Nat.one_mul]
    have hk1 : w < k → 2 * w + 1 ≤ k * (2 * w + 1) := fun h => Nat.le_mul_of_pos_left _ (by omega)
    by_cases h1 : w < k
    · have h3 := hk1 h1
      rw [if_pos h1, if_neg (by omega), if_pos (by omega)]; omega
    · by_cases h2 : w = k
      · rw [if_neg h1, if_pos ⟨by omega, by omega⟩, if_pos (by omega)]; omega
      · rw [if_neg h1, if_neg (by omega), if_neg (by omega)]; omega
theorem ln_room (pi qi fx fy : Int32) {w k m z : Nat} (hw : w = 1 ∨ w = 2) (hk : k < 2 * w + 1) (hm : m < 2 * w + 1) (hne : ¬ (k = w ∧ m = w)) (hz : z + (2 * w + 1) * (2 * w + 1) ≤ 145) : z + (lnAll pi qi fx fy w k ++ lnRow pi qi fx fy w ((k : Int) - (w : Int)) m).length < 144 := by
  rw [List.length_append, lnAll_len, lnRow_len]
  rcases hw with rfl | rfl
  · by_cases h1 : 1 < k
    · rw [if_pos h1, if_neg (by omega)]; omega
    · by_cases h2 : k = 1
      · by_cases h3 : 1 < m
        · rw [if_neg h1, if_pos ⟨by omega, h3⟩]; omega
        · rw [if_neg h1, if_neg (by omega)]; omega
      · rw [if_neg h1, if_neg (by omega)]; omega
  · by_cases h1 : 2 < k
    · rw [if_pos h1, if_neg (by omega)]; omega
    · by_cases h2 : k = 2
      · by_cases h3 : 2 < m
        · rw [if_neg h1, if_pos ⟨by omega, h3⟩]; omega
        · rw [if_neg h1, if_neg (by omega)]; omega
      · rw [if_neg h1, if_neg (by omega)]; omega
theorem ln_step1 (pi qi fx fy : Int32) (w : Nat) (x : Int) (m : Nat) (L : List Int32) (h : ¬ (x = 0 ∧ (m : Int) - (w : Int) = 0)) : L ++ lnRow pi qi fx fy w x (m + 1) = (L ++ lnRow pi qi fx fy w x m) ++ [(fx - reI pi qi (iI x) (iI ((m : Int) - (w : Int)))) * (fx - reI pi qi (iI x) (iI ((m : Int) - (w : Int)))) + (fy - imI pi qi (iI x) (iI ((m : Int) - (w : Int)))) * (fy - imI pi qi (iI x) (iI ((m : Int) - (w : Int))))] := by
  show L ++ (lnRow pi qi fx fy w x m ++ lnI pi qi fx fy w x ((m : Int) - w)) = _
  rw [lnI, if_neg h, List.append_assoc]
theorem ln_step0 (pi qi fx fy : Int32) (w : Nat) (x : Int) (m : Nat) (L : List Int32) (h : x = 0 ∧ (m : Int) - (w : Int) = 0) : L ++ lnRow pi qi fx fy w x (m + 1) = L ++ lnRow pi qi fx fy w x m := by
  show L ++ (lnRow pi qi fx fy w x m ++ lnI pi qi fx fy w x ((m : Int) - w)) = _
  rw [lnI, if_pos h, List.append_nil]
theorem app_len (z : Nat) (L : List Int32) (v : Int32) : z + (L ++ [v]).length = z + L.length + 1 := by
  rw [List.length_append]; rfl
theorem appF_app0 (L M : List Int32) (F : Nat → Int32) : appF F 0 (L ++ M) = appF (appF F 0 L) L.length M := by rw [appF_app, Nat.zero_add]
/-- the norms of a pair: a from 1 on, b from 0 on -/
def npRow (pi qi pj qj : Int32) (w a : Nat) : Nat → List Int32
  | 0 => []
  | b + 1 => npRow pi qi pj qj w a b ++ lnAll pi qi (reI pj qj (nI a) (nI b)) (imI pj qj (nI a) (nI b)) w (2 * w + 1)
def npAll (pi qi pj qj : Int32) (w : Nat) : Nat → List Int32
  | 0 => []
  | a + 1 => npAll pi qi pj qj w a ++ npRow pi qi pj qj w (a + 1) (w + 1)
theorem npRow_len (pi qi pj qj : Int32) (w a : Nat) : ∀ b : Nat, (npRow pi qi pj qj w a b).length = b * ((2 * w + 1) * (2 * w + 1) - 1)
  | 0 => by rw [Nat.zero_mul]; rfl
  | b + 1 => by
    show (npRow pi qi pj qj w a b ++ lnAll pi qi _ _ w (2 * w + 1)).length = _
    rw [List.length_append, npRow_len pi qi pj qj w a b, lnAll_len, if_pos (by omega)]
    exact (Nat.succ_mul b ((2 * w + 1) * (2 * w + 1) - 1)).symm
theorem npAll_len (pi qi pj qj : Int32) (w : Nat) : ∀ a : Nat, (npAll pi qi pj qj w a).length = a * ((w + 1) * ((2 * w + 1) * (2 * w + 1) - 1))
  | 0 => by rw [Nat.zero_mul]; rfl
  | a + 1 => by
    show (npAll pi qi pj qj w a ++ npRow pi qi pj qj w (a + 1) (w + 1)).length = _
    rw [List.length_append, npAll_len pi qi pj qj w a, npRow_len]
    exact (Nat.succ_mul a ((w + 1) * ((2 * w + 1) * (2 * w + 1) - 1))).symm
theorem np_room (pi qi pj qj : Int32) {w a b : Nat} (hw : w = 1 ∨ w = 2) (ha : a < w) (hb : b < w + 1) : (npAll pi qi pj qj w a ++ npRow pi qi pj qj w (a + 1) b).length + (2 * w + 1) * (2 * w + 1) ≤ 145 := by
  rw [List.length_append, npAll_len, npRow_len]
  rcases hw with rfl | rfl
  · have : a = 0 := by omega
    subst this; omega
  · omega
/-- the pair (x, y), turned u times -/
def rot (x y : Int32) : Nat → Int32 × Int32
  | 0 => (x, y)
  | u + 1 => (-(rot x y u).2, (rot x y u).1)
def tnV (x1 y1 x2 y2 x3 y3 : Int32) (sa u : Nat) : Int32 := (x1 + (rot x2 y2 sa).1 + (rot x3 y3 u).1) * (x1 + (rot x2 y2 sa).1 + (rot x3 y3 u).1) + (y1 + (rot x2 y2 sa).2 + (rot x3 y3 u).2) * (y1 + (rot x2 y2 sa).2 + (rot x3 y3 u).2)
def tnRow (x1 y1 x2 y2 x3 y3 : Int32) (sa : Nat) : Nat → List Int32
  | 0 => []
  | t + 1 => tnRow x1 y1 x2 y2 x3 y3 sa t ++ [tnV x1 y1 x2 y2 x3 y3 sa (4 * sa + t)]
def tnAll (x1 y1 x2 y2 x3 y3 : Int32) : Nat → List Int32
  | 0 => []
  | sa + 1 => tnAll x1 y1 x2 y2 x3 y3 sa ++ tnRow x1 y1 x2 y2 x3 y3 sa 4
theorem tnRow_len (x1 y1 x2 y2 x3 y3 : Int32) (sa : Nat) : ∀ t : Nat, (tnRow x1 y1 x2 y2 x3 y3 sa t).length = t
  | 0 => rfl
  | t + 1 => by
    show (tnRow x1 y1 x2 y2 x3 y3 sa t ++ [tnV x1 y1 x2 y2 x3 y3 sa (4 * sa + t)]).length = _
    rw [List.length_append, tnRow_len x1 y1 x2 y2 x3 y3 sa t]; rfl
theorem tnAll_len (x1 y1 x2 y2 x3 y3 : Int32) : ∀ sa : Nat, (tnAll x1 y1 x2 y2 x3 y3 sa).length = 4 * sa
  | 0 => rfl
  | sa + 1 => by
    show (tnAll x1 y1 x2 y2 x3 y3 sa ++ tnRow x1 y1 x2 y2 x3 y3 sa 4).length = _
    rw [List.length_append, tnAll_len x1 y1 x2 y2 x3 y3 sa, tnRow_len]; omega
theorem tn_step (x1 y1 x2 y2 x3 y3 : Int32) (F : Nat → Int32) (sa t : Nat) : appF F 0 (tnAll x1 y1 x2 y2 x3 y3 sa ++ tnRow x1 y1 x2 y2 x3 y3 sa (t + 1)) = upd (appF F 0 (tnAll x1 y1 x2 y2 x3 y3 sa ++ tnRow x1 y1 x2 y2 x3 y3 sa t)) (4 * sa + t) (tnV x1 y1 x2 y2 x3 y3 sa (4 * sa + t)) := by
  show appF F 0 (tnAll x1 y1 x2 y2 x3 y3 sa ++ (tnRow x1 y1 x2 y2 x3 y3 sa t ++ [tnV x1 y1 x2 y2 x3 y3 sa (4 * sa + t)])) = _
  rw [← List.append_assoc, appF_snoc, Nat.zero_add, List.length_append, tnAll_len, tnRow_len]
def fpF (x : Int32) : Nat → Nat → Nat
  | 0, _ => 4
  | u + 1, k => if (x >>> (nI k &&& 31)) &&& 1 = 1 then k else fpF x u (k + 1)

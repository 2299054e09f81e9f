/-! the combinations of a pair: all of them, a quarter of them -/
def pt1 (x y : Int) : List (Int × Int) := [(x, y)]
def pts (w : Nat) : List (Int × Int) := sqAll pt1 w (2 * w + 1)
theorem sqI_pt {α : Type} (h : Int → Int → List α) (x y : Int) : sqI h x y = (sqI pt1 x y).flatMap (fun p => h p.1 p.2) := by
  unfold sqI
  by_cases e : x = 0 ∧ y = 0
  · rw [if_pos e, if_pos e]; rfl
  · rw [if_neg e, if_neg e]
    exact (List.flatMap_singleton (fun p : Int × Int => h p.1 p.2) (x, y)).symm
theorem sqRow_pt {α : Type} (h : Int → Int → List α) (w : Nat) (x : Int) : ∀ m, sqRow h w x m = (sqRow pt1 w x m).flatMap (fun p => h p.1 p.2)
  | 0 => rfl
  | m + 1 => by
    show sqRow h w x m ++ sqI h x ((m : Int) - (w : Int)) = (sqRow pt1 w x m ++ sqI pt1 x ((m : Int) - (w : Int))).flatMap _
    rw [List.flatMap_append, ← sqRow_pt h w x m, ← sqI_pt]
theorem sqAll_pt {α : Type} (h : Int → Int → List α) (w : Nat) : ∀ k, sqAll h w k = (sqAll pt1 w k).flatMap (fun p => h p.1 p.2)
  | 0 => rfl
  | k + 1 => by
    show sqAll h w k ++ sqRow h w ((k : Int) - (w : Int)) (2 * w + 1) = (sqAll pt1 w k ++ sqRow pt1 w ((k : Int) - (w : Int)) (2 * w + 1)).flatMap _
    rw [List.flatMap_append, ← sqAll_pt h w k, ← sqRow_pt]
theorem flatMap_one {α β : Type} (f : α → β) : ∀ L : List α, L.flatMap (fun x => [f x]) = L.map f
  | [] => rfl
  | x :: L => by
    rw [List.flatMap_cons, flatMap_one f L]; rfl
theorem flatMap_cg {α β : Type} {f g : α → List β} : ∀ {L : List α}, (∀ x, x ∈ L → f x = g x) → L.flatMap f = L.flatMap g
  | [], _ => rfl
  | x :: L, h => by
    rw [List.flatMap_cons, List.flatMap_cons, h x List.mem_cons_self, flatMap_cg (fun y hy => h y (List.mem_cons_of_mem _ hy))]
theorem flatMap_pm {α β : Type} {f g : α → List β} : ∀ {L : List α}, (∀ x, x ∈ L → (f x).Perm (g x)) → (L.flatMap f).Perm (L.flatMap g)
  | [], _ => List.Perm.refl _
  | x :: L, h => by
    rw [List.flatMap_cons, List.flatMap_cons]
    exact List.Perm.append (h x List.mem_cons_self) (flatMap_pm (fun y hy => h y (List.mem_cons_of_mem _ hy)))
theorem map_fm {α β γ : Type} (f : β → γ) (g : α → List β) : ∀ L : List α, (L.flatMap g).map f = L.flatMap (fun x => (g x).map f)
  | [] => rfl
  | x :: L => by
    rw [List.flatMap_cons, List.flatMap_cons, List.map_append, map_fm f g L]
theorem fm_map {α β γ : Type} (f : α → β) (g : β → List γ) : ∀ L : List α, (L.map f).flatMap g = L.flatMap (fun x => g (f x))
  | [] => rfl
  | x :: L => by
    rw [List.map_cons, List.flatMap_cons, List.flatMap_cons, fm_map f g L]
/-- the quarter: a from 1, b from 0 -/
def hfRow (a : Nat) : Nat → List (Int × Int)
  | 0 => []
  | b + 1 => hfRow a b ++ [((a : Int), (b : Int))]
def hfAll (w : Nat) : Nat → List (Int × Int)
  | 0 => []
  | a + 1 => hfAll w a ++ hfRow (a + 1) (w + 1)
def rtP (p : Int × Int) : Int × Int := (-p.2, p.1)
theorem pts_pm {w : Nat} (hw : w = 1 ∨ w = 2) : (pts w).Perm (hfAll w w ++ ((hfAll w w).map rtP ++ (((hfAll w w).map rtP).map rtP ++ (((hfAll w w).map rtP).map rtP).map rtP))) := by
  rcases hw with rfl | rfl <;> decide
theorem pts_rt {w : Nat} (hw : w = 1 ∨ w = 2) : (pts w).Perm ((pts w).map rtP) := by
  rcases hw with rfl | rfl <;> decide
theorem pts_o2 {w : Nat} (hw : w = 1 ∨ w = 2) : ∀ p, p ∈ pts w → o2 p.1 ∧ o2 p.2 := by
  unfold o2
  rcases hw with rfl | rfl <;> decide
theorem hf_o2 {w : Nat} (hw : w = 1 ∨ w = 2) : ∀ p, p ∈ hfAll w w → o2 p.1 ∧ o2 p.2 := by
  unfold o2
  rcases hw with rfl | rfl <;> decide
/-- the norms with a and b; a quarter of all; all -/
def nW (P Q : Nat → Int32) (w i j : Nat) (p : Int × Int) : List Nat := (pts w).map (fun q => nN P Q i j p.1 p.2 q.1 q.2)
def NL (P Q : Nat → Int32) (w i j : Nat) : List Nat := (hfAll w w).flatMap (nW P Q w i j)
def ML (P Q : Nat → Int32) (w i j : Nat) : List Nat := (pts w).flatMap (nW P Q w i j)
theorem NZ_rt (pi qi pj qj a b c d : Int) : NZ pi qi pj qj (-b) a (-d) c = NZ pi qi pj qj a b c d := by
  unfold NZ UZ VZ
  grind
theorem nW_rt (P Q : Nat → Int32) {w : Nat} (hw : w = 1 ∨ w = 2) (i j : Nat) (p : Int × Int) : (nW P Q w i j (rtP p)).Perm (nW P Q w i j p) := by
  unfold nW
  refine ((pts_rt hw).map _).trans (List.Perm.of_eq ?_)
  rw [List.map_map]
  refine List.map_congr_left (fun q _ => ?_)
  show (NZ _ _ _ _ (-p.2) p.1 (-q.2) q.1).toNat = (NZ _ _ _ _ p.1 p.2 q.1 q.2).toNat
  rw [NZ_rt]
theorem ML_x4 (P Q : Nat → Int32) {w : Nat} (hw : w = 1 ∨ w = 2) (i j : Nat) : (ML P Q w i j).Perm (x4 (NL P Q w i j)) := by
  unfold ML
  refine (List.Perm.flatMap_right _ (pts_pm hw)).trans ?_
  rw [List.flatMap_append, List.flatMap_append, List.flatMap_append]
  have r1 : (((hfAll w w).map rtP).flatMap (nW P Q w i j)).Perm (NL P Q w i j) := by
    rw [fm_map]
    exact flatMap_pm (fun p _ => nW_rt P Q hw i j p)
  have r2 : ((((hfAll w w).map rtP).map rtP).flatMap (nW P Q w i j)).Perm (NL P Q w i j) := by
    rw [fm_map]
    exact (flatMap_pm (fun p _ => nW_rt P Q hw i j p)).trans r1
  have r3 : (((((hfAll w w).map rtP).map rtP).map rtP).flatMap (nW P Q w i j)).Perm (NL P Q w i j) := by
    rw [fm_map]
    exact (flatMap_pm (fun p _ => nW_rt P Q hw i j p)).trans r2
  exact List.Perm.append (List.Perm.refl _) (List.Perm.append r1 (List.Perm.append r2 r3))
theorem ML_mem (P Q : Nat → Int32) {w : Nat} (hw : w = 1 ∨ w = 2) (i j N : Nat) : N ∈ ML P Q w i j ↔ N ∈ NL P Q w i j := by
  rw [(ML_x4 P Q hw i j).mem_iff]
  unfold x4
  simp only [List.mem_append]
  constructor
  · intro h
    rcases h with h | h | h | h <;> exact h
  · exact Or.inl
/-! the class's row is the quarter -/
theorem lnI_pt (pi qi fx fy : Int32) (w : Nat) (x y : Int) : lnI pi qi fx fy w x y = (sqI pt1 x y).map (fun q => (fx - reI pi qi (iI q.1) (iI q.2)) * (fx - reI pi qi (iI q.1) (iI q.2)) + (fy - imI pi qi (iI q.1) (iI q.2)) * (fy - imI pi qi (iI q.1) (iI q.2))) := by
  unfold lnI sqI
  by_cases e : x = 0 ∧ y = 0
  · rw [if_pos e, if_pos e]; rfl
  · rw [if_neg e, if_neg e]; rfl
theorem lnRow_pt (pi qi fx fy : Int32) (w : Nat) (x : Int) : ∀ m, lnRow pi qi fx fy w x m = (sqRow pt1 w x m).map (fun q => (fx - reI pi qi (iI q.1) (iI q.2)) * (fx - reI pi qi (iI q.1) (iI q.2)) + (fy - imI pi qi (iI q.1) (iI q.2)) * (fy - imI pi qi (iI q.1) (iI q.2)))
  | 0 => rfl
  | m + 1 => by
    show lnRow pi qi fx fy w x m ++ lnI pi qi fx fy w x ((m : Int) - w) = (sqRow pt1 w x m ++ sqI pt1 x ((m : Int) - (w : Int))).map _
    rw [List.map_append, ← lnRow_pt pi qi fx fy w x m, ← lnI_pt pi qi fx fy w]
theorem lnAll_pt (pi qi fx fy : Int32) (w : Nat) : ∀ k, lnAll pi qi fx fy w k = (sqAll pt1 w k).map (fun q => (fx - reI pi qi (iI q.1) (iI q.2)) * (fx - reI pi qi (iI q.1) (iI q.2)) + (fy - imI pi qi (iI q.1) (iI q.2)) * (fy - imI pi qi (iI q.1) (iI q.2)))
  | 0 => rfl
  | k + 1 => by
    show lnAll pi qi fx fy w k ++ lnRow pi qi fx fy w ((k : Int) - w) (2 * w + 1) = (sqAll pt1 w k ++ sqRow pt1 w ((k : Int) - (w : Int)) (2 * w + 1)).map _
    rw [List.map_append, ← lnAll_pt pi qi fx fy w k, ← lnRow_pt]
theorem npRow_pt (pi qi pj qj : Int32) (w a : Nat) : ∀ b, npRow pi qi pj qj w a b = (hfRow a b).flatMap (fun p => (pts w).map (fun q => pnI pi qi pj qj (iI p.1) (iI p.2) (iI q.1) (iI q.2)))
  | 0 => rfl
  | b + 1 => by
    show npRow pi qi pj qj w a b ++ lnAll pi qi (reI pj qj (nI a) (nI b)) (imI pj qj (nI a) (nI b)) w (2 * w + 1) = (hfRow a b ++ [((a : Int), (b : Int))]).flatMap _
    rw [List.flatMap_append, ← npRow_pt pi qi pj qj w a b, List.flatMap_singleton, lnAll_pt, ← iI_nI a, ← iI_nI b]
    rfl
theorem npAll_pt (pi qi pj qj : Int32) (w : Nat) : ∀ a, npAll pi qi pj qj w a = (hfAll w a).flatMap (fun p => (pts w).map (fun q => pnI pi qi pj qj (iI p.1) (iI p.2) (iI q.1) (iI q.2)))
  | 0 => rfl
  | a + 1 => by
    show npAll pi qi pj qj w a ++ npRow pi qi pj qj w (a + 1) (w + 1) = (hfAll w a ++ hfRow (a + 1) (w + 1)).flatMap _
    rw [List.flatMap_append, ← npAll_pt pi qi pj qj w a, ← npRow_pt]
theorem np_NL {P Q : Nat → Int32} {n i j w : Nat} (h : VP P Q n) (hi : i < n) (hj : j < n) (hw : w = 1 ∨ w = 2) : npAll (P i) (Q i) (P j) (Q j) w w = (NL P Q w i j).map nI := by
  rw [npAll_pt]
  unfold NL
  rw [map_fm]
  refine flatMap_cg (fun p hp => ?_)
  unfold nW
  rw [List.map_map]
  refine List.map_congr_left (fun q hq => ?_)
  exact pnI_n h hi hj (hf_o2 hw p hp).1 (hf_o2 hw p hp).2 (pts_o2 hw q hq).1 (pts_o2 hw q hq).2
theorem la_ML {P Q : Nat → Int32} {n i j w : Nat} (h : VP P Q n) (hi : i < n) (hj : j < n) (hw : w = 1 ∨ w = 2) : laL P Q w i j = (ML P Q w i j).map (fun N => lN (N * (aN P Q i * aN P Q j))) := by
  unfold laL ML
  rw [sqAll_pt, map_fm]
  refine flatMap_cg (fun p hp => ?_)
  unfold laW lmL nW
  rw [sqAll_pt, List.map_map]
  unfold lmW
  rw [flatMap_one]
  refine List.map_congr_left (fun q hq => ?_)
  exact psL_n h hi hj (pts_o2 hw p hp).1 (pts_o2 hw p hp).2 (pts_o2 hw q hq).1 (pts_o2 hw q hq).2
theorem NL_le {P Q : Nat → Int32} {n i j w : Nat} (h : VP P Q n) (hi : i < n) (hj : j < n) (hw : w = 1 ∨ w = 2) : ∀ N, N ∈ NL P Q w i j → N ≤ 51200 := by
  intro N hN
  unfold NL nW at hN
  obtain ⟨p, hp, hN⟩ := List.mem_flatMap.mp hN
  obtain ⟨q, hq, rfl⟩ := List.mem_map.mp hN
  exact (nN_z h hi hj (hf_o2 hw p hp).1 (hf_o2 hw p hp).2 (pts_o2 hw q hq).1 (pts_o2 hw q hq).2).2
theorem ML_le {P Q : Nat → Int32} {n i j w : Nat} (h : VP P Q n) (hi : i < n) (hj : j < n) (hw : w = 1 ∨ w = 2) : ∀ N, N ∈ ML P Q w i j → N ≤ 51200 := fun N hN => NL_le h hi hj hw N ((ML_mem P Q hw i j N).mp hN)
theorem NL_len (P Q : Nat → Int32) {w : Nat} (hw : w = 1 ∨ w = 2) (i j : Nat) : 1 ≤ (NL P Q w i j).length ∧ (NL P Q w i j).length ≤ 144 := by
  have e : (NL P Q w i j).length = ((hfAll w w).map (fun _ => (pts w).length)).sum := by
    unfold NL nW
    rw [List.length_flatMap]
    congr 1
    exact List.map_congr_left (fun p _ => List.length_map _)
  rw [e]
  rcases hw with rfl | rfl <;> decide
/-! the reference goes through all codes -/
def qdL (w : Nat) : Nat → List ((Int × Int) × (Int × Int))
  | 0 => []
  | x + 1 => if ¬ cdA w (nI x) = 0 ∨ ¬ cdB w (nI x) = 0 then (if ¬ cdC w (nI x) = 0 ∨ ¬ cdD w (nI x) = 0 then qdL w x ++ [(((cdA w (nI x)).toInt, (cdB w (nI x)).toInt), ((cdC w (nI x)).toInt, (cdD w (nI x)).toInt))] else qdL w x) else qdL w x
theorem qd_1 : qdL 1 81 = (pts 1).flatMap (fun p => (pts 1).map (fun q => (p, q))) := by decide +kernel
theorem qd_2 : qdL 2 625 = (pts 2).flatMap (fun p => (pts 2).map (fun q => (p, q))) := by decide +kernel
theorem qd_w {w : Nat} (hw : w = 1 ∨ w = 2) : qdL w (wd4 w) = (pts w).flatMap (fun p => (pts w).map (fun q => (p, q))) := by
  rcases hw with rfl | rfl
  · exact qd_1
  · exact qd_2
theorem okF_qd (P Q : Nat → Int32) (w : Nat) (f ll : Int32) (i j : Nat) (kd : Int32) : ∀ x, okF P Q w f ll i j kd x = (qdL w x).foldl (fun t z => okS f ll kd (bsL P Q i j) (psL P Q i j (iI z.1.1) (iI z.1.2) (iI z.2.1) (iI z.2.2)) t) (0, 0)
  | 0 => rfl
  | x + 1 => by
    show (if ¬ cdA w (nI x) = 0 ∨ ¬ cdB w (nI x) = 0 then (if ¬ cdC w (nI x) = 0 ∨ ¬ cdD w (nI x) = 0 then _ else _) else _) = (if ¬ cdA w (nI x) = 0 ∨ ¬ cdB w (nI x) = 0 then (if ¬ cdC w (nI x) = 0 ∨ ¬ cdD w (nI x) = 0 then _ else _) else _ : List ((Int × Int) × (Int × Int))).foldl _ _
    by_cases h1 : ¬ cdA w (nI x) = 0 ∨ ¬ cdB w (nI x) = 0
    · rw [if_pos h1, if_pos h1]
      by_cases h2 : ¬ cdC w (nI x) = 0 ∨ ¬ cdD w (nI x) = 0
      · rw [if_pos h2, if_pos h2, List.foldl_append, ← okF_qd P Q w f ll i j kd x]
        show _ = okS f ll kd (bsL P Q i j) (psL P Q i j (iI (cdA w (nI x)).toInt) (iI (cdB w (nI x)).toInt) (iI (cdC w (nI x)).toInt) (iI (cdD w (nI x)).toInt)) _
        rw [iI_toInt, iI_toInt, iI_toInt, iI_toInt]
      · rw [if_neg h2, if_neg h2, okF_qd P Q w f ll i j kd x]
    · rw [if_neg h1, if_neg h1, okF_qd P Q w f ll i j kd x]

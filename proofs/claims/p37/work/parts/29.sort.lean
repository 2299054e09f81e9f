/-! rows laid in order: whichever row and order, the list of its numbers in order -/
abbrev Asc (S : List Nat) : Prop := S.Pairwise (fun a b => a ≤ b)
theorem gD_l {S : List Nat} {x i : Nat} (h : i < S.length) : (S ++ [x]).getD i 0 = S.getD i 0 := by
  rw [List.getD_eq_getElem?_getD, List.getD_eq_getElem?_getD, List.getElem?_append_left h]
theorem gD_r {S : List Nat} {x i : Nat} (h : i = S.length) : (S ++ [x]).getD i 0 = x := by
  rw [List.getD_eq_getElem?_getD, h, List.getElem?_append_right (Nat.le_refl _), Nat.sub_self]; rfl
theorem ins_g {α : Type} (gv : Nat → α) (U : (Nat → α) → Nat → α → Nat → α) (hU1 : ∀ f k x, U f k x k = x) (hU2 : ∀ f k x j, j ≠ k → U f k x j = f j) (le : α → α → Prop) (B : Nat) (hle : ∀ a b, a ≤ B → b ≤ B → (le (gv a) (gv b) ↔ a ≤ b))
    (I : (Nat → α) → α → Nat → Nat → α) (I0 : ∀ f v, I f v 0 = U f 0 v) (I1 : ∀ f v q, (le (f q) v → I f v (q + 1) = U f (q + 1) v) ∧ (¬ le (f q) v → I f v (q + 1) = I (U f (q + 1) (f q)) v q)) {v : Nat} (hv : v ≤ B) :
    ∀ (q : Nat) (S : List Nat) (f : Nat → α), S.length = q → (∀ x, x ∈ S → x ≤ B) → Asc S → (∀ i, i < q → f i = gv (S.getD i 0)) → ∃ T : List Nat, T.length = q + 1 ∧ T.Perm (v :: S) ∧ Asc T ∧ (∀ i, i ≤ q → I f (gv v) q i = gv (T.getD i 0)) ∧ ∀ i, q < i → I f (gv v) q i = f i
  | 0, S, f, hS, hB, hA, hf => by
    have e : S = [] := List.length_eq_zero_iff.mp hS
    subst e
    refine ⟨[v], rfl, List.Perm.refl _, List.pairwise_singleton _ _, fun i hi => ?_, fun i hi => ?_⟩
    · rw [I0, Nat.le_zero.mp hi, hU1]; rfl
    · rw [I0, hU2 _ _ _ _ (by omega)]
  | q + 1, S, f, hS, hB, hA, hf => by
    obtain ⟨S', x, rfl⟩ : ∃ S' x, S = S' ++ [x] := by
      have hne : S ≠ [] := fun e => by rw [e] at hS; simp at hS
      exact ⟨S.dropLast, S.getLast hne, (List.dropLast_concat_getLast hne).symm⟩
    have hl : S'.length = q := by
      rw [List.length_append] at hS
      exact Nat.succ.inj hS
    have hx : x ≤ B := hB x (List.mem_append_right _ List.mem_cons_self)
    have hfx : f q = gv x := by rw [hf q (by omega), gD_r hl.symm]
    obtain ⟨a1, a2, a3⟩ := List.pairwise_append.mp hA
    by_cases c : x ≤ v
    · have e := (I1 f (gv v) q).1 (by rw [hfx]; exact (hle x v hx hv).mpr c)
      refine ⟨S' ++ [x] ++ [v], by rw [List.length_append, hS]; rfl, List.perm_append_singleton _ _, List.pairwise_append.mpr ⟨hA, List.pairwise_singleton _ _, fun a ha b hb => ?_⟩, fun i hi => ?_, fun i hi => ?_⟩
      · rw [List.mem_singleton.mp hb]
        rcases List.mem_append.mp ha with ha | ha
        · exact Nat.le_trans (a3 a ha x List.mem_cons_self) c
        · rw [List.mem_singleton.mp ha]; exact c
      · rw [e]
        by_cases h : i = q + 1
        · rw [h, hU1, gD_r hS.symm]
        · rw [hU2 _ _ _ _ h, hf i (by omega), gD_l (show i < (S' ++ [x]).length by omega)]
      · rw [e, hU2 _ _ _ _ (by omega)]
    · have e := (I1 f (gv v) q).2 (by rw [hfx]; exact fun z => c ((hle x v hx hv).mp z))
      obtain ⟨T, t1, t2, t3, t4, t5⟩ := ins_g gv U hU1 hU2 le B hle I I0 I1 hv q S' (U f (q + 1) (f q)) hl (fun z hz => hB z (List.mem_append_left _ hz)) a1 (fun i hi => by rw [hU2 _ _ _ _ (by omega), hf i (by omega), gD_l (by omega)])
      refine ⟨T ++ [x], by rw [List.length_append, t1]; rfl, ?_, List.pairwise_append.mpr ⟨t3, List.pairwise_singleton _ _, fun a ha b hb => ?_⟩, fun i hi => ?_, fun i hi => ?_⟩
      · exact (List.Perm.append_right [x] t2)
      · rw [List.mem_singleton.mp hb]
        rcases List.mem_cons.mp (t2.mem_iff.mp ha) with h | h
        · omega
        · exact a3 a h x List.mem_cons_self
      · rw [e]
        by_cases h : i = q + 1
        · rw [h, t5 (q + 1) (by omega), hU1, hfx, gD_r t1.symm]
        · rw [t4 i (by omega), gD_l (by omega)]
      · rw [e, t5 i (by omega), hU2 _ _ _ _ (by omega)]
/-- the class's row -/
theorem sr_n {B : Nat} (hB : B ≤ 1000000000) (K : List Nat) (hK : ∀ x, x ∈ K → x ≤ B) : ∀ j, j < K.length → ∃ T : List Nat, T.length = j + 1 ∧ T.Perm (K.take (j + 1)) ∧ Asc T ∧ (∀ i, i ≤ j → srF (lsF (K.map nI)) j i = nI (T.getD i 0)) ∧ ∀ i, j < i → srF (lsF (K.map nI)) j i = lsF (K.map nI) i
  | 0, h => by
    refine ⟨K.take 1, by rw [List.length_take]; omega, List.Perm.refl _, ?_, fun i hi => ?_, fun i hi => rfl⟩
    · match K, h with
      | x :: _, _ => exact List.pairwise_singleton _ _
    · rw [Nat.le_zero.mp hi]
      match K, h with
      | x :: _, _ => rfl
  | j + 1, h => by
    obtain ⟨T, t1, t2, t3, t4, t5⟩ := sr_n hB K hK j (by omega)
    have hv : srF (lsF (K.map nI)) j (j + 1) = nI (K[j + 1]) := by
      rw [t5 (j + 1) (by omega), lsF_at (by rw [List.length_map]; exact h), List.getElem_map]
    obtain ⟨T', s1, s2, s3, s4, s5⟩ := ins_g nI upd (fun _ _ _ => pk_us) (fun _ _ _ _ e => pk_un e) (fun a b => a ≤ b) B (fun a b ha hb => nI_leI (by omega) (by omega)) insW (fun _ _ => rfl) (fun f v q => ⟨fun e => if_pos e, fun e => if_neg e⟩) (hK _ (List.getElem_mem h)) (j + 1) T (srF (lsF (K.map nI)) j) t1 (fun x hx => hK x (List.mem_of_mem_take (t2.mem_iff.mp hx))) t3 (fun i hi => t4 i (by omega))
    have e : srF (lsF (K.map nI)) (j + 1) = insW (srF (lsF (K.map nI)) j) (nI (K[j + 1])) (j + 1) := by
      show insW (srF (lsF (K.map nI)) j) (srF (lsF (K.map nI)) j (j + 1)) (j + 1) = _
      rw [hv]
    refine ⟨T', s1, ?_, s3, fun i hi => by rw [e, s4 i hi], fun i hi => by rw [e, s5 i hi, t5 i (by omega)]⟩
    rw [List.take_succ_eq_append_getElem h]
    exact s2.trans ((List.Perm.cons _ t2).trans (List.perm_append_singleton _ _).symm)
/-- the reference's row -/
theorem ia_n {B : Nat} (hB : B < 2 ^ 63) : ∀ (K S : List Nat) (F : Nat → Int64), (∀ x, x ∈ K → x ≤ B) → (∀ x, x ∈ S → x ≤ B) → Asc S → (∀ i, i < S.length → F i = lN (S.getD i 0)) → ∃ T : List Nat, T.length = S.length + K.length ∧ T.Perm (S ++ K) ∧ Asc T ∧ ∀ i, i < T.length → insA F S.length (K.map lN) i = lN (T.getD i 0)
  | [], S, F, _, _, hA, hF => ⟨S, rfl, by rw [List.append_nil], hA, hF⟩
  | x :: K, S, F, hK, hS, hA, hF => by
    obtain ⟨T, s1, s2, s3, s4, _⟩ := ins_g lN vp_updL (fun _ _ _ => if_pos rfl) (fun _ _ _ _ e => if_neg e) (fun a b => a ≤ b) B (fun a b ha hb => pk_lLE (by omega) (by omega)) insL (fun _ _ => rfl) (fun f v q => ⟨fun e => if_pos e, fun e => if_neg e⟩) (hK x List.mem_cons_self) S.length S F rfl hS hA hF
    have hT : ∀ y, y ∈ T → y ≤ B := fun y hy => by
      rcases List.mem_cons.mp (s2.mem_iff.mp hy) with h | h
      · rw [h]; exact hK x List.mem_cons_self
      · exact hS y h
    obtain ⟨T', u1, u2, u3, u4⟩ := ia_n hB K T (insL F (lN x) S.length) (fun y hy => hK y (List.mem_cons_of_mem _ hy)) hT s3 (fun i hi => s4 i (by omega))
    refine ⟨T', by rw [u1, s1, List.length_cons]; omega, ?_, u3, fun i hi => ?_⟩
    · refine u2.trans ((List.Perm.append_right K s2).trans ?_)
      exact List.perm_middle.symm
    · have h := u4 i hi
      rw [s1] at h
      exact h
/-- four of each -/
def q4 (C : List Nat) : List Nat := C.flatMap (fun v => [v, v, v, v])
theorem q4_len : ∀ C : List Nat, (q4 C).length = 4 * C.length
  | [] => rfl
  | v :: C => by
    show ([v, v, v, v] ++ q4 C).length = 4 * (C.length + 1)
    rw [List.length_append, q4_len C]
    show 4 + 4 * C.length = _
    omega
theorem q4_at : ∀ (C : List Nat) (i : Nat), (q4 C).getD i 0 = C.getD (i / 4) 0
  | [], i => rfl
  | v :: C, i => by
    show (v :: v :: v :: v :: q4 C).getD i 0 = _
    match i with
    | 0 => rfl
    | 1 => rfl
    | 2 => rfl
    | 3 => rfl
    | i + 4 =>
      rw [show (i + 4) / 4 = i / 4 + 1 by omega]
      exact q4_at C i
theorem q4_pm : ∀ C : List Nat, (q4 C).Perm (x4 C) := by
  intro C
  rw [List.perm_iff_count]
  intro a
  have h : ∀ C : List Nat, (q4 C).count a = 4 * C.count a := by
    intro C
    induction C with
    | nil => rfl
    | cons v C ih =>
      show ([v, v, v, v] ++ q4 C).count a = _
      rw [List.count_append, ih, List.count_cons]
      simp only [List.count_cons, List.count_nil]
      by_cases e : (v == a) = true
      · simp only [e, if_true]; omega
      · simp only [e]; simp
  rw [h]
  unfold x4
  rw [List.count_append, List.count_append, List.count_append]
  omega
theorem q4_asc {C : List Nat} (h : Asc C) : Asc (q4 C) := by
  induction C with
  | nil => exact List.Pairwise.nil
  | cons v C ih =>
    obtain ⟨h1, h2⟩ := List.pairwise_cons.mp h
    have hm : ∀ y, y ∈ q4 C → v ≤ y := by
      intro y hy
      obtain ⟨z, hz, hy⟩ := List.mem_flatMap.mp hy
      have e : y = z := by
        simp only [List.mem_cons, List.not_mem_nil, or_false] at hy
        rcases hy with e | e | e | e <;> exact e
      rw [e]; exact h1 z hz
    show Asc (v :: v :: v :: v :: q4 C)
    have i1 := ih h2
    have k1 : Asc (v :: q4 C) := List.pairwise_cons.mpr ⟨hm, i1⟩
    have k2 : Asc (v :: v :: q4 C) := List.pairwise_cons.mpr ⟨fun y hy => by rcases List.mem_cons.mp hy with e | e; exact Nat.le_of_eq e.symm; exact hm y e, k1⟩
    have k3 : Asc (v :: v :: v :: q4 C) := List.pairwise_cons.mpr ⟨fun y hy => by rcases List.mem_cons.mp hy with e | e; exact Nat.le_of_eq e.symm; rcases List.mem_cons.mp e with e | e; exact Nat.le_of_eq e.symm; exact hm y e, k2⟩
    exact List.pairwise_cons.mpr ⟨fun y hy => by rcases List.mem_cons.mp hy with e | e; exact Nat.le_of_eq e.symm; rcases List.mem_cons.mp e with e | e; exact Nat.le_of_eq e.symm; rcases List.mem_cons.mp e with e | e; exact Nat.le_of_eq e.symm; exact hm y e, k3⟩
theorem asc_eq {S T : List Nat} (h : S.Perm T) (hs : Asc S) (ht : Asc T) : S = T := List.Perm.eq_of_pairwise (fun a b _ _ h1 h2 => Nat.le_antisymm h1 h2) hs ht h
theorem asc_map {C : List Nat} (A : Nat) (h : Asc C) : Asc (C.map (fun N => N * A)) := List.pairwise_map.mpr (h.imp (fun e => Nat.mul_le_mul_right A e))
theorem gD_map {C : List Nat} (A i : Nat) (h : i < C.length) : (C.map (fun N => N * A)).getD i 0 = C.getD i 0 * A := by
  rw [List.getD_eq_getElem?_getD, List.getD_eq_getElem?_getD, List.getElem?_map, List.getElem?_eq_getElem h]; rfl
/-- both rows by one list in order -/
theorem rows_ok {P Q : Nat → Int32} {n i j w : Nat} (SQ : Nat → Int64) (h : VP P Q n) (hi : i < n) (hj : j < n) (hw : w = 1 ∨ w = 2) :
    ∃ C : List Nat, C.length = (NL P Q w i j).length ∧ Asc C ∧ (∀ N, N ∈ C → N ≤ 51200)
      ∧ (∀ k, k < C.length → srF (lsF (npAll (P i) (Q i) (P j) (Q j) w w)) ((npAll (P i) (Q i) (P j) (Q j) w w).length - 1) k = nI (C.getD k 0))
      ∧ (laL P Q w i j).length = 4 * C.length ∧ ∀ k, k < 4 * C.length → insA SQ 0 (laL P Q w i j) k = lN (C.getD (k / 4) 0 * aP P Q i j) := by
  have ln := NL_len P Q hw i j
  have a := aP_bd h hi hj
  obtain ⟨C, c1, c2, c3, c4, _⟩ := sr_n (B := 51200) (by omega) (NL P Q w i j) (NL_le h hi hj hw) ((NL P Q w i j).length - 1) (by omega)
  rw [show (NL P Q w i j).length - 1 + 1 = (NL P Q w i j).length by omega] at c1
  rw [List.take_of_length_le (by omega)] at c2
  have hCle : ∀ N, N ∈ C → N ≤ 51200 := fun N hN => NL_le h hi hj hw N (c2.mem_iff.mp hN)
  have eM : laL P Q w i j = ((ML P Q w i j).map (fun N => N * aP P Q i j)).map lN := by
    rw [la_ML h hi hj hw, List.map_map]; rfl
  have pM := ML_x4 P Q hw i j
  have hb : ∀ x, x ∈ (ML P Q w i j).map (fun N => N * aP P Q i j) → x ≤ 51200 * 640000 := fun x hx => by
    obtain ⟨N, hN, rfl⟩ := List.mem_map.mp hx
    exact Nat.mul_le_mul (ML_le h hi hj hw N hN) a.2
  obtain ⟨T, t1, t2, t3, t4⟩ := ia_n (B := 51200 * 640000) (by decide) ((ML P Q w i j).map (fun N => N * aP P Q i j)) [] SQ hb (fun x hx => by cases hx) List.Pairwise.nil (fun i hi => absurd hi (Nat.not_lt_zero _))
  have lM : (ML P Q w i j).length = 4 * C.length := by
    rw [pM.length_eq, c1]
    unfold x4
    simp only [List.length_append]
    omega
  have x4p : (x4 C).Perm (x4 (NL P Q w i j)) := List.Perm.append c2 (List.Perm.append c2 (List.Perm.append c2 c2))
  have eT : T = (q4 C).map (fun N => N * aP P Q i j) := by
    refine asc_eq ?_ t3 (asc_map _ (q4_asc c3))
    exact t2.trans ((pM.trans (x4p.symm.trans (q4_pm C).symm)).map _)
  refine ⟨C, c1, c3, hCle, fun k hk => ?_, ?_, fun k hk => ?_⟩
  · rw [np_NL h hi hj hw, List.length_map]
    exact c4 k (by omega)
  · rw [eM, List.length_map, List.length_map, lM]
  · have hT : T.length = 4 * C.length := by rw [t1, List.length_map, lM]; exact Nat.zero_add _
    have h4 := t4 k (by omega)
    rw [eM]
    refine h4.trans ?_
    rw [eT, gD_map _ k (by rw [q4_len]; exact hk), q4_at]

/-! recursions over a row as folds over a list; counting -/
theorem lsF_at {L : List Int32} {k : Nat} (h : k < L.length) : lsF L k = L[k] := by
  unfold lsF
  rw [List.getD_eq_getElem?_getD, List.getElem?_eq_getElem h]
  rfl
theorem rec_foldl {σ : Type} (S : Int32 → σ → σ) (R : Nat → σ) (L : List Int32) (hR : ∀ k, k < L.length → R (k + 1) = S (lsF L k) (R k)) : R L.length = L.foldl (fun r v => S v r) (R 0) := by
  have key : ∀ k, k ≤ L.length → R k = (L.take k).foldl (fun r v => S v r) (R 0) := by
    intro k
    induction k with
    | zero => intro _; rfl
    | succ k ih =>
      intro hk
      rw [List.take_succ_eq_append_getElem (by omega), List.foldl_append, ← ih (by omega), hR k (by omega), lsF_at (by omega)]
      rfl
  have h := key L.length (Nat.le_refl _)
  rwa [List.take_length] at h
/-- how many numbers of a list are of a kind -/
def ctN (p : Nat → Bool) : List Nat → Nat
  | [] => 0
  | N :: L => (if p N = true then 1 else 0) + ctN p L
theorem ctN_countP (p : Nat → Bool) : ∀ L : List Nat, ctN p L = L.countP p
  | [] => rfl
  | N :: L => by
    show (if p N = true then 1 else 0) + ctN p L = _
    rw [ctN_countP p L, List.countP_cons, Nat.add_comm]
theorem ctN_perm {p : Nat → Bool} {L K : List Nat} (h : L.Perm K) : ctN p L = ctN p K := by
  rw [ctN_countP, ctN_countP, h.countP_eq]
theorem ctN_app (p : Nat → Bool) (L K : List Nat) : ctN p (L ++ K) = ctN p L + ctN p K := by
  rw [ctN_countP, ctN_countP, ctN_countP, List.countP_append]
theorem ctN_le (p : Nat → Bool) : ∀ L : List Nat, ctN p L ≤ L.length
  | [] => Nat.le_refl _
  | N :: L => by
    have h := ctN_le p L
    show (if p N = true then 1 else 0) + ctN p L ≤ L.length + 1
    by_cases e : p N = true
    · rw [if_pos e]; omega
    · rw [if_neg e]; omega
def x4 (L : List Nat) : List Nat := L ++ (L ++ (L ++ L))
theorem ctN_x4 (p : Nat → Bool) (L : List Nat) : ctN p (x4 L) = 4 * ctN p L := by
  unfold x4
  rw [ctN_app, ctN_app, ctN_app]; omega
/-- the class's count: four for each -/
theorem fold4 (p : Nat → Bool) : ∀ (L : List Nat) (c : Nat), L.foldl (fun (r : Int32) N => if p N = true then r + 4 else r) (nI c) = nI (c + 4 * ctN p L)
  | [], c => rfl
  | N :: L, c => by
    show L.foldl _ (if p N = true then nI c + 4 else nI c) = nI (c + 4 * ((if p N = true then 1 else 0) + ctN p L))
    by_cases e : p N = true
    · rw [if_pos e, if_pos e, show nI c + 4 = nI (c + 4) from nI_add c 4, fold4 p L]
      congr 1; omega
    · rw [if_neg e, if_neg e, fold4 p L]
      congr 1; omega
/-- the least number of a kind, 0 if there is none; the greatest quotient, 0 if there is none -/
def mnN (p : Nat → Bool) : Nat → List Nat → Nat
  | t, [] => t
  | t, N :: L => mnN p (if p N = true then (if t = 0 then N else if t ≤ N then t else N) else t) L
def mxN (A : Nat) (p : Nat → Bool) : Nat → List Nat → Nat
  | t, [] => t
  | t, N :: L => mxN A p (if p N = true then (if A / N ≤ t then t else A / N) else t) L
theorem mxN_spec (A : Nat) (p : Nat → Bool) : ∀ (L : List Nat) (t : Nat), t ≤ mxN A p t L ∧ (∀ N, N ∈ L → p N = true → A / N ≤ mxN A p t L) ∧ (mxN A p t L = t ∨ ∃ N, N ∈ L ∧ p N = true ∧ mxN A p t L = A / N)
  | [], t => ⟨Nat.le_refl _, fun N h => by simp at h, Or.inl rfl⟩
  | N :: L, t => by
    obtain ⟨h1, h2, h3⟩ := mxN_spec A p L (if p N = true then (if A / N ≤ t then t else A / N) else t)
    have e : mxN A p t (N :: L) = mxN A p (if p N = true then (if A / N ≤ t then t else A / N) else t) L := rfl
    rw [e]
    generalize hm : mxN A p (if p N = true then (if A / N ≤ t then t else A / N) else t) L = m at *
    by_cases hp : p N = true
    · rw [if_pos hp] at h1 h3
      by_cases hq : A / N ≤ t
      · rw [if_pos hq] at h1 h3
        refine ⟨h1, fun K hK hk => ?_, ?_⟩
        · rcases List.mem_cons.mp hK with e2 | e2
          · rw [e2]; omega
          · exact h2 K e2 hk
        · rcases h3 with h3 | ⟨K, a, b, c⟩
          · exact Or.inl h3
          · exact Or.inr ⟨K, List.mem_cons_of_mem _ a, b, c⟩
      · rw [if_neg hq] at h1 h3
        refine ⟨by omega, fun K hK hk => ?_, ?_⟩
        · rcases List.mem_cons.mp hK with e2 | e2
          · rw [e2]; exact h1
          · exact h2 K e2 hk
        · rcases h3 with h3 | ⟨K, a, b, c⟩
          · exact Or.inr ⟨N, List.mem_cons_self, hp, h3⟩
          · exact Or.inr ⟨K, List.mem_cons_of_mem _ a, b, c⟩
    · rw [if_neg hp] at h1 h3
      refine ⟨h1, fun K hK hk => ?_, ?_⟩
      · rcases List.mem_cons.mp hK with e2 | e2
        · rw [e2] at hk; exact absurd hk hp
        · exact h2 K e2 hk
      · rcases h3 with h3 | ⟨K, a, b, c⟩
        · exact Or.inl h3
        · exact Or.inr ⟨K, List.mem_cons_of_mem _ a, b, c⟩
theorem mnN_spec (p : Nat → Bool) (hp0 : p 0 = false) : ∀ (L : List Nat) (t : Nat), (mnN p t L = 0 → t = 0 ∧ ∀ N, N ∈ L → p N = false) ∧ (t ≠ 0 → mnN p t L ≤ t) ∧ (mnN p t L ≠ 0 → (mnN p t L = t ∨ (mnN p t L ∈ L ∧ p (mnN p t L) = true)) ∧ ∀ N, N ∈ L → p N = true → mnN p t L ≤ N)
  | [], t => ⟨fun h => ⟨h, fun N hN => by simp at hN⟩, fun _ => Nat.le_refl _, fun _ => ⟨Or.inl rfl, fun N hN => by simp at hN⟩⟩
  | N :: L, t => by
    have e : mnN p t (N :: L) = mnN p (if p N = true then (if t = 0 then N else if t ≤ N then t else N) else t) L := rfl
    rw [e]
    by_cases hp : p N = true
    · have hN0 : N ≠ 0 := fun h => by rw [h, hp0] at hp; cases hp
      rw [if_pos hp]
      by_cases ht : t = 0
      · rw [if_pos ht]
        obtain ⟨h1, h2, h3⟩ := mnN_spec p hp0 L N
        refine ⟨fun h => absurd (h1 h).1 hN0, fun h => absurd ht h, fun h => ⟨?_, fun K hK hk => ?_⟩⟩
        · rcases (h3 h).1 with a | ⟨a, b⟩
          · rw [a]; exact Or.inr ⟨List.mem_cons_self, hp⟩
          · exact Or.inr ⟨List.mem_cons_of_mem _ a, b⟩
        · rcases List.mem_cons.mp hK with e2 | e2
          · rw [e2]; exact h2 hN0
          · exact (h3 h).2 K e2 hk
      · rw [if_neg ht]
        by_cases hq : t ≤ N
        · rw [if_pos hq]
          obtain ⟨h1, h2, h3⟩ := mnN_spec p hp0 L t
          refine ⟨fun h => absurd (h1 h).1 ht, h2, fun h => ⟨?_, fun K hK hk => ?_⟩⟩
          · rcases (h3 h).1 with a | ⟨a, b⟩
            · exact Or.inl a
            · exact Or.inr ⟨List.mem_cons_of_mem _ a, b⟩
          · rcases List.mem_cons.mp hK with e2 | e2
            · rw [e2]; exact Nat.le_trans (h2 ht) hq
            · exact (h3 h).2 K e2 hk
        · rw [if_neg hq]
          obtain ⟨h1, h2, h3⟩ := mnN_spec p hp0 L N
          refine ⟨fun h => absurd (h1 h).1 hN0, fun _ => Nat.le_trans (h2 hN0) (by omega), fun h => ⟨?_, fun K hK hk => ?_⟩⟩
          · rcases (h3 h).1 with a | ⟨a, b⟩
            · rw [a]; exact Or.inr ⟨List.mem_cons_self, hp⟩
            · exact Or.inr ⟨List.mem_cons_of_mem _ a, b⟩
          · rcases List.mem_cons.mp hK with e2 | e2
            · rw [e2]; exact h2 hN0
            · exact (h3 h).2 K e2 hk
    · rw [if_neg hp]
      obtain ⟨h1, h2, h3⟩ := mnN_spec p hp0 L t
      refine ⟨fun h => ⟨(h1 h).1, fun K hK => ?_⟩, h2, fun h => ⟨?_, fun K hK hk => ?_⟩⟩
      · rcases List.mem_cons.mp hK with e2 | e2
        · rw [e2]; exact Bool.eq_false_iff.mpr hp
        · exact (h1 h).2 K e2
      · rcases (h3 h).1 with a | ⟨a, b⟩
        · exact Or.inl a
        · exact Or.inr ⟨List.mem_cons_of_mem _ a, b⟩
      · rcases List.mem_cons.mp hK with e2 | e2
        · rw [e2] at hk; exact absurd hk hp
        · exact (h3 h).2 K e2 hk
/-- the greatest quotient is the quotient by the least -/
theorem mx_mn {A : Nat} {p : Nat → Bool} (hp0 : p 0 = false) {L K : List Nat} (h : ∀ N, N ∈ L ↔ N ∈ K) : mxN A p 0 L = if mnN p 0 K = 0 then 0 else A / mnN p 0 K := by
  obtain ⟨a1, a2, a3⟩ := mxN_spec A p L 0
  obtain ⟨b1, b2, b3⟩ := mnN_spec p hp0 K 0
  by_cases e : mnN p 0 K = 0
  · rw [if_pos e]
    rcases a3 with a3 | ⟨N, c1, c2, c3⟩
    · exact a3
    · exact absurd c2 (by rw [(b1 e).2 N ((h N).mp c1)]; decide)
  · rw [if_neg e]
    obtain ⟨d1, d2⟩ := b3 e
    have d3 : mnN p 0 K ∈ K ∧ p (mnN p 0 K) = true := d1.resolve_left (fun q => e q)
    have d4 := a2 _ ((h _).mpr d3.1) d3.2
    rcases a3 with a3 | ⟨N, c1, c2, c3⟩
    · rw [a3] at d4 ⊢; exact (Nat.le_zero.mp d4).symm
    · have d5 := d2 N ((h N).mp c1) c2
      have d6 : A / N ≤ A / mnN p 0 K := Nat.div_le_div_left d5 (Nat.pos_of_ne_zero e)
      omega

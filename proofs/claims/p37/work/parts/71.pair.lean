/-! what the beats of a pair answer, rank by rank -/
abbrev npL (P Q : Nat → Int32) (w i j : Nat) : List Int32 := npAll (P i) (Q i) (P j) (Q j) w w
abbrev npS (P Q : Nat → Int32) (w i j : Nat) : Nat → Int32 := srF (lsF (npL P Q w i j)) ((npL P Q w i j).length - 1)
/-- a quarter of the combinations -/
def qtN (w : Nat) : Nat := if w = 1 then 16 else 144
/-- R ranks; nr: the norm of a rank, sp: where its run starts -/
def BT (P Q : Nat → Int32) (w i j : Nat) (f ll : Int32) (R : Nat) (nr sp : Nat → Nat) : Prop :=
  (1 ≤ R ∧ R ≤ 144) ∧ (∀ r, r < R → nr r ≤ 51200) ∧ (∀ a b, a < b → b < R → nr a < nr b) ∧ (sp 0 = 0 ∧ sp R = qtN w ∧ ∀ r, r < R → sp r < sp (r + 1) ∧ sp (r + 1) ≤ qtN w)
  ∧ dnF (npS P Q w i j) (npL P Q w i j).length = nI R
  ∧ (∀ r, r < 2 ^ 31 → naF (npS P Q w i j) (nI r) (npL P Q w i j).length 0 0 = if r < R then nI (nr r) else -4)
  ∧ (∀ r, r < R → cwF (npS P Q w i j) (nI (nr r)) (npL P Q w i j).length = nI (4 * (sp (r + 1) - sp r)))
  ∧ cwF (lsF (npL P Q w i j)) 0 (npL P Q w i j).length = nI (if nr 0 = 0 then 4 * sp 1 else 0)
  ∧ ∃ B, pbI P Q w f ll i j = nI (4 * B) ∧ 4 * B + (if nr 0 = 0 then 4 * sp 1 else 0) ≤ 4 * qtN w
theorem np_qt {P Q : Nat → Int32} {w : Nat} (hw : w = 1 ∨ w = 2) (i j : Nat) : (npL P Q w i j).length = qtN w := by
  rw [npAll_len]
  rcases hw with rfl | rfl <;> decide
theorem ctN_dis {p q : Nat → Bool} (h : ∀ N, p N = true → q N = true → False) : ∀ L : List Nat, ctN p L + ctN q L ≤ L.length
  | [] => Nat.le_refl _
  | N :: L => by
    have ih := ctN_dis h L
    show (if p N = true then 1 else 0) + ctN p L + ((if q N = true then 1 else 0) + ctN q L) ≤ L.length + 1
    by_cases e1 : p N = true
    · rw [if_pos e1, if_neg (fun e2 => h N e1 e2)]; omega
    · rw [if_neg e1]
      by_cases e2 : q N = true
      · rw [if_pos e2]; omega
      · rw [if_neg e2]; omega
theorem ctN_none {p : Nat → Bool} : ∀ {L : List Nat}, (∀ N, N ∈ L → p N = false) → ctN p L = 0
  | [], _ => rfl
  | N :: L, h => by
    show (if p N = true then 1 else 0) + ctN p L = 0
    rw [if_neg (by rw [h N List.mem_cons_self]; exact Bool.false_ne_true), ctN_none (fun K hK => h K (List.mem_cons_of_mem _ hK))]
theorem BT_ex {P Q : Nat → Int32} {n i j w : Nat} {f ll : Int32} (h : VP P Q n) (hv : LV f ll) (hi : i < n) (hj : j < n) (hw : w = 1 ∨ w = 2) : ∃ (R : Nat) (nr sp : Nat → Nat), BT P Q w i j f ll R nr sp := by
  have ln := NL_len P Q hw i j
  have hq := np_qt (P := P) (Q := Q) hw i j
  have enp : npL P Q w i j = (NL P Q w i j).map nI := np_NL h hi hj hw
  have eln : (npL P Q w i j).length = (NL P Q w i j).length := by rw [enp, List.length_map]
  obtain ⟨C, c1, c2, c3, c4, _⟩ := sr_n (B := 51200) (by omega) (NL P Q w i j) (NL_le h hi hj hw) ((NL P Q w i j).length - 1) (by omega)
  rw [show (NL P Q w i j).length - 1 + 1 = (NL P Q w i j).length by omega] at c1
  rw [List.take_of_length_le (by omega)] at c2
  have c5 : ∀ N, N ∈ C → N ≤ 51200 := fun N hN => NL_le h hi hj hw N (c2.mem_iff.mp hN)
  have eS : npS P Q w i j = srF (lsF ((NL P Q w i j).map nI)) ((NL P Q w i j).length - 1) := by
    show srF (lsF (npL P Q w i j)) ((npL P Q w i j).length - 1) = _
    rw [eln, enp]
  have cz : (npL P Q w i j).length = C.length := by rw [eln, c1]
  have hat : ∀ k, k < (npL P Q w i j).length → npS P Q w i j k = nI (C.getD k 0) := fun k hk => by
    rw [eS]; exact c4 k (by omega)
  have hmem : ∀ k, k < C.length → C.getD k 0 ∈ C := fun k hk => by
    rw [List.getD_eq_getElem?_getD, List.getElem?_eq_getElem hk]
    exact List.getElem_mem hk
  have hmon : ∀ a b, a ≤ b → b < C.length → C.getD a 0 ≤ C.getD b 0 := fun a b hab hb => by
    rw [List.getD_eq_getElem?_getD, List.getD_eq_getElem?_getD, List.getElem?_eq_getElem hb, List.getElem?_eq_getElem (show a < C.length by omega)]
    show C[a] ≤ C[b]
    by_cases hq : a = b
    · subst hq; exact Nat.le_refl _
    · exact List.pairwise_iff_getElem.mp c3 a b (by omega) hb (by omega)
  have H : hold (fun k => C.getD k 0) (npL P Q w i j).length (aP P Q i j) (npS P Q w i j) (fun k => lN (C.getD (k / 4) 0 * aP P Q i j)) :=
    ⟨⟨by omega, by omega⟩, aP_bd h hi hj, fun k hk => c5 _ (hmem k (by omega)), fun a b hab hb => hmon a b hab (by omega), hat, fun k _ => rfl⟩
  obtain ⟨R, r1, r2, K⟩ := RN_ex (fun k => C.getD k 0) (z := (npL P Q w i j).length) (by omega)
  have hfr0 := RN_fr H K (show 0 < R by omega)
  have hcS : ∀ v, v ≤ 51200 → cwF (npS P Q w i j) (nI v) (npL P Q w i j).length = nI (4 * ctN (fun N => N == v) (NL P Q w i j)) := fun v hv2 => by
    have e1 : cwF (npS P Q w i j) (nI v) (npL P Q w i j).length = cwF (lsF (C.map nI)) (nI v) (npL P Q w i j).length := cwF_congr (nI v) (npL P Q w i j).length (fun k hk => by
      rw [hat k hk, lsF_at (by rw [List.length_map]; omega), List.getElem_map, List.getD_eq_getElem?_getD, List.getElem?_eq_getElem (show k < C.length by omega)]; rfl)
    rw [e1, show (npL P Q w i j).length = (C.map nI).length by rw [List.length_map, cz], cw_n (by omega) (fun N hN => by have := c5 N hN; omega), ctN_perm c2]
  have hcL : cwF (lsF (npL P Q w i j)) 0 (npL P Q w i j).length = nI (4 * ctN (fun N => N == 0) (NL P Q w i j)) := by
    rw [enp, show (0 : Int32) = nI 0 from rfl]
    exact cw_n (by omega) (fun N hN => by have := NL_le h hi hj hw N hN; omega)
  have hle0 := ctN_le (fun N => N == 0) (NL P Q w i j)
  have hsp1 : sr (fun k => C.getD k 0) (npL P Q w i j).length 1 ≤ (npL P Q w i j).length := (RN_step K (show 0 < R by omega)).2.1
  have hlk : 4 * ctN (fun N => N == 0) (NL P Q w i j) = if C.getD 0 0 = 0 then 4 * sr (fun k => C.getD k 0) (npL P Q w i j).length 1 else 0 := by
    by_cases e : C.getD 0 0 = 0
    · rw [if_pos e]
      have a1 := hcS 0 (by omega)
      change cwF (npS P Q w i j) (nI (C.getD 0 0)) _ = nI (4 * (sr (fun k => C.getD k 0) (npL P Q w i j).length 1 - 0)) at hfr0
      rw [e, a1, Nat.sub_zero] at hfr0
      exact (nI_eq (by omega) (by omega)).mp hfr0
    · rw [if_neg e, ctN_none (fun N hN => ?_)]
      rw [beq_eq_false_iff_ne]
      have hN2 := c2.mem_iff.mpr hN
      obtain ⟨k, hk, ek⟩ := List.mem_iff_getElem.mp hN2
      have hm := hmon 0 k (Nat.zero_le _) hk
      rw [List.getD_eq_getElem?_getD (i := k), List.getElem?_eq_getElem hk] at hm
      change C.getD 0 0 ≤ C[k] at hm
      omega
  have hpb := (pb_ok h hv hi hj hw).1
  have hdis := ctN_dis (p := bd (aP P Q i j) f ll) (q := fun N => N == 0) (fun N e1 e2 => by
    have e3 : N = 0 := beq_iff_eq.mp e2
    rw [e3, bd_0] at e1
    cases e1) (NL P Q w i j)
  refine ⟨R, fun r => C.getD (sr (fun k => C.getD k 0) (npL P Q w i j).length r) 0, sr (fun k => C.getD k 0) (npL P Q w i j).length, ⟨r1, by omega⟩, fun r hr => H.2.2.1 _ (K.2 r hr), fun a b hab hb => ?_, ⟨rfl, by rw [K.1, hq], fun r hr => ?_⟩, ?_, fun r hr => RN_at H K hr, fun r hr => RN_fr H K hr, ?_, ctN (bd (aP P Q i j) f ll) (NL P Q w i j), hpb, ?_⟩
  · have := RN_lt H K (b - (a + 1)) a (by omega)
    rwa [show a + 1 + (b - (a + 1)) = b by omega] at this
  · have := RN_step K hr
    rw [← hq]
    exact ⟨this.1, this.2.1⟩
  · have := RN_dn H K R (Nat.le_refl _)
    rwa [K.1] at this
  · show _ = nI (if C.getD 0 0 = 0 then 4 * sr (fun k => C.getD k 0) (npL P Q w i j).length 1 else 0)
    rw [← hlk, hcL]
  · show _ + (if C.getD 0 0 = 0 then 4 * sr (fun k => C.getD k 0) (npL P Q w i j).length 1 else 0) ≤ _
    rw [← hlk]
    omega
/-- numerator, denominator, how many, period of a norm -/
def upN (N A : Nat) : Nat := N / Nat.gcd N A
def dnN (N A : Nat) : Nat := A / Nat.gcd N A
theorem ud_n {N A : Nat} (hN : N ≤ 51200) (hA : 1 ≤ A ∧ A ≤ 640000) : dvL (nI N).toInt64 (gcL (nI N).toInt64 (lN A)) = lN (upN N A) ∧ dvL (lN A) (gcL (nI N).toInt64 (lN A)) = lN (dnN N A) ∧ upN N A ≤ 51200 ∧ 1 ≤ dnN N A ∧ dnN N A ≤ 640000 ∧ (upN N A = 0 ↔ N = 0) ∧ (N = 0 → dnN N A = 1) := by
  have g0 : 0 < Nat.gcd N A := Nat.gcd_pos_of_pos_right N (by omega)
  have gA : Nat.gcd N A ≤ A := Nat.gcd_le_right N (by omega)
  have d1 := Nat.div_le_self N (Nat.gcd N A)
  have d2 := Nat.div_le_self A (Nat.gcd N A)
  have d3 : 1 ≤ A / Nat.gcd N A := (Nat.one_le_div_iff g0).mpr gA
  unfold upN dnN
  rw [nI_toL (by omega), gcL_n (by omega) (by omega), dvL_n (by omega) (by omega), dvL_n (by omega) (by omega)]
  refine ⟨rfl, rfl, by omega, d3, by omega, ⟨fun e => ?_, fun e => by rw [e, Nat.zero_div]⟩, fun e => ?_⟩
  · have h1 := Nat.div_mul_cancel (Nat.gcd_dvd_left N A)
    rw [e, Nat.zero_mul] at h1
    exact h1.symm
  · rw [e, Nat.gcd_zero_left, Nat.div_self (by omega)]

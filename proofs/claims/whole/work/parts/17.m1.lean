set_option maxHeartbeats 4000000 in
set_option maxRecDepth 100000 in
theorem kX3_in (l : Launch) (X : XT) (v a0 b0 : Int32)  : KI l yX3_in wsX3_in ({ frames := 0, cells := 0, slots := 0, locals := 0 }) X [.int v, .int a0, .int b0] [] [] (bI (a0 ≤ v ∧ v ≤ b0)) := by
  refine k_ofI (cc := cX3_in) (own := RX3) (maxL := 3) (ret := (some .boolean)) (ls0 := [(0, .int v), (1, .int a0), (2, .int b0)]) (by decide) rfl rfl (Nat.le_of_ble_eq_true rfl) rfl ?_
  intro p e s m args below meth c A g C hr hlk
  refine s_iload_n C (pc := 0) dX3_in_0 rfl 0 rfl ?_
  refine s_iload_n C (pc := 1) dX3_in_1 rfl 1 rfl ?_
  refine s_icmp_lt C (pc := 2) (tgt := 14) dX3_in_2 (by decide) (fun c2 => ?_) (fun c2 => ?_)
  · skip
    refine s_iconst C (pc := 14) (v := 0) dX3_in_14 (by decide) ?_
    exact s_zret C (pc := 15) hr hlk [] (by decide) (rfl) rfl ((bI_neg (fun hh => (fun q => absurd c2 (Int32.not_lt.mpr q)) (hh.1))).symm) dX3_in_15
  · skip
    refine s_iload_n C (pc := 5) dX3_in_5 rfl 0 rfl ?_
    refine s_iload_n C (pc := 6) dX3_in_6 rfl 2 rfl ?_
    refine s_icmp_gt C (pc := 7) (tgt := 14) dX3_in_7 (by decide) (fun c7 => ?_) (fun c7 => ?_)
    · skip
      refine s_iconst C (pc := 14) (v := 0) dX3_in_14 (by decide) ?_
      exact s_zret C (pc := 15) hr hlk [] (by decide) (rfl) rfl ((bI_neg (fun hh => (fun q => absurd c7 (Int32.not_lt.mpr q)) (hh.2))).symm) dX3_in_15
    · skip
      refine s_iconst C (pc := 10) (v := 1) dX3_in_10 (by decide) ?_
      refine s_goto C (pc := 11) (tgt := 15) dX3_in_11 (by decide) ?_
      exact s_zret C (pc := 15) hr hlk [] (by decide) (rfl) rfl ((bI_pos ⟨Int32.not_lt.mp c2, Int32.not_lt.mp c7⟩).symm) dX3_in_15

set_option maxHeartbeats 4000000 in
set_option maxRecDepth 100000 in
theorem kX3_isPlate (l : Launch) (X : XT) (mo mp ms mt mq : Nat) (sts al : Int32) (wd : Int64) (wS wo fw : Int32) (M : Nat → Int32) (n : Nat) (P Q : Nat → Int32) (o f ll : Int32) (i : Int32) (hM : MR M n P Q o f ll) (hn : n ≤ 4) : KI l yX3_isPlate wsX3_isPlate ({ frames := 1, cells := 0, slots := 0, locals := 22 }) X [.ref mo, .int i] [(mo, .inr (3, [.ref mp, .ref ms, .ref mt, .int sts, .int al, .ref mq, .long wd, .int wS, .int wo, .int fw])), (mp, .inl (X.2.1, 12, .inl (M)))] [(mo, .inr (3, [.ref mp, .ref ms, .ref mt, .int sts, .int al, .ref mq, .long wd, .int wS, .int wo, .int fw])), (mp, .inl (X.2.1, 12, .inl (M)))] (bI (hv n i)) := by
  refine k_ofI (cc := cX3_isPlate) (own := RX3) (maxL := 2) (ret := (some .boolean)) (ls0 := [(0, .ref mo), (1, .int i)]) (by decide) rfl rfl (Nat.le_of_ble_eq_true rfl) rfl ?_
  intro p e s m args below meth c A g C hr hlk
  refine s_iload_n C (pc := 0) dX3_isPlate_0 rfl 1 rfl ?_
  refine s_iconst C (pc := 1) (v := 0) dX3_isPlate_1 (by decide) ?_
  refine s_aload_n C (pc := 2) dX3_isPlate_2 rfl 0 rfl ?_
  refine s_get C (pc := 3) (T := TX3) (N := 10) (fun _ h => (List.mem_cons_of_mem _ (List.mem_append_right _ h))) 0 rfl rfl 0 (by decide) (List.mem_of_getElem? (i := 1) rfl) rfl rfl dX3_isPlate_3 ?_
  refine s_iconst C (pc := 6) (v := 0) dX3_isPlate_6 (by decide) ?_
  refine s_iald C (pc := 7) 1 rfl 0 rfl (by decide) (by decide) dX3_isPlate_7 ?_
  refine s_top C (y := nI n) (hM.1) ?_
  refine s_iconst C (pc := 8) (v := 1) dX3_isPlate_8 (by decide) ?_
  refine s_isub C (pc := 9) dX3_isPlate_9 ?_
  refine s_calli C (pc := 10) (wr := [(mo, .inr (3, [.ref mp, .ref ms, .ref mt, .int sts, .int al, .ref mq, .long wd, .int wS, .int wo, .int fw])), (mp, .inl (X.2.1, 12, .inl (M)))]) (wc' := []) (wn := [(mo, .inr (3, [.ref mp, .ref ms, .ref mt, .int sts, .int al, .ref mq, .long wd, .int wS, .int wo, .int fw])), (mp, .inl (X.2.1, 12, .inl (M)))]) (r_S C (As := [.int i, .int 0, .int ((nI n) - 1)]) (rest := []) (kX3_in l X i 0 ((nI n) - 1) ) (va_cwS 3 C.ts gX3_isPlate_X3_in rfl rfl rfl (by decide +kernel) ⟨Nat.le_of_ble_eq_true rfl, Nat.le_of_ble_eq_true rfl⟩) [] (by decide) rfl rfl (Nat.le_of_ble_eq_true rfl) rfl dX3_isPlate_10 ⟨Nat.zero_le _, Nat.zero_le _⟩) [] [0, 1] [0, 1] rfl rfl (by decide) (by decide) (by decide) rfl ?_
  exact s_zret C (pc := 13) hr hlk [0, 1] (by decide) (rfl) (bI_nar _) (bI_iff (pl_iff hn i)) dX3_isPlate_13

set_option maxHeartbeats 4000000 in
set_option maxRecDepth 100000 in
theorem kX3_isPair (l : Launch) (X : XT) (mo mp ms mt mq : Nat) (sts al : Int32) (wd : Int64) (wS wo fw : Int32) (M : Nat → Int32) (n : Nat) (P Q : Nat → Int32) (o f ll : Int32) (i j : Int32) (hM : MR M n P Q o f ll) (hn : n ≤ 4) : KI l yX3_isPair wsX3_isPair ({ frames := 2, cells := 0, slots := 0, locals := 43 }) X [.ref mo, .int i, .int j] [(mo, .inr (3, [.ref mp, .ref ms, .ref mt, .int sts, .int al, .ref mq, .long wd, .int wS, .int wo, .int fw])), (mp, .inl (X.2.1, 12, .inl (M)))] [(mo, .inr (3, [.ref mp, .ref ms, .ref mt, .int sts, .int al, .ref mq, .long wd, .int wS, .int wo, .int fw])), (mp, .inl (X.2.1, 12, .inl (M)))] (bI (hpP n i j)) := by
  refine k_ofI (cc := cX3_isPair) (own := RX3) (maxL := 3) (ret := (some .boolean)) (ls0 := [(0, .ref mo), (1, .int i), (2, .int j)]) (by decide) rfl rfl (Nat.le_of_ble_eq_true rfl) rfl ?_
  intro p e s m args below meth c A g C hr hlk
  refine s_aload_n C (pc := 0) dX3_isPair_0 rfl 0 rfl ?_
  refine s_iload_n C (pc := 1) dX3_isPair_1 rfl 1 rfl ?_
  refine s_calli C (pc := 2) (wr := []) (wc' := [(mo, .inr (3, [.ref mp, .ref ms, .ref mt, .int sts, .int al, .ref mq, .long wd, .int wS, .int wo, .int fw])), (mp, .inl (X.2.1, 12, .inl (M)))]) (wn := [(mo, .inr (3, [.ref mp, .ref ms, .ref mt, .int sts, .int al, .ref mq, .long wd, .int wS, .int wo, .int fw])), (mp, .inl (X.2.1, 12, .inl (M)))]) (r_V C (As := [.int i]) (rest := []) (kX3_isPlate l X mo mp ms mt mq sts al wd wS wo fw M n P Q o f ll i (by first | assumption | omega | decide) (by first | assumption | omega | decide)) (cwV 1 C.ts gX3_isPair_X3_isPlate rfl rfl rfl (by decide +kernel) ⟨Nat.le_of_ble_eq_true rfl, Nat.le_of_ble_eq_true rfl⟩) (q0 := 0) rfl rfl [0, 1] (by decide) rfl rfl (Nat.le_of_ble_eq_true rfl) rfl dX3_isPair_2 ⟨Nat.zero_le _, Nat.zero_le _⟩) [0, 1] [] [0, 1] rfl rfl (by decide) (by decide) (by decide) rfl ?_
  refine s_bif_eq C (pc := 5) (tgt := 25) dX3_isPair_5 (by decide) (fun c5 => ?_) (fun c5 => ?_)
  · skip
    refine s_iconst C (pc := 25) (v := 0) dX3_isPair_25 (by decide) ?_
    exact s_zret C (pc := 26) hr hlk [0, 1] (by decide) (rfl) rfl ((bI_neg (fun hh => (c5) (hh.1))).symm) dX3_isPair_26
  · skip
    refine s_aload_n C (pc := 8) dX3_isPair_8 rfl 0 rfl ?_
    refine s_iload_n C (pc := 9) dX3_isPair_9 rfl 2 rfl ?_
    refine s_calli C (pc := 10) (wr := []) (wc' := [(mo, .inr (3, [.ref mp, .ref ms, .ref mt, .int sts, .int al, .ref mq, .long wd, .int wS, .int wo, .int fw])), (mp, .inl (X.2.1, 12, .inl (M)))]) (wn := [(mo, .inr (3, [.ref mp, .ref ms, .ref mt, .int sts, .int al, .ref mq, .long wd, .int wS, .int wo, .int fw])), (mp, .inl (X.2.1, 12, .inl (M)))]) (r_V C (As := [.int j]) (rest := []) (kX3_isPlate l X mo mp ms mt mq sts al wd wS wo fw M n P Q o f ll j (by first | assumption | omega | decide) (by first | assumption | omega | decide)) (cwV 1 C.ts gX3_isPair_X3_isPlate rfl rfl rfl (by decide +kernel) ⟨Nat.le_of_ble_eq_true rfl, Nat.le_of_ble_eq_true rfl⟩) (q0 := 0) rfl rfl [0, 1] (by decide) rfl rfl (Nat.le_of_ble_eq_true rfl) rfl dX3_isPair_10 ⟨Nat.zero_le _, Nat.zero_le _⟩) [0, 1] [] [0, 1] rfl rfl (by decide) (by decide) (by decide) rfl ?_
    refine s_bif_eq C (pc := 13) (tgt := 25) dX3_isPair_13 (by decide) (fun c13 => ?_) (fun c13 => ?_)
    · skip
      refine s_iconst C (pc := 25) (v := 0) dX3_isPair_25 (by decide) ?_
      exact s_zret C (pc := 26) hr hlk [0, 1] (by decide) (rfl) rfl ((bI_neg (fun hh => (c13) (hh.2.1))).symm) dX3_isPair_26
    · skip
      refine s_iload_n C (pc := 16) dX3_isPair_16 rfl 1 rfl ?_
      refine s_iload_n C (pc := 17) dX3_isPair_17 rfl 2 rfl ?_
      refine s_icmp_ge C (pc := 18) (tgt := 25) dX3_isPair_18 (by decide) (fun c18 => ?_) (fun c18 => ?_)
      · skip
        refine s_iconst C (pc := 25) (v := 0) dX3_isPair_25 (by decide) ?_
        exact s_zret C (pc := 26) hr hlk [0, 1] (by decide) (rfl) rfl ((bI_neg (fun hh => (fun q => absurd c18 (Int32.not_le.mpr q)) (hh.2.2))).symm) dX3_isPair_26
      · skip
        refine s_iconst C (pc := 21) (v := 1) dX3_isPair_21 (by decide) ?_
        refine s_goto C (pc := 22) (tgt := 26) dX3_isPair_22 (by decide) ?_
        exact s_zret C (pc := 26) hr hlk [0, 1] (by decide) (rfl) rfl ((bI_pos ⟨c5, c13, Int32.not_le.mp c18⟩).symm) dX3_isPair_26

set_option maxHeartbeats 4000000 in
set_option maxRecDepth 100000 in
theorem kX3_isVector (l : Launch) (X : XT) (x y : Int32)  : KI l yX3_isVector wsX3_isVector ({ frames := 1, cells := 0, slots := 0, locals := 22 }) X [.int x, .int y] [] [] (bI (1 ≤ x ∧ x ≤ 20 ∧ 0 ≤ y ∧ y ≤ 20)) := by
  refine k_ofI (cc := cX3_isVector) (own := RX3) (maxL := 2) (ret := (some .boolean)) (ls0 := [(0, .int x), (1, .int y)]) (by decide) rfl rfl (Nat.le_of_ble_eq_true rfl) rfl ?_
  intro p e s m args below meth c A g C hr hlk
  refine s_iload_n C (pc := 0) dX3_isVector_0 rfl 0 rfl ?_
  refine s_iconst C (pc := 1) (v := 1) dX3_isVector_1 (by decide) ?_
  refine s_bipush C (pc := 2) (v := 20) dX3_isVector_2 (by decide) ?_
  refine s_calli C (pc := 4) (wr := []) (wc' := []) (wn := []) (r_S C (As := [.int x, .int 1, .int 20]) (rest := []) (kX3_in l X x 1 20 ) (va_cwS 3 C.ts gX3_isVector_X3_in rfl rfl rfl (by decide +kernel) ⟨Nat.le_of_ble_eq_true rfl, Nat.le_of_ble_eq_true rfl⟩) [] (by decide) rfl rfl (Nat.le_of_ble_eq_true rfl) rfl dX3_isVector_4 ⟨Nat.zero_le _, Nat.zero_le _⟩) [] [] [] rfl rfl (by decide) (by decide) (by decide) rfl ?_
  refine s_bif_eq C (pc := 7) (tgt := 24) dX3_isVector_7 (by decide) (fun c7 => ?_) (fun c7 => ?_)
  · skip
    refine s_iconst C (pc := 24) (v := 0) dX3_isVector_24 (by decide) ?_
    exact s_zret C (pc := 25) hr hlk [] (by decide) (rfl) rfl ((bI_neg (fun hh => c7 ⟨hh.1, hh.2.1⟩)).symm) dX3_isVector_25
  · skip
    refine s_iload_n C (pc := 10) dX3_isVector_10 rfl 1 rfl ?_
    refine s_iconst C (pc := 11) (v := 0) dX3_isVector_11 (by decide) ?_
    refine s_bipush C (pc := 12) (v := 20) dX3_isVector_12 (by decide) ?_
    refine s_calli C (pc := 14) (wr := []) (wc' := []) (wn := []) (r_S C (As := [.int y, .int 0, .int 20]) (rest := []) (kX3_in l X y 0 20 ) (va_cwS 3 C.ts gX3_isVector_X3_in rfl rfl rfl (by decide +kernel) ⟨Nat.le_of_ble_eq_true rfl, Nat.le_of_ble_eq_true rfl⟩) [] (by decide) rfl rfl (Nat.le_of_ble_eq_true rfl) rfl dX3_isVector_14 ⟨Nat.zero_le _, Nat.zero_le _⟩) [] [] [] rfl rfl (by decide) (by decide) (by decide) rfl ?_
    refine s_bif_eq C (pc := 17) (tgt := 24) dX3_isVector_17 (by decide) (fun c17 => ?_) (fun c17 => ?_)
    · skip
      refine s_iconst C (pc := 24) (v := 0) dX3_isVector_24 (by decide) ?_
      exact s_zret C (pc := 25) hr hlk [] (by decide) (rfl) rfl ((bI_neg (fun hh => c17 hh.2.2)).symm) dX3_isVector_25
    · skip
      refine s_iconst C (pc := 20) (v := 1) dX3_isVector_20 (by decide) ?_
      refine s_goto C (pc := 21) (tgt := 25) dX3_isVector_21 (by decide) ?_
      exact s_zret C (pc := 25) hr hlk [] (by decide) (rfl) rfl ((bI_pos ⟨c7.1, c7.2, c17⟩).symm) dX3_isVector_25

set_option maxHeartbeats 4000000 in
set_option maxRecDepth 100000 in
theorem kX3_firstOf (l : Launch) (X : XT) (mo mp ms mt mq : Nat) (sts al : Int32) (wd : Int64) (wS wo fw : Int32) (M : Nat → Int32) (n : Nat) (P Q : Nat → Int32) (o f ll : Int32) (k : Nat) (hM : MR M n P Q o f ll) (hk : k < n) (hn : n ≤ 4) : KI l yX3_firstOf wsX3_firstOf ({ frames := 0, cells := 0, slots := 0, locals := 0 }) X [.ref mo, .int (nI k)] [(mo, .inr (3, [.ref mp, .ref ms, .ref mt, .int sts, .int al, .ref mq, .long wd, .int wS, .int wo, .int fw])), (mp, .inl (X.2.1, 12, .inl (M)))] [(mo, .inr (3, [.ref mp, .ref ms, .ref mt, .int sts, .int al, .ref mq, .long wd, .int wS, .int wo, .int fw])), (mp, .inl (X.2.1, 12, .inl (M)))] (P k) := by
  refine k_ofI (cc := cX3_firstOf) (own := RX3) (maxL := 2) (ret := (some .int)) (ls0 := [(0, .ref mo), (1, .int (nI k))]) (by decide) rfl rfl (Nat.le_of_ble_eq_true rfl) rfl ?_
  intro p e s m args below meth c A g C hr hlk
  refine s_aload_n C (pc := 0) dX3_firstOf_0 rfl 0 rfl ?_
  refine s_get C (pc := 1) (T := TX3) (N := 10) (fun _ h => (List.mem_cons_of_mem _ (List.mem_append_right _ h))) 0 rfl rfl 0 (by decide) (List.mem_of_getElem? (i := 1) rfl) rfl rfl dX3_firstOf_1 ?_
  refine s_iconst C (pc := 4) (v := 4) dX3_firstOf_4 (by decide) ?_
  refine s_iconst C (pc := 5) (v := 2) dX3_firstOf_5 (by decide) ?_
  refine s_iload_n C (pc := 6) dX3_firstOf_6 rfl 1 rfl ?_
  refine s_imul C (pc := 7) dX3_firstOf_7 ?_
  refine s_iadd C (pc := 8) dX3_firstOf_8 ?_
  refine s_iald C (pc := 9) 1 rfl (4 + 2 * k) (ix4 k) (by omega) (by decide) dX3_firstOf_9 ?_
  refine s_top C (y := P k) ((hM.2.2.2.2 k (by omega)).1) ?_
  exact s_iret C (pc := 10) hr hlk [0, 1] (by decide) (rfl) (rfl) dX3_firstOf_10

set_option maxHeartbeats 4000000 in
set_option maxRecDepth 100000 in
theorem kX3_secondOf (l : Launch) (X : XT) (mo mp ms mt mq : Nat) (sts al : Int32) (wd : Int64) (wS wo fw : Int32) (M : Nat → Int32) (n : Nat) (P Q : Nat → Int32) (o f ll : Int32) (k : Nat) (hM : MR M n P Q o f ll) (hk : k < n) (hn : n ≤ 4) : KI l yX3_secondOf wsX3_secondOf ({ frames := 0, cells := 0, slots := 0, locals := 0 }) X [.ref mo, .int (nI k)] [(mo, .inr (3, [.ref mp, .ref ms, .ref mt, .int sts, .int al, .ref mq, .long wd, .int wS, .int wo, .int fw])), (mp, .inl (X.2.1, 12, .inl (M)))] [(mo, .inr (3, [.ref mp, .ref ms, .ref mt, .int sts, .int al, .ref mq, .long wd, .int wS, .int wo, .int fw])), (mp, .inl (X.2.1, 12, .inl (M)))] (Q k) := by
  refine k_ofI (cc := cX3_secondOf) (own := RX3) (maxL := 2) (ret := (some .int)) (ls0 := [(0, .ref mo), (1, .int (nI k))]) (by decide) rfl rfl (Nat.le_of_ble_eq_true rfl) rfl ?_
  intro p e s m args below meth c A g C hr hlk
  refine s_aload_n C (pc := 0) dX3_secondOf_0 rfl 0 rfl ?_
  refine s_get C (pc := 1) (T := TX3) (N := 10) (fun _ h => (List.mem_cons_of_mem _ (List.mem_append_right _ h))) 0 rfl rfl 0 (by decide) (List.mem_of_getElem? (i := 1) rfl) rfl rfl dX3_secondOf_1 ?_
  refine s_iconst C (pc := 4) (v := 4) dX3_secondOf_4 (by decide) ?_
  refine s_iconst C (pc := 5) (v := 2) dX3_secondOf_5 (by decide) ?_
  refine s_iload_n C (pc := 6) dX3_secondOf_6 rfl 1 rfl ?_
  refine s_imul C (pc := 7) dX3_secondOf_7 ?_
  refine s_iadd C (pc := 8) dX3_secondOf_8 ?_
  refine s_iconst C (pc := 9) (v := 1) dX3_secondOf_9 (by decide) ?_
  refine s_iadd C (pc := 10) dX3_secondOf_10 ?_
  refine s_iald C (pc := 11) 1 rfl (4 + 2 * k + 1) (by rw [ix4, nI_1]) (by omega) (by decide) dX3_secondOf_11 ?_
  refine s_top C (y := Q k) ((hM.2.2.2.2 k (by omega)).2) ?_
  exact s_iret C (pc := 12) hr hlk [0, 1] (by decide) (rfl) (rfl) dX3_secondOf_12

set_option maxHeartbeats 4000000 in
set_option maxRecDepth 100000 in
theorem kX3_areaOf (l : Launch) (X : XT) (mo mp ms mt mq : Nat) (sts al : Int32) (wd : Int64) (wS wo fw : Int32) (M : Nat → Int32) (n : Nat) (P Q : Nat → Int32) (o f ll : Int32) (k : Nat) (hM : MR M n P Q o f ll) (hk : k < n) (hn : n ≤ 4) : KI l yX3_areaOf wsX3_areaOf ({ frames := 1, cells := 0, slots := 0, locals := 21 }) X [.ref mo, .int (nI k)] [(mo, .inr (3, [.ref mp, .ref ms, .ref mt, .int sts, .int al, .ref mq, .long wd, .int wS, .int wo, .int fw])), (mp, .inl (X.2.1, 12, .inl (M)))] [(mo, .inr (3, [.ref mp, .ref ms, .ref mt, .int sts, .int al, .ref mq, .long wd, .int wS, .int wo, .int fw])), (mp, .inl (X.2.1, 12, .inl (M)))] (ar P Q k) := by
  refine k_ofI (cc := cX3_areaOf) (own := RX3) (maxL := 2) (ret := (some .int)) (ls0 := [(0, .ref mo), (1, .int (nI k))]) (by decide) rfl rfl (Nat.le_of_ble_eq_true rfl) rfl ?_
  intro p e s m args below meth c A g C hr hlk
  refine s_aload_n C (pc := 0) dX3_areaOf_0 rfl 0 rfl ?_
  refine s_iload_n C (pc := 1) dX3_areaOf_1 rfl 1 rfl ?_
  refine s_calli C (pc := 2) (wr := []) (wc' := [(mo, .inr (3, [.ref mp, .ref ms, .ref mt, .int sts, .int al, .ref mq, .long wd, .int wS, .int wo, .int fw])), (mp, .inl (X.2.1, 12, .inl (M)))]) (wn := [(mo, .inr (3, [.ref mp, .ref ms, .ref mt, .int sts, .int al, .ref mq, .long wd, .int wS, .int wo, .int fw])), (mp, .inl (X.2.1, 12, .inl (M)))]) (r_V C (As := [.int (nI k)]) (rest := []) (kX3_firstOf l X mo mp ms mt mq sts al wd wS wo fw M n P Q o f ll k (by first | assumption | omega | decide) (by first | assumption | omega | decide) (by first | assumption | omega | decide)) (cwV 1 C.ts gX3_areaOf_X3_firstOf rfl rfl rfl (by decide +kernel) ⟨Nat.le_of_ble_eq_true rfl, Nat.le_of_ble_eq_true rfl⟩) (q0 := 0) rfl rfl [0, 1] (by decide) rfl rfl (Nat.le_of_ble_eq_true rfl) rfl dX3_areaOf_2 ⟨Nat.zero_le _, Nat.zero_le _⟩) [0, 1] [] [0, 1] rfl rfl (by decide) (by decide) (by decide) rfl ?_
  refine s_aload_n C (pc := 5) dX3_areaOf_5 rfl 0 rfl ?_
  refine s_iload_n C (pc := 6) dX3_areaOf_6 rfl 1 rfl ?_
  refine s_calli C (pc := 7) (wr := []) (wc' := [(mo, .inr (3, [.ref mp, .ref ms, .ref mt, .int sts, .int al, .ref mq, .long wd, .int wS, .int wo, .int fw])), (mp, .inl (X.2.1, 12, .inl (M)))]) (wn := [(mo, .inr (3, [.ref mp, .ref ms, .ref mt, .int sts, .int al, .ref mq, .long wd, .int wS, .int wo, .int fw])), (mp, .inl (X.2.1, 12, .inl (M)))]) (r_V C (As := [.int (nI k)]) (rest := [.int (P k)]) (kX3_firstOf l X mo mp ms mt mq sts al wd wS wo fw M n P Q o f ll k (by first | assumption | omega | decide) (by first | assumption | omega | decide) (by first | assumption | omega | decide)) (cwV 1 C.ts gX3_areaOf_X3_firstOf rfl rfl rfl (by decide +kernel) ⟨Nat.le_of_ble_eq_true rfl, Nat.le_of_ble_eq_true rfl⟩) (q0 := 0) rfl rfl [0, 1] (by decide) rfl rfl (Nat.le_of_ble_eq_true rfl) rfl dX3_areaOf_7 ⟨Nat.zero_le _, Nat.zero_le _⟩) [0, 1] [] [0, 1] rfl rfl (by decide) (by decide) (by decide) rfl ?_
  refine s_imul C (pc := 10) dX3_areaOf_10 ?_
  refine s_aload_n C (pc := 11) dX3_areaOf_11 rfl 0 rfl ?_
  refine s_iload_n C (pc := 12) dX3_areaOf_12 rfl 1 rfl ?_
  refine s_calli C (pc := 13) (wr := []) (wc' := [(mo, .inr (3, [.ref mp, .ref ms, .ref mt, .int sts, .int al, .ref mq, .long wd, .int wS, .int wo, .int fw])), (mp, .inl (X.2.1, 12, .inl (M)))]) (wn := [(mo, .inr (3, [.ref mp, .ref ms, .ref mt, .int sts, .int al, .ref mq, .long wd, .int wS, .int wo, .int fw])), (mp, .inl (X.2.1, 12, .inl (M)))]) (r_V C (As := [.int (nI k)]) (rest := [.int ((P k) * (P k))]) (kX3_secondOf l X mo mp ms mt mq sts al wd wS wo fw M n P Q o f ll k (by first | assumption | omega | decide) (by first | assumption | omega | decide) (by first | assumption | omega | decide)) (cwV 1 C.ts gX3_areaOf_X3_secondOf rfl rfl rfl (by decide +kernel) ⟨Nat.le_of_ble_eq_true rfl, Nat.le_of_ble_eq_true rfl⟩) (q0 := 0) rfl rfl [0, 1] (by decide) rfl rfl (Nat.le_of_ble_eq_true rfl) rfl dX3_areaOf_13 ⟨Nat.zero_le _, Nat.zero_le _⟩) [0, 1] [] [0, 1] rfl rfl (by decide) (by decide) (by decide) rfl ?_
  refine s_aload_n C (pc := 16) dX3_areaOf_16 rfl 0 rfl ?_
  refine s_iload_n C (pc := 17) dX3_areaOf_17 rfl 1 rfl ?_
  refine s_calli C (pc := 18) (wr := []) (wc' := [(mo, .inr (3, [.ref mp, .ref ms, .ref mt, .int sts, .int al, .ref mq, .long wd, .int wS, .int wo, .int fw])), (mp, .inl (X.2.1, 12, .inl (M)))]) (wn := [(mo, .inr (3, [.ref mp, .ref ms, .ref mt, .int sts, .int al, .ref mq, .long wd, .int wS, .int wo, .int fw])), (mp, .inl (X.2.1, 12, .inl (M)))]) (r_V C (As := [.int (nI k)]) (rest := [.int (Q k), .int ((P k) * (P k))]) (kX3_secondOf l X mo mp ms mt mq sts al wd wS wo fw M n P Q o f ll k (by first | assumption | omega | decide) (by first | assumption | omega | decide) (by first | assumption | omega | decide)) (cwV 1 C.ts gX3_areaOf_X3_secondOf rfl rfl rfl (by decide +kernel) ⟨Nat.le_of_ble_eq_true rfl, Nat.le_of_ble_eq_true rfl⟩) (q0 := 0) rfl rfl [0, 1] (by decide) rfl rfl (Nat.le_of_ble_eq_true rfl) rfl dX3_areaOf_18 ⟨Nat.zero_le _, Nat.zero_le _⟩) [0, 1] [] [0, 1] rfl rfl (by decide) (by decide) (by decide) rfl ?_
  refine s_imul C (pc := 21) dX3_areaOf_21 ?_
  refine s_iadd C (pc := 22) dX3_areaOf_22 ?_
  exact s_iret C (pc := 23) hr hlk [0, 1] (by decide) (rfl) (rfl) dX3_areaOf_23

set_option maxHeartbeats 4000000 in
set_option maxRecDepth 100000 in
theorem kX3_common (l : Launch) (X : XT) (x y : Int64) (hx : 0 ≤ x) (hy : 0 ≤ y) : KL l yX3_common wsX3_common ({ frames := 0, cells := 0, slots := 0, locals := 0 }) X [.long x, .long y] [] [] (gcM x y) := by
  refine k_ofL (cc := cX3_common) (own := RX3) (maxL := 10) (ret := (some .long)) (ls0 := [(0, .long x), (2, .long y)]) (by decide) rfl rfl (Nat.le_of_ble_eq_true rfl) rfl ?_
  intro p e s m args below meth c A g C hr hlk
  obtain ⟨x0, hx1, hx2, hx3⟩ := l_ex hx
  obtain ⟨y0, hy1, hy2, hy3⟩ := l_ex hy
  subst hx2
  subst hy2
  refine s_lload_n C (pc := 0) dX3_common_0 rfl 0 rfl ?_
  refine s_lstore C (pc := 1) (ls' := [(4, .long (lN x0)), (0, .long (lN x0)), (2, .long (lN y0))]) dX3_common_1 (by decide) rfl ?_
  refine s_lload_n C (pc := 3) dX3_common_3 rfl 2 rfl ?_
  refine s_lstore C (pc := 4) (ls' := [(6, .long (lN y0)), (4, .long (lN x0)), (0, .long (lN x0)), (2, .long (lN y0))]) dX3_common_4 (by decide) rfl ?_
  have L6 : ∀ (n_ : Nat) (a b : Nat), (a < 2 ^ 63) → (b < 2 ^ 63) → (lN (Nat.gcd a b) = gcM (lN x0) (lN y0)) → b < n_ → g [] 6 [(4, .long (lN a)), (6, .long (lN b))] [] := by
    intro n_
    induction n_ with
    | zero =>
      intro a b ha hb hI hf
      exact absurd hf (by omega)
    | succ n_ ih6 =>
      intro a b ha hb hI hf6
      refine s_lload C (pc := 6) dX3_common_6 1 rfl ?_
      refine s_lconst C (pc := 8) (v := 0) dX3_common_8 (by decide) ?_
      refine s_lcmp_eq C (pc := 9) (tgt := 31) dX3_common_9 dX3_common_10 (by decide) (fun c9 => ?_) (fun c9 => ?_)
      · skip
        have hb0 : b = 0 := by
          rcases Nat.eq_zero_or_pos b with e9 | e9
          · exact e9
          · exact absurd ((pk_lEQ hb (by decide)).mp (show lN b = lN 0 from c9)) (by omega)
        refine s_lload C (pc := 31) dX3_common_31 0 rfl ?_
        exact s_lret C (pc := 33) hr hlk [] (by decide) (rfl) ((by rw [← hI, hb0, Nat.gcd_zero_right])) dX3_common_33
      · skip
        have hpos : 0 < b := l_ne0 hb c9
        refine s_lload C (pc := 13) dX3_common_13 0 rfl ?_
        refine s_lload C (pc := 15) dX3_common_15 1 rfl ?_
        refine s_lrem C (pc := 17) dX3_common_17 c9 ?_
        refine s_topl C (y := lN (a % b)) (pk_lRem ha hpos hb) ?_
        refine s_lstore C (pc := 18) (ls' := [(8, .long (lN (a % b))), (4, .long (lN a)), (6, .long (lN b))]) dX3_common_18 (by decide) rfl ?_
        refine s_lload C (pc := 20) dX3_common_20 2 rfl ?_
        refine s_lstore C (pc := 22) (ls' := [(4, .long (lN b)), (8, .long (lN (a % b))), (6, .long (lN b))]) dX3_common_22 (by decide) rfl ?_
        refine s_lload C (pc := 24) dX3_common_24 1 rfl ?_
        refine s_lstore C (pc := 26) (ls' := [(6, .long (lN (a % b))), (4, .long (lN b)), (8, .long (lN (a % b)))]) dX3_common_26 (by decide) rfl ?_
        refine s_goto C (pc := 28) (tgt := 6) dX3_common_28 (by decide) ?_
        refine s_loc C (ls' := [(4, .long (lN b)), (6, .long (lN (a % b)))]) [1, 0] rfl ?_
        exact ih6 b (a % b) hb (by have h5 := Nat.mod_lt a hpos; omega) (by rw [Nat.gcd_comm b (a % b), ← Nat.gcd_rec, Nat.gcd_comm b a]; exact hI) (by have h5 := Nat.mod_lt a hpos; omega)
  refine s_loc C (ls' := [(4, .long (lN x0)), (6, .long (lN y0))]) [1, 0] rfl ?_
  exact L6 (y0 + 1) x0 y0 hx1 hy1 (by rw [gcM_eq, hx3, hy3]) (by omega)

set_option maxHeartbeats 4000000 in
set_option maxRecDepth 100000 in
theorem kX3_tileOf (l : Launch) (X : XT) (mo mp ms mt mq : Nat) (sts al : Int32) (wd : Int64) (wS wo fw : Int32) (M : Nat → Int32) (n : Nat) (P Q : Nat → Int32) (o f ll : Int32) (k : Nat) (hM : MR M n P Q o f ll) (hk : k < n) (hn : n ≤ 4) (hT : tlH P Q n) : KI l yX3_tileOf wsX3_tileOf ({ frames := 2, cells := 0, slots := 0, locals := 42 }) X [.ref mo, .int (nI k)] [(mo, .inr (3, [.ref mp, .ref ms, .ref mt, .int sts, .int al, .ref mq, .long wd, .int wS, .int wo, .int fw])), (mp, .inl (X.2.1, 12, .inl (M)))] [(mo, .inr (3, [.ref mp, .ref ms, .ref mt, .int sts, .int al, .ref mq, .long wd, .int wS, .int wo, .int fw])), (mp, .inl (X.2.1, 12, .inl (M)))] (tmL P Q k) := by
  refine k_ofI (cc := cX3_tileOf) (own := RX3) (maxL := 2) (ret := (some .int)) (ls0 := [(0, .ref mo), (1, .int (nI k))]) (by decide) rfl rfl (Nat.le_of_ble_eq_true rfl) rfl ?_
  intro p e s m args below meth c A g C hr hlk
  refine s_aload_n C (pc := 0) dX3_tileOf_0 rfl 0 rfl ?_
  refine s_iload_n C (pc := 1) dX3_tileOf_1 rfl 1 rfl ?_
  refine s_calli C (pc := 2) (wr := []) (wc' := [(mo, .inr (3, [.ref mp, .ref ms, .ref mt, .int sts, .int al, .ref mq, .long wd, .int wS, .int wo, .int fw])), (mp, .inl (X.2.1, 12, .inl (M)))]) (wn := [(mo, .inr (3, [.ref mp, .ref ms, .ref mt, .int sts, .int al, .ref mq, .long wd, .int wS, .int wo, .int fw])), (mp, .inl (X.2.1, 12, .inl (M)))]) (r_V C (As := [.int (nI k)]) (rest := []) (kX3_areaOf l X mo mp ms mt mq sts al wd wS wo fw M n P Q o f ll k (by first | assumption | omega | decide) (by first | assumption | omega | decide) (by first | assumption | omega | decide)) (cwV 1 C.ts gX3_tileOf_X3_areaOf rfl rfl rfl (by decide +kernel) ⟨Nat.le_of_ble_eq_true rfl, Nat.le_of_ble_eq_true rfl⟩) (q0 := 0) rfl rfl [0, 1] (by decide) rfl rfl (Nat.le_of_ble_eq_true rfl) rfl dX3_tileOf_2 ⟨Nat.zero_le _, Nat.zero_le _⟩) [0, 1] [] [0, 1] rfl rfl (by decide) (by decide) (by decide) rfl ?_
  refine s_aload_n C (pc := 5) dX3_tileOf_5 rfl 0 rfl ?_
  refine s_iload_n C (pc := 6) dX3_tileOf_6 rfl 1 rfl ?_
  refine s_calli C (pc := 7) (wr := []) (wc' := [(mo, .inr (3, [.ref mp, .ref ms, .ref mt, .int sts, .int al, .ref mq, .long wd, .int wS, .int wo, .int fw])), (mp, .inl (X.2.1, 12, .inl (M)))]) (wn := [(mo, .inr (3, [.ref mp, .ref ms, .ref mt, .int sts, .int al, .ref mq, .long wd, .int wS, .int wo, .int fw])), (mp, .inl (X.2.1, 12, .inl (M)))]) (r_V C (As := [.int (nI k)]) (rest := [.int (ar P Q k)]) (kX3_firstOf l X mo mp ms mt mq sts al wd wS wo fw M n P Q o f ll k (by first | assumption | omega | decide) (by first | assumption | omega | decide) (by first | assumption | omega | decide)) (cwV 1 C.ts gX3_tileOf_X3_firstOf rfl rfl rfl (by decide +kernel) ⟨Nat.le_of_ble_eq_true rfl, Nat.le_of_ble_eq_true rfl⟩) (q0 := 0) rfl rfl [0, 1] (by decide) rfl rfl (Nat.le_of_ble_eq_true rfl) rfl dX3_tileOf_7 ⟨Nat.zero_le _, Nat.zero_le _⟩) [0, 1] [] [0, 1] rfl rfl (by decide) (by decide) (by decide) rfl ?_
  refine s_i2l C (pc := 10) dX3_tileOf_10 ?_
  refine s_aload_n C (pc := 11) dX3_tileOf_11 rfl 0 rfl ?_
  refine s_iload_n C (pc := 12) dX3_tileOf_12 rfl 1 rfl ?_
  refine s_calli C (pc := 13) (wr := []) (wc' := [(mo, .inr (3, [.ref mp, .ref ms, .ref mt, .int sts, .int al, .ref mq, .long wd, .int wS, .int wo, .int fw])), (mp, .inl (X.2.1, 12, .inl (M)))]) (wn := [(mo, .inr (3, [.ref mp, .ref ms, .ref mt, .int sts, .int al, .ref mq, .long wd, .int wS, .int wo, .int fw])), (mp, .inl (X.2.1, 12, .inl (M)))]) (r_V C (As := [.int (nI k)]) (rest := [.long ((P k).toInt64), .int (ar P Q k)]) (kX3_secondOf l X mo mp ms mt mq sts al wd wS wo fw M n P Q o f ll k (by first | assumption | omega | decide) (by first | assumption | omega | decide) (by first | assumption | omega | decide)) (cwV 1 C.ts gX3_tileOf_X3_secondOf rfl rfl rfl (by decide +kernel) ⟨Nat.le_of_ble_eq_true rfl, Nat.le_of_ble_eq_true rfl⟩) (q0 := 0) rfl rfl [0, 1] (by decide) rfl rfl (Nat.le_of_ble_eq_true rfl) rfl dX3_tileOf_13 ⟨Nat.zero_le _, Nat.zero_le _⟩) [0, 1] [] [0, 1] rfl rfl (by decide) (by decide) (by decide) rfl ?_
  refine s_i2l C (pc := 16) dX3_tileOf_16 ?_
  refine s_calll C (pc := 17) (wr := [(mo, .inr (3, [.ref mp, .ref ms, .ref mt, .int sts, .int al, .ref mq, .long wd, .int wS, .int wo, .int fw])), (mp, .inl (X.2.1, 12, .inl (M)))]) (wc' := []) (wn := [(mo, .inr (3, [.ref mp, .ref ms, .ref mt, .int sts, .int al, .ref mq, .long wd, .int wS, .int wo, .int fw])), (mp, .inl (X.2.1, 12, .inl (M)))]) (r_S C (As := [.long ((P k).toInt64), .long ((Q k).toInt64)]) (rest := [.int (ar P Q k)]) (kX3_common l X ((P k).toInt64) ((Q k).toInt64) (hT k hk).1 (hT k hk).2.1) (va_cwS 2 C.ts gX3_tileOf_X3_common rfl rfl rfl (by decide +kernel) ⟨Nat.le_of_ble_eq_true rfl, Nat.le_of_ble_eq_true rfl⟩) [] (by decide) rfl rfl (Nat.le_of_ble_eq_true rfl) rfl dX3_tileOf_17 ⟨Nat.zero_le _, Nat.zero_le _⟩) [] [0, 1] [0, 1] rfl rfl (by decide) (by decide) (by decide) rfl ?_
  refine s_l2i C (pc := 20) dX3_tileOf_20 ?_
  refine s_idiv C (pc := 21) dX3_tileOf_21 (hT k hk).2.2 ?_
  exact s_iret C (pc := 22) hr hlk [0, 1] (by decide) (rfl) (rfl) dX3_tileOf_22

set_option maxHeartbeats 4000000 in
set_option maxRecDepth 100000 in
theorem kX3_cellP_bad (l : Launch) (X : XT) (mo mp ms mt mq : Nat) (sts al : Int32) (wd : Int64) (wS wo fw : Int32) (M : Nat → Int32) (n : Nat) (P Q : Nat → Int32) (o f ll : Int32) (i : Int32) (hb : ¬ hv n i) (hM : MR M n P Q o f ll) (hn : n ≤ 4) : KI l yX3_cellP wsX3_cellP ({ frames := 2, cells := 0, slots := 0, locals := 43 }) X [.ref mo, .int i] [(mo, .inr (3, [.ref mp, .ref ms, .ref mt, .int sts, .int al, .ref mq, .long wd, .int wS, .int wo, .int fw])), (mp, .inl (X.2.1, 12, .inl (M)))] [(mo, .inr (3, [.ref mp, .ref ms, .ref mt, .int sts, .int al, .ref mq, .long wd, .int wS, .int wo, .int fw])), (mp, .inl (X.2.1, 12, .inl (M)))] (-1) := by
  refine k_ofI (cc := cX3_cellP) (own := RX3) (maxL := 2) (ret := (some .int)) (ls0 := [(0, .ref mo), (1, .int i)]) (by decide) rfl rfl (Nat.le_of_ble_eq_true rfl) rfl ?_
  intro p e s m args below meth c A g C hr hlk
  refine s_aload_n C (pc := 0) dX3_cellP_0 rfl 0 rfl ?_
  refine s_iload_n C (pc := 1) dX3_cellP_1 rfl 1 rfl ?_
  refine s_calli C (pc := 2) (wr := []) (wc' := [(mo, .inr (3, [.ref mp, .ref ms, .ref mt, .int sts, .int al, .ref mq, .long wd, .int wS, .int wo, .int fw])), (mp, .inl (X.2.1, 12, .inl (M)))]) (wn := [(mo, .inr (3, [.ref mp, .ref ms, .ref mt, .int sts, .int al, .ref mq, .long wd, .int wS, .int wo, .int fw])), (mp, .inl (X.2.1, 12, .inl (M)))]) (r_V C (As := [.int i]) (rest := []) (kX3_isPlate l X mo mp ms mt mq sts al wd wS wo fw M n P Q o f ll i (by first | assumption | omega | decide) (by first | assumption | omega | decide)) (cwV 1 C.ts gX3_cellP_X3_isPlate rfl rfl rfl (by decide +kernel) ⟨Nat.le_of_ble_eq_true rfl, Nat.le_of_ble_eq_true rfl⟩) (q0 := 0) rfl rfl [0, 1] (by decide) rfl rfl (Nat.le_of_ble_eq_true rfl) rfl dX3_cellP_2 ⟨Nat.zero_le _, Nat.zero_le _⟩) [0, 1] [] [0, 1] rfl rfl (by decide) (by decide) (by decide) rfl ?_
  refine s_bif_eq C (pc := 5) (tgt := 16) dX3_cellP_5 (by decide) (fun c5 => ?_) (fun h => absurd h (hb))
  refine s_iconst C (pc := 16) (v := (-1)) dX3_cellP_16 (by decide) ?_
  exact s_iret C (pc := 17) hr hlk [0, 1] (by decide) (rfl) (rfl) dX3_cellP_17

set_option maxHeartbeats 4000000 in
set_option maxRecDepth 100000 in
theorem kX3_cellP_ok (l : Launch) (X : XT) (mo mp ms mt mq : Nat) (sts al : Int32) (wd : Int64) (wS wo fw : Int32) (M : Nat → Int32) (n : Nat) (P Q : Nat → Int32) (o f ll : Int32) (k : Nat) (hM : MR M n P Q o f ll) (hk : k < n) (hn : n ≤ 4) : KI l yX3_cellP wsX3_cellP ({ frames := 2, cells := 0, slots := 0, locals := 43 }) X [.ref mo, .int (nI k)] [(mo, .inr (3, [.ref mp, .ref ms, .ref mt, .int sts, .int al, .ref mq, .long wd, .int wS, .int wo, .int fw])), (mp, .inl (X.2.1, 12, .inl (M)))] [(mo, .inr (3, [.ref mp, .ref ms, .ref mt, .int sts, .int al, .ref mq, .long wd, .int wS, .int wo, .int fw])), (mp, .inl (X.2.1, 12, .inl (M)))] (P k) := by
  refine k_ofI (cc := cX3_cellP) (own := RX3) (maxL := 2) (ret := (some .int)) (ls0 := [(0, .ref mo), (1, .int (nI k))]) (by decide) rfl rfl (Nat.le_of_ble_eq_true rfl) rfl ?_
  intro p e s m args below meth c A g C hr hlk
  refine s_aload_n C (pc := 0) dX3_cellP_0 rfl 0 rfl ?_
  refine s_iload_n C (pc := 1) dX3_cellP_1 rfl 1 rfl ?_
  refine s_calli C (pc := 2) (wr := []) (wc' := [(mo, .inr (3, [.ref mp, .ref ms, .ref mt, .int sts, .int al, .ref mq, .long wd, .int wS, .int wo, .int fw])), (mp, .inl (X.2.1, 12, .inl (M)))]) (wn := [(mo, .inr (3, [.ref mp, .ref ms, .ref mt, .int sts, .int al, .ref mq, .long wd, .int wS, .int wo, .int fw])), (mp, .inl (X.2.1, 12, .inl (M)))]) (r_V C (As := [.int (nI k)]) (rest := []) (kX3_isPlate l X mo mp ms mt mq sts al wd wS wo fw M n P Q o f ll (nI k) (by first | assumption | omega | decide) (by first | assumption | omega | decide)) (cwV 1 C.ts gX3_cellP_X3_isPlate rfl rfl rfl (by decide +kernel) ⟨Nat.le_of_ble_eq_true rfl, Nat.le_of_ble_eq_true rfl⟩) (q0 := 0) rfl rfl [0, 1] (by decide) rfl rfl (Nat.le_of_ble_eq_true rfl) rfl dX3_cellP_2 ⟨Nat.zero_le _, Nat.zero_le _⟩) [0, 1] [] [0, 1] rfl rfl (by decide) (by decide) (by decide) rfl ?_
  refine s_bif_eq C (pc := 5) (tgt := 16) dX3_cellP_5 (by decide) (fun h => absurd (hv_of (by omega) (by omega)) h) (fun c5 => ?_)
  refine s_aload_n C (pc := 8) dX3_cellP_8 rfl 0 rfl ?_
  refine s_iload_n C (pc := 9) dX3_cellP_9 rfl 1 rfl ?_
  refine s_calli C (pc := 10) (wr := []) (wc' := [(mo, .inr (3, [.ref mp, .ref ms, .ref mt, .int sts, .int al, .ref mq, .long wd, .int wS, .int wo, .int fw])), (mp, .inl (X.2.1, 12, .inl (M)))]) (wn := [(mo, .inr (3, [.ref mp, .ref ms, .ref mt, .int sts, .int al, .ref mq, .long wd, .int wS, .int wo, .int fw])), (mp, .inl (X.2.1, 12, .inl (M)))]) (r_V C (As := [.int (nI k)]) (rest := []) (kX3_firstOf l X mo mp ms mt mq sts al wd wS wo fw M n P Q o f ll k (by first | assumption | omega | decide) (by first | assumption | omega | decide) (by first | assumption | omega | decide)) (cwV 1 C.ts gX3_cellP_X3_firstOf rfl rfl rfl (by decide +kernel) ⟨Nat.le_of_ble_eq_true rfl, Nat.le_of_ble_eq_true rfl⟩) (q0 := 0) rfl rfl [0, 1] (by decide) rfl rfl (Nat.le_of_ble_eq_true rfl) rfl dX3_cellP_10 ⟨Nat.zero_le _, Nat.zero_le _⟩) [0, 1] [] [0, 1] rfl rfl (by decide) (by decide) (by decide) rfl ?_
  refine s_goto C (pc := 13) (tgt := 17) dX3_cellP_13 (by decide) ?_
  exact s_iret C (pc := 17) hr hlk [0, 1] (by decide) (rfl) (rfl) dX3_cellP_17

set_option maxHeartbeats 4000000 in
set_option maxRecDepth 100000 in
theorem kX3_cellQ_bad (l : Launch) (X : XT) (mo mp ms mt mq : Nat) (sts al : Int32) (wd : Int64) (wS wo fw : Int32) (M : Nat → Int32) (n : Nat) (P Q : Nat → Int32) (o f ll : Int32) (i : Int32) (hb : ¬ hv n i) (hM : MR M n P Q o f ll) (hn : n ≤ 4) : KI l yX3_cellQ wsX3_cellQ ({ frames := 2, cells := 0, slots := 0, locals := 43 }) X [.ref mo, .int i] [(mo, .inr (3, [.ref mp, .ref ms, .ref mt, .int sts, .int al, .ref mq, .long wd, .int wS, .int wo, .int fw])), (mp, .inl (X.2.1, 12, .inl (M)))] [(mo, .inr (3, [.ref mp, .ref ms, .ref mt, .int sts, .int al, .ref mq, .long wd, .int wS, .int wo, .int fw])), (mp, .inl (X.2.1, 12, .inl (M)))] (-1) := by
  refine k_ofI (cc := cX3_cellQ) (own := RX3) (maxL := 2) (ret := (some .int)) (ls0 := [(0, .ref mo), (1, .int i)]) (by decide) rfl rfl (Nat.le_of_ble_eq_true rfl) rfl ?_
  intro p e s m args below meth c A g C hr hlk
  refine s_aload_n C (pc := 0) dX3_cellQ_0 rfl 0 rfl ?_
  refine s_iload_n C (pc := 1) dX3_cellQ_1 rfl 1 rfl ?_
  refine s_calli C (pc := 2) (wr := []) (wc' := [(mo, .inr (3, [.ref mp, .ref ms, .ref mt, .int sts, .int al, .ref mq, .long wd, .int wS, .int wo, .int fw])), (mp, .inl (X.2.1, 12, .inl (M)))]) (wn := [(mo, .inr (3, [.ref mp, .ref ms, .ref mt, .int sts, .int al, .ref mq, .long wd, .int wS, .int wo, .int fw])), (mp, .inl (X.2.1, 12, .inl (M)))]) (r_V C (As := [.int i]) (rest := []) (kX3_isPlate l X mo mp ms mt mq sts al wd wS wo fw M n P Q o f ll i (by first | assumption | omega | decide) (by first | assumption | omega | decide)) (cwV 1 C.ts gX3_cellQ_X3_isPlate rfl rfl rfl (by decide +kernel) ⟨Nat.le_of_ble_eq_true rfl, Nat.le_of_ble_eq_true rfl⟩) (q0 := 0) rfl rfl [0, 1] (by decide) rfl rfl (Nat.le_of_ble_eq_true rfl) rfl dX3_cellQ_2 ⟨Nat.zero_le _, Nat.zero_le _⟩) [0, 1] [] [0, 1] rfl rfl (by decide) (by decide) (by decide) rfl ?_
  refine s_bif_eq C (pc := 5) (tgt := 16) dX3_cellQ_5 (by decide) (fun c5 => ?_) (fun h => absurd h (hb))
  refine s_iconst C (pc := 16) (v := (-1)) dX3_cellQ_16 (by decide) ?_
  exact s_iret C (pc := 17) hr hlk [0, 1] (by decide) (rfl) (rfl) dX3_cellQ_17

set_option maxHeartbeats 4000000 in
set_option maxRecDepth 100000 in
theorem kX3_cellQ_ok (l : Launch) (X : XT) (mo mp ms mt mq : Nat) (sts al : Int32) (wd : Int64) (wS wo fw : Int32) (M : Nat → Int32) (n : Nat) (P Q : Nat → Int32) (o f ll : Int32) (k : Nat) (hM : MR M n P Q o f ll) (hk : k < n) (hn : n ≤ 4) : KI l yX3_cellQ wsX3_cellQ ({ frames := 2, cells := 0, slots := 0, locals := 43 }) X [.ref mo, .int (nI k)] [(mo, .inr (3, [.ref mp, .ref ms, .ref mt, .int sts, .int al, .ref mq, .long wd, .int wS, .int wo, .int fw])), (mp, .inl (X.2.1, 12, .inl (M)))] [(mo, .inr (3, [.ref mp, .ref ms, .ref mt, .int sts, .int al, .ref mq, .long wd, .int wS, .int wo, .int fw])), (mp, .inl (X.2.1, 12, .inl (M)))] (Q k) := by
  refine k_ofI (cc := cX3_cellQ) (own := RX3) (maxL := 2) (ret := (some .int)) (ls0 := [(0, .ref mo), (1, .int (nI k))]) (by decide) rfl rfl (Nat.le_of_ble_eq_true rfl) rfl ?_
  intro p e s m args below meth c A g C hr hlk
  refine s_aload_n C (pc := 0) dX3_cellQ_0 rfl 0 rfl ?_
  refine s_iload_n C (pc := 1) dX3_cellQ_1 rfl 1 rfl ?_
  refine s_calli C (pc := 2) (wr := []) (wc' := [(mo, .inr (3, [.ref mp, .ref ms, .ref mt, .int sts, .int al, .ref mq, .long wd, .int wS, .int wo, .int fw])), (mp, .inl (X.2.1, 12, .inl (M)))]) (wn := [(mo, .inr (3, [.ref mp, .ref ms, .ref mt, .int sts, .int al, .ref mq, .long wd, .int wS, .int wo, .int fw])), (mp, .inl (X.2.1, 12, .inl (M)))]) (r_V C (As := [.int (nI k)]) (rest := []) (kX3_isPlate l X mo mp ms mt mq sts al wd wS wo fw M n P Q o f ll (nI k) (by first | assumption | omega | decide) (by first | assumption | omega | decide)) (cwV 1 C.ts gX3_cellQ_X3_isPlate rfl rfl rfl (by decide +kernel) ⟨Nat.le_of_ble_eq_true rfl, Nat.le_of_ble_eq_true rfl⟩) (q0 := 0) rfl rfl [0, 1] (by decide) rfl rfl (Nat.le_of_ble_eq_true rfl) rfl dX3_cellQ_2 ⟨Nat.zero_le _, Nat.zero_le _⟩) [0, 1] [] [0, 1] rfl rfl (by decide) (by decide) (by decide) rfl ?_
  refine s_bif_eq C (pc := 5) (tgt := 16) dX3_cellQ_5 (by decide) (fun h => absurd (hv_of (by omega) (by omega)) h) (fun c5 => ?_)
  refine s_aload_n C (pc := 8) dX3_cellQ_8 rfl 0 rfl ?_
  refine s_iload_n C (pc := 9) dX3_cellQ_9 rfl 1 rfl ?_
  refine s_calli C (pc := 10) (wr := []) (wc' := [(mo, .inr (3, [.ref mp, .ref ms, .ref mt, .int sts, .int al, .ref mq, .long wd, .int wS, .int wo, .int fw])), (mp, .inl (X.2.1, 12, .inl (M)))]) (wn := [(mo, .inr (3, [.ref mp, .ref ms, .ref mt, .int sts, .int al, .ref mq, .long wd, .int wS, .int wo, .int fw])), (mp, .inl (X.2.1, 12, .inl (M)))]) (r_V C (As := [.int (nI k)]) (rest := []) (kX3_secondOf l X mo mp ms mt mq sts al wd wS wo fw M n P Q o f ll k (by first | assumption | omega | decide) (by first | assumption | omega | decide) (by first | assumption | omega | decide)) (cwV 1 C.ts gX3_cellQ_X3_secondOf rfl rfl rfl (by decide +kernel) ⟨Nat.le_of_ble_eq_true rfl, Nat.le_of_ble_eq_true rfl⟩) (q0 := 0) rfl rfl [0, 1] (by decide) rfl rfl (Nat.le_of_ble_eq_true rfl) rfl dX3_cellQ_10 ⟨Nat.zero_le _, Nat.zero_le _⟩) [0, 1] [] [0, 1] rfl rfl (by decide) (by decide) (by decide) rfl ?_
  refine s_goto C (pc := 13) (tgt := 17) dX3_cellQ_13 (by decide) ?_
  exact s_iret C (pc := 17) hr hlk [0, 1] (by decide) (rfl) (rfl) dX3_cellQ_17

set_option maxHeartbeats 4000000 in
set_option maxRecDepth 100000 in
theorem kX3_cellArea_bad (l : Launch) (X : XT) (mo mp ms mt mq : Nat) (sts al : Int32) (wd : Int64) (wS wo fw : Int32) (M : Nat → Int32) (n : Nat) (P Q : Nat → Int32) (o f ll : Int32) (i : Int32) (hb : ¬ hv n i) (hM : MR M n P Q o f ll) (hn : n ≤ 4) : KI l yX3_cellArea wsX3_cellArea ({ frames := 2, cells := 0, slots := 0, locals := 43 }) X [.ref mo, .int i] [(mo, .inr (3, [.ref mp, .ref ms, .ref mt, .int sts, .int al, .ref mq, .long wd, .int wS, .int wo, .int fw])), (mp, .inl (X.2.1, 12, .inl (M)))] [(mo, .inr (3, [.ref mp, .ref ms, .ref mt, .int sts, .int al, .ref mq, .long wd, .int wS, .int wo, .int fw])), (mp, .inl (X.2.1, 12, .inl (M)))] (-1) := by
  refine k_ofI (cc := cX3_cellArea) (own := RX3) (maxL := 2) (ret := (some .int)) (ls0 := [(0, .ref mo), (1, .int i)]) (by decide) rfl rfl (Nat.le_of_ble_eq_true rfl) rfl ?_
  intro p e s m args below meth c A g C hr hlk
  refine s_aload_n C (pc := 0) dX3_cellArea_0 rfl 0 rfl ?_
  refine s_iload_n C (pc := 1) dX3_cellArea_1 rfl 1 rfl ?_
  refine s_calli C (pc := 2) (wr := []) (wc' := [(mo, .inr (3, [.ref mp, .ref ms, .ref mt, .int sts, .int al, .ref mq, .long wd, .int wS, .int wo, .int fw])), (mp, .inl (X.2.1, 12, .inl (M)))]) (wn := [(mo, .inr (3, [.ref mp, .ref ms, .ref mt, .int sts, .int al, .ref mq, .long wd, .int wS, .int wo, .int fw])), (mp, .inl (X.2.1, 12, .inl (M)))]) (r_V C (As := [.int i]) (rest := []) (kX3_isPlate l X mo mp ms mt mq sts al wd wS wo fw M n P Q o f ll i (by first | assumption | omega | decide) (by first | assumption | omega | decide)) (cwV 1 C.ts gX3_cellArea_X3_isPlate rfl rfl rfl (by decide +kernel) ⟨Nat.le_of_ble_eq_true rfl, Nat.le_of_ble_eq_true rfl⟩) (q0 := 0) rfl rfl [0, 1] (by decide) rfl rfl (Nat.le_of_ble_eq_true rfl) rfl dX3_cellArea_2 ⟨Nat.zero_le _, Nat.zero_le _⟩) [0, 1] [] [0, 1] rfl rfl (by decide) (by decide) (by decide) rfl ?_
  refine s_bif_eq C (pc := 5) (tgt := 16) dX3_cellArea_5 (by decide) (fun c5 => ?_) (fun h => absurd h (hb))
  refine s_iconst C (pc := 16) (v := (-1)) dX3_cellArea_16 (by decide) ?_
  exact s_iret C (pc := 17) hr hlk [0, 1] (by decide) (rfl) (rfl) dX3_cellArea_17

set_option maxHeartbeats 4000000 in
set_option maxRecDepth 100000 in
theorem kX3_cellArea_ok (l : Launch) (X : XT) (mo mp ms mt mq : Nat) (sts al : Int32) (wd : Int64) (wS wo fw : Int32) (M : Nat → Int32) (n : Nat) (P Q : Nat → Int32) (o f ll : Int32) (k : Nat) (hM : MR M n P Q o f ll) (hk : k < n) (hn : n ≤ 4) : KI l yX3_cellArea wsX3_cellArea ({ frames := 2, cells := 0, slots := 0, locals := 43 }) X [.ref mo, .int (nI k)] [(mo, .inr (3, [.ref mp, .ref ms, .ref mt, .int sts, .int al, .ref mq, .long wd, .int wS, .int wo, .int fw])), (mp, .inl (X.2.1, 12, .inl (M)))] [(mo, .inr (3, [.ref mp, .ref ms, .ref mt, .int sts, .int al, .ref mq, .long wd, .int wS, .int wo, .int fw])), (mp, .inl (X.2.1, 12, .inl (M)))] (ar P Q k) := by
  refine k_ofI (cc := cX3_cellArea) (own := RX3) (maxL := 2) (ret := (some .int)) (ls0 := [(0, .ref mo), (1, .int (nI k))]) (by decide) rfl rfl (Nat.le_of_ble_eq_true rfl) rfl ?_
  intro p e s m args below meth c A g C hr hlk
  refine s_aload_n C (pc := 0) dX3_cellArea_0 rfl 0 rfl ?_
  refine s_iload_n C (pc := 1) dX3_cellArea_1 rfl 1 rfl ?_
  refine s_calli C (pc := 2) (wr := []) (wc' := [(mo, .inr (3, [.ref mp, .ref ms, .ref mt, .int sts, .int al, .ref mq, .long wd, .int wS, .int wo, .int fw])), (mp, .inl (X.2.1, 12, .inl (M)))]) (wn := [(mo, .inr (3, [.ref mp, .ref ms, .ref mt, .int sts, .int al, .ref mq, .long wd, .int wS, .int wo, .int fw])), (mp, .inl (X.2.1, 12, .inl (M)))]) (r_V C (As := [.int (nI k)]) (rest := []) (kX3_isPlate l X mo mp ms mt mq sts al wd wS wo fw M n P Q o f ll (nI k) (by first | assumption | omega | decide) (by first | assumption | omega | decide)) (cwV 1 C.ts gX3_cellArea_X3_isPlate rfl rfl rfl (by decide +kernel) ⟨Nat.le_of_ble_eq_true rfl, Nat.le_of_ble_eq_true rfl⟩) (q0 := 0) rfl rfl [0, 1] (by decide) rfl rfl (Nat.le_of_ble_eq_true rfl) rfl dX3_cellArea_2 ⟨Nat.zero_le _, Nat.zero_le _⟩) [0, 1] [] [0, 1] rfl rfl (by decide) (by decide) (by decide) rfl ?_
  refine s_bif_eq C (pc := 5) (tgt := 16) dX3_cellArea_5 (by decide) (fun h => absurd (hv_of (by omega) (by omega)) h) (fun c5 => ?_)
  refine s_aload_n C (pc := 8) dX3_cellArea_8 rfl 0 rfl ?_
  refine s_iload_n C (pc := 9) dX3_cellArea_9 rfl 1 rfl ?_
  refine s_calli C (pc := 10) (wr := []) (wc' := [(mo, .inr (3, [.ref mp, .ref ms, .ref mt, .int sts, .int al, .ref mq, .long wd, .int wS, .int wo, .int fw])), (mp, .inl (X.2.1, 12, .inl (M)))]) (wn := [(mo, .inr (3, [.ref mp, .ref ms, .ref mt, .int sts, .int al, .ref mq, .long wd, .int wS, .int wo, .int fw])), (mp, .inl (X.2.1, 12, .inl (M)))]) (r_V C (As := [.int (nI k)]) (rest := []) (kX3_areaOf l X mo mp ms mt mq sts al wd wS wo fw M n P Q o f ll k (by first | assumption | omega | decide) (by first | assumption | omega | decide) (by first | assumption | omega | decide)) (cwV 1 C.ts gX3_cellArea_X3_areaOf rfl rfl rfl (by decide +kernel) ⟨Nat.le_of_ble_eq_true rfl, Nat.le_of_ble_eq_true rfl⟩) (q0 := 0) rfl rfl [0, 1] (by decide) rfl rfl (Nat.le_of_ble_eq_true rfl) rfl dX3_cellArea_10 ⟨Nat.zero_le _, Nat.zero_le _⟩) [0, 1] [] [0, 1] rfl rfl (by decide) (by decide) (by decide) rfl ?_
  refine s_goto C (pc := 13) (tgt := 17) dX3_cellArea_13 (by decide) ?_
  exact s_iret C (pc := 17) hr hlk [0, 1] (by decide) (rfl) (rfl) dX3_cellArea_17

set_option maxHeartbeats 4000000 in
set_option maxRecDepth 100000 in
theorem kX3_tile_bad (l : Launch) (X : XT) (mo mp ms mt mq : Nat) (sts al : Int32) (wd : Int64) (wS wo fw : Int32) (M : Nat → Int32) (n : Nat) (P Q : Nat → Int32) (o f ll : Int32) (i : Int32) (hb : ¬ hv n i) (hM : MR M n P Q o f ll) (hn : n ≤ 4) : KI l yX3_tile wsX3_tile ({ frames := 2, cells := 0, slots := 0, locals := 43 }) X [.ref mo, .int i] [(mo, .inr (3, [.ref mp, .ref ms, .ref mt, .int sts, .int al, .ref mq, .long wd, .int wS, .int wo, .int fw])), (mp, .inl (X.2.1, 12, .inl (M)))] [(mo, .inr (3, [.ref mp, .ref ms, .ref mt, .int sts, .int al, .ref mq, .long wd, .int wS, .int wo, .int fw])), (mp, .inl (X.2.1, 12, .inl (M)))] (-1) := by
  refine k_ofI (cc := cX3_tile) (own := RX3) (maxL := 2) (ret := (some .int)) (ls0 := [(0, .ref mo), (1, .int i)]) (by decide) rfl rfl (Nat.le_of_ble_eq_true rfl) rfl ?_
  intro p e s m args below meth c A g C hr hlk
  refine s_aload_n C (pc := 0) dX3_tile_0 rfl 0 rfl ?_
  refine s_iload_n C (pc := 1) dX3_tile_1 rfl 1 rfl ?_
  refine s_calli C (pc := 2) (wr := []) (wc' := [(mo, .inr (3, [.ref mp, .ref ms, .ref mt, .int sts, .int al, .ref mq, .long wd, .int wS, .int wo, .int fw])), (mp, .inl (X.2.1, 12, .inl (M)))]) (wn := [(mo, .inr (3, [.ref mp, .ref ms, .ref mt, .int sts, .int al, .ref mq, .long wd, .int wS, .int wo, .int fw])), (mp, .inl (X.2.1, 12, .inl (M)))]) (r_V C (As := [.int i]) (rest := []) (kX3_isPlate l X mo mp ms mt mq sts al wd wS wo fw M n P Q o f ll i (by first | assumption | omega | decide) (by first | assumption | omega | decide)) (cwV 1 C.ts gX3_tile_X3_isPlate rfl rfl rfl (by decide +kernel) ⟨Nat.le_of_ble_eq_true rfl, Nat.le_of_ble_eq_true rfl⟩) (q0 := 0) rfl rfl [0, 1] (by decide) rfl rfl (Nat.le_of_ble_eq_true rfl) rfl dX3_tile_2 ⟨Nat.zero_le _, Nat.zero_le _⟩) [0, 1] [] [0, 1] rfl rfl (by decide) (by decide) (by decide) rfl ?_
  refine s_bif_eq C (pc := 5) (tgt := 16) dX3_tile_5 (by decide) (fun c5 => ?_) (fun h => absurd h (hb))
  refine s_iconst C (pc := 16) (v := (-1)) dX3_tile_16 (by decide) ?_
  exact s_iret C (pc := 17) hr hlk [0, 1] (by decide) (rfl) (rfl) dX3_tile_17

set_option maxHeartbeats 4000000 in
set_option maxRecDepth 100000 in
theorem kX3_tile_ok (l : Launch) (X : XT) (mo mp ms mt mq : Nat) (sts al : Int32) (wd : Int64) (wS wo fw : Int32) (M : Nat → Int32) (n : Nat) (P Q : Nat → Int32) (o f ll : Int32) (k : Nat) (hM : MR M n P Q o f ll) (hk : k < n) (hn : n ≤ 4) (hT : tlH P Q n) : KI l yX3_tile wsX3_tile ({ frames := 3, cells := 0, slots := 0, locals := 63 }) X [.ref mo, .int (nI k)] [(mo, .inr (3, [.ref mp, .ref ms, .ref mt, .int sts, .int al, .ref mq, .long wd, .int wS, .int wo, .int fw])), (mp, .inl (X.2.1, 12, .inl (M)))] [(mo, .inr (3, [.ref mp, .ref ms, .ref mt, .int sts, .int al, .ref mq, .long wd, .int wS, .int wo, .int fw])), (mp, .inl (X.2.1, 12, .inl (M)))] (tmL P Q k) := by
  refine k_ofI (cc := cX3_tile) (own := RX3) (maxL := 2) (ret := (some .int)) (ls0 := [(0, .ref mo), (1, .int (nI k))]) (by decide) rfl rfl (Nat.le_of_ble_eq_true rfl) rfl ?_
  intro p e s m args below meth c A g C hr hlk
  refine s_aload_n C (pc := 0) dX3_tile_0 rfl 0 rfl ?_
  refine s_iload_n C (pc := 1) dX3_tile_1 rfl 1 rfl ?_
  refine s_calli C (pc := 2) (wr := []) (wc' := [(mo, .inr (3, [.ref mp, .ref ms, .ref mt, .int sts, .int al, .ref mq, .long wd, .int wS, .int wo, .int fw])), (mp, .inl (X.2.1, 12, .inl (M)))]) (wn := [(mo, .inr (3, [.ref mp, .ref ms, .ref mt, .int sts, .int al, .ref mq, .long wd, .int wS, .int wo, .int fw])), (mp, .inl (X.2.1, 12, .inl (M)))]) (r_V C (As := [.int (nI k)]) (rest := []) (kX3_isPlate l X mo mp ms mt mq sts al wd wS wo fw M n P Q o f ll (nI k) (by first | assumption | omega | decide) (by first | assumption | omega | decide)) (cwV 1 C.ts gX3_tile_X3_isPlate rfl rfl rfl (by decide +kernel) ⟨Nat.le_of_ble_eq_true rfl, Nat.le_of_ble_eq_true rfl⟩) (q0 := 0) rfl rfl [0, 1] (by decide) rfl rfl (Nat.le_of_ble_eq_true rfl) rfl dX3_tile_2 ⟨Nat.zero_le _, Nat.zero_le _⟩) [0, 1] [] [0, 1] rfl rfl (by decide) (by decide) (by decide) rfl ?_
  refine s_bif_eq C (pc := 5) (tgt := 16) dX3_tile_5 (by decide) (fun h => absurd (hv_of (by omega) (by omega)) h) (fun c5 => ?_)
  refine s_aload_n C (pc := 8) dX3_tile_8 rfl 0 rfl ?_
  refine s_iload_n C (pc := 9) dX3_tile_9 rfl 1 rfl ?_
  refine s_calli C (pc := 10) (wr := []) (wc' := [(mo, .inr (3, [.ref mp, .ref ms, .ref mt, .int sts, .int al, .ref mq, .long wd, .int wS, .int wo, .int fw])), (mp, .inl (X.2.1, 12, .inl (M)))]) (wn := [(mo, .inr (3, [.ref mp, .ref ms, .ref mt, .int sts, .int al, .ref mq, .long wd, .int wS, .int wo, .int fw])), (mp, .inl (X.2.1, 12, .inl (M)))]) (r_V C (As := [.int (nI k)]) (rest := []) (kX3_tileOf l X mo mp ms mt mq sts al wd wS wo fw M n P Q o f ll k (by first | assumption | omega | decide) (by first | assumption | omega | decide) (by first | assumption | omega | decide) (by first | assumption | omega | decide)) (cwV 1 C.ts gX3_tile_X3_tileOf rfl rfl rfl (by decide +kernel) ⟨Nat.le_of_ble_eq_true rfl, Nat.le_of_ble_eq_true rfl⟩) (q0 := 0) rfl rfl [0, 1] (by decide) rfl rfl (Nat.le_of_ble_eq_true rfl) rfl dX3_tile_10 ⟨Nat.zero_le _, Nat.zero_le _⟩) [0, 1] [] [0, 1] rfl rfl (by decide) (by decide) (by decide) rfl ?_
  refine s_goto C (pc := 13) (tgt := 17) dX3_tile_13 (by decide) ?_
  exact s_iret C (pc := 17) hr hlk [0, 1] (by decide) (rfl) (rfl) dX3_tile_17

set_option maxHeartbeats 4000000 in
set_option maxRecDepth 100000 in
theorem kX3_plateCount (l : Launch) (X : XT) (mo mp ms mt mq : Nat) (sts al : Int32) (wd : Int64) (wS wo fw : Int32) (M : Nat → Int32) (n : Nat) (P Q : Nat → Int32) (o f ll : Int32) (hM : MR M n P Q o f ll) : KI l yX3_plateCount wsX3_plateCount ({ frames := 0, cells := 0, slots := 0, locals := 0 }) X [.ref mo] [(mo, .inr (3, [.ref mp, .ref ms, .ref mt, .int sts, .int al, .ref mq, .long wd, .int wS, .int wo, .int fw])), (mp, .inl (X.2.1, 12, .inl (M)))] [(mo, .inr (3, [.ref mp, .ref ms, .ref mt, .int sts, .int al, .ref mq, .long wd, .int wS, .int wo, .int fw])), (mp, .inl (X.2.1, 12, .inl (M)))] (nI n) := by
  refine k_ofI (cc := cX3_plateCount) (own := RX3) (maxL := 1) (ret := (some .int)) (ls0 := [(0, .ref mo)]) (by decide) rfl rfl (Nat.le_of_ble_eq_true rfl) rfl ?_
  intro p e s m args below meth c A g C hr hlk
  refine s_aload_n C (pc := 0) dX3_plateCount_0 rfl 0 rfl ?_
  refine s_get C (pc := 1) (T := TX3) (N := 10) (fun _ h => (List.mem_cons_of_mem _ (List.mem_append_right _ h))) 0 rfl rfl 0 (by decide) (List.mem_of_getElem? (i := 1) rfl) rfl rfl dX3_plateCount_1 ?_
  refine s_iconst C (pc := 4) (v := 0) dX3_plateCount_4 (by decide) ?_
  refine s_iald C (pc := 5) 1 rfl 0 rfl (by decide) (by decide) dX3_plateCount_5 ?_
  refine s_top C (y := nI n) (hM.1) ?_
  exact s_iret C (pc := 6) hr hlk [0, 1] (by decide) (rfl) (rfl) dX3_plateCount_6

set_option maxHeartbeats 4000000 in
set_option maxRecDepth 100000 in
theorem kX3_longLimit (l : Launch) (X : XT) (mo mp ms mt mq : Nat) (sts al : Int32) (wd : Int64) (wS wo fw : Int32) (M : Nat → Int32) (n : Nat) (P Q : Nat → Int32) (o f ll : Int32) (hM : MR M n P Q o f ll) : KI l yX3_longLimit wsX3_longLimit ({ frames := 0, cells := 0, slots := 0, locals := 0 }) X [.ref mo] [(mo, .inr (3, [.ref mp, .ref ms, .ref mt, .int sts, .int al, .ref mq, .long wd, .int wS, .int wo, .int fw])), (mp, .inl (X.2.1, 12, .inl (M)))] [(mo, .inr (3, [.ref mp, .ref ms, .ref mt, .int sts, .int al, .ref mq, .long wd, .int wS, .int wo, .int fw])), (mp, .inl (X.2.1, 12, .inl (M)))] (ll) := by
  refine k_ofI (cc := cX3_longLimit) (own := RX3) (maxL := 1) (ret := (some .int)) (ls0 := [(0, .ref mo)]) (by decide) rfl rfl (Nat.le_of_ble_eq_true rfl) rfl ?_
  intro p e s m args below meth c A g C hr hlk
  refine s_aload_n C (pc := 0) dX3_longLimit_0 rfl 0 rfl ?_
  refine s_get C (pc := 1) (T := TX3) (N := 10) (fun _ h => (List.mem_cons_of_mem _ (List.mem_append_right _ h))) 0 rfl rfl 0 (by decide) (List.mem_of_getElem? (i := 1) rfl) rfl rfl dX3_longLimit_1 ?_
  refine s_iconst C (pc := 4) (v := 3) dX3_longLimit_4 (by decide) ?_
  refine s_iald C (pc := 5) 1 rfl 3 rfl (by decide) (by decide) dX3_longLimit_5 ?_
  refine s_top C (y := ll) (hM.2.2.2.1) ?_
  exact s_iret C (pc := 6) hr hlk [0, 1] (by decide) (rfl) (rfl) dX3_longLimit_6

set_option maxHeartbeats 4000000 in
set_option maxRecDepth 100000 in
theorem kX3_historySize (l : Launch) (X : XT) (mo mp ms mt mq : Nat) (sts al : Int32) (wd : Int64) (wS wo fw : Int32) (M : Nat → Int32) (n : Nat) (P Q : Nat → Int32) (o f ll : Int32)  : KI l yX3_historySize wsX3_historySize ({ frames := 0, cells := 0, slots := 0, locals := 0 }) X [.ref mo] [(mo, .inr (3, [.ref mp, .ref ms, .ref mt, .int sts, .int al, .ref mq, .long wd, .int wS, .int wo, .int fw])), (mp, .inl (X.2.1, 12, .inl (M)))] [(mo, .inr (3, [.ref mp, .ref ms, .ref mt, .int sts, .int al, .ref mq, .long wd, .int wS, .int wo, .int fw])), (mp, .inl (X.2.1, 12, .inl (M)))] (sts) := by
  refine k_ofI (cc := cX3_historySize) (own := RX3) (maxL := 1) (ret := (some .int)) (ls0 := [(0, .ref mo)]) (by decide) rfl rfl (Nat.le_of_ble_eq_true rfl) rfl ?_
  intro p e s m args below meth c A g C hr hlk
  refine s_aload_n C (pc := 0) dX3_historySize_0 rfl 0 rfl ?_
  refine s_get C (pc := 1) (T := TX3) (N := 10) (fun _ h => (List.mem_cons_of_mem _ (List.mem_append_right _ h))) 0 rfl rfl 3 (by decide) (List.mem_of_getElem? (i := 1) rfl) rfl rfl dX3_historySize_1 ?_
  exact s_iret C (pc := 4) hr hlk [0, 1] (by decide) (rfl) (rfl) dX3_historySize_4

set_option maxHeartbeats 4000000 in
set_option maxRecDepth 100000 in
theorem kX3_commonTile (l : Launch) (X : XT) (mo mp ms mt mq : Nat) (sts al : Int32) (wd : Int64) (wS wo fw : Int32) (M : Nat → Int32) (n : Nat) (P Q : Nat → Int32) (o f ll : Int32) (hM : MR M n P Q o f ll) (hn : n ≤ 4) (hT : tlH P Q n) (hC : cmH P Q n) : KL l yX3_commonTile wsX3_commonTile ({ frames := 3, cells := 0, slots := 0, locals := 63 }) X [.ref mo] [(mo, .inr (3, [.ref mp, .ref ms, .ref mt, .int sts, .int al, .ref mq, .long wd, .int wS, .int wo, .int fw])), (mp, .inl (X.2.1, 12, .inl (M)))] [(mo, .inr (3, [.ref mp, .ref ms, .ref mt, .int sts, .int al, .ref mq, .long wd, .int wS, .int wo, .int fw])), (mp, .inl (X.2.1, 12, .inl (M)))] (cmF P Q n) := by
  refine k_ofL (cc := cX3_commonTile) (own := RX3) (maxL := 4) (ret := (some .long)) (ls0 := [(0, .ref mo)]) (by decide) rfl rfl (Nat.le_of_ble_eq_true rfl) rfl ?_
  intro p e s m args below meth c A g C hr hlk
  refine s_lconst C (pc := 0) (v := 1) dX3_commonTile_0 (by decide) ?_
  refine s_lstore_n C (pc := 1) (ls' := [(1, .long 1), (0, .ref mo)]) dX3_commonTile_1 rfl (by decide) rfl ?_
  refine s_iconst C (pc := 2) (v := 0) dX3_commonTile_2 (by decide) ?_
  refine s_istore_n C (pc := 3) (ls' := [(3, .int 0), (1, .long 1), (0, .ref mo)]) dX3_commonTile_3 rfl (by decide) rfl ?_
  have L4 : ∀ (n_ : Nat) (k : Nat), (k ≤ n) → n + 1 ≤ k + n_ → g [(mo, .inr (3, [.ref mp, .ref ms, .ref mt, .int sts, .int al, .ref mq, .long wd, .int wS, .int wo, .int fw])), (mp, .inl (X.2.1, 12, .inl (M)))] 4 [(0, .ref mo), (1, .long (cmF P Q k)), (3, .int (nI k))] [] := by
    intro n_
    induction n_ with
    | zero =>
      intro k hk hf
      exact absurd hf (by omega)
    | succ n_ ih4 =>
      intro k hk hf4
      refine s_iload_n C (pc := 4) dX3_commonTile_4 rfl 2 rfl ?_
      refine s_aload_n C (pc := 5) dX3_commonTile_5 rfl 0 rfl ?_
      refine s_get C (pc := 6) (T := TX3) (N := 10) (fun _ h => (List.mem_cons_of_mem _ (List.mem_append_right _ h))) 0 rfl rfl 0 (by decide) (List.mem_of_getElem? (i := 1) rfl) rfl rfl dX3_commonTile_6 ?_
      refine s_iconst C (pc := 9) (v := 0) dX3_commonTile_9 (by decide) ?_
      refine s_iald C (pc := 10) 1 rfl 0 rfl (by decide) (by decide) dX3_commonTile_10 ?_
      refine s_top C (y := nI n) (hM.1) ?_
      refine s_icmp_ge C (pc := 11) (tgt := 40) dX3_commonTile_11 (by decide) (fun c11 => ?_) (fun c11 => ?_)
      · skip
        have e11 := nat_le (a := n) (b := k) (by omega) (by omega) c11
        have hs0 : n = k := by omega
        subst hs0
        refine s_lload_n C (pc := 40) dX3_commonTile_40 rfl 1 rfl ?_
        exact s_lret C (pc := 41) hr hlk [0, 1] (by decide) (rfl) (rfl) dX3_commonTile_41
      · skip
        have e11 := nat_nle (a := n) (b := k) (by omega) (by omega) c11
        refine s_lload_n C (pc := 14) dX3_commonTile_14 rfl 1 rfl ?_
        refine s_lload_n C (pc := 15) dX3_commonTile_15 rfl 1 rfl ?_
        refine s_aload_n C (pc := 16) dX3_commonTile_16 rfl 0 rfl ?_
        refine s_iload_n C (pc := 17) dX3_commonTile_17 rfl 2 rfl ?_
        refine s_calli C (pc := 18) (wr := []) (wc' := [(mo, .inr (3, [.ref mp, .ref ms, .ref mt, .int sts, .int al, .ref mq, .long wd, .int wS, .int wo, .int fw])), (mp, .inl (X.2.1, 12, .inl (M)))]) (wn := [(mo, .inr (3, [.ref mp, .ref ms, .ref mt, .int sts, .int al, .ref mq, .long wd, .int wS, .int wo, .int fw])), (mp, .inl (X.2.1, 12, .inl (M)))]) (r_V C (As := [.int (nI k)]) (rest := [.long (cmF P Q k), .long (cmF P Q k)]) (kX3_tileOf l X mo mp ms mt mq sts al wd wS wo fw M n P Q o f ll k (by first | assumption | omega | decide) (by first | assumption | omega | decide) (by first | assumption | omega | decide) (by first | assumption | omega | decide)) (cwV 1 C.ts gX3_commonTile_X3_tileOf rfl rfl rfl (by decide +kernel) ⟨Nat.le_of_ble_eq_true rfl, Nat.le_of_ble_eq_true rfl⟩) (q0 := 0) rfl rfl [0, 1] (by decide) rfl rfl (Nat.le_of_ble_eq_true rfl) rfl dX3_commonTile_18 ⟨Nat.zero_le _, Nat.zero_le _⟩) [0, 1] [] [0, 1] rfl rfl (by decide) (by decide) (by decide) rfl ?_
        refine s_i2l C (pc := 21) dX3_commonTile_21 ?_
        refine s_calll C (pc := 22) (wr := [(mo, .inr (3, [.ref mp, .ref ms, .ref mt, .int sts, .int al, .ref mq, .long wd, .int wS, .int wo, .int fw])), (mp, .inl (X.2.1, 12, .inl (M)))]) (wc' := []) (wn := [(mo, .inr (3, [.ref mp, .ref ms, .ref mt, .int sts, .int al, .ref mq, .long wd, .int wS, .int wo, .int fw])), (mp, .inl (X.2.1, 12, .inl (M)))]) (r_S C (As := [.long (cmF P Q k), .long ((tmL P Q k).toInt64)]) (rest := [.long (cmF P Q k)]) (kX3_common l X (cmF P Q k) ((tmL P Q k).toInt64) (hC k (by omega)).1 (hC k (by omega)).2.1) (va_cwS 2 C.ts gX3_commonTile_X3_common rfl rfl rfl (by decide +kernel) ⟨Nat.le_of_ble_eq_true rfl, Nat.le_of_ble_eq_true rfl⟩) [] (by decide) rfl rfl (Nat.le_of_ble_eq_true rfl) rfl dX3_commonTile_22 ⟨Nat.zero_le _, Nat.zero_le _⟩) [] [0, 1] [0, 1] rfl rfl (by decide) (by decide) (by decide) rfl ?_
        refine s_ldiv C (pc := 25) dX3_commonTile_25 (hC k (by omega)).2.2 ?_
        refine s_aload_n C (pc := 26) dX3_commonTile_26 rfl 0 rfl ?_
        refine s_iload_n C (pc := 27) dX3_commonTile_27 rfl 2 rfl ?_
        refine s_calli C (pc := 28) (wr := []) (wc' := [(mo, .inr (3, [.ref mp, .ref ms, .ref mt, .int sts, .int al, .ref mq, .long wd, .int wS, .int wo, .int fw])), (mp, .inl (X.2.1, 12, .inl (M)))]) (wn := [(mo, .inr (3, [.ref mp, .ref ms, .ref mt, .int sts, .int al, .ref mq, .long wd, .int wS, .int wo, .int fw])), (mp, .inl (X.2.1, 12, .inl (M)))]) (r_V C (As := [.int (nI k)]) (rest := [.long ((cmF P Q k) / (gcM (cmF P Q k) ((tmL P Q k).toInt64)))]) (kX3_tileOf l X mo mp ms mt mq sts al wd wS wo fw M n P Q o f ll k (by first | assumption | omega | decide) (by first | assumption | omega | decide) (by first | assumption | omega | decide) (by first | assumption | omega | decide)) (cwV 1 C.ts gX3_commonTile_X3_tileOf rfl rfl rfl (by decide +kernel) ⟨Nat.le_of_ble_eq_true rfl, Nat.le_of_ble_eq_true rfl⟩) (q0 := 0) rfl rfl [0, 1] (by decide) rfl rfl (Nat.le_of_ble_eq_true rfl) rfl dX3_commonTile_28 ⟨Nat.zero_le _, Nat.zero_le _⟩) [0, 1] [] [0, 1] rfl rfl (by decide) (by decide) (by decide) rfl ?_
        refine s_i2l C (pc := 31) dX3_commonTile_31 ?_
        refine s_lmul C (pc := 32) dX3_commonTile_32 ?_
        refine s_lstore_n C (pc := 33) (ls' := [(1, .long (((cmF P Q k) / (gcM (cmF P Q k) ((tmL P Q k).toInt64))) * ((tmL P Q k).toInt64))), (0, .ref mo), (3, .int (nI k))]) dX3_commonTile_33 rfl (by decide) rfl ?_
        refine s_iinc C (pc := 34) (v := nI (k + 1)) (ls' := [(3, .int (nI (k + 1))), (1, .long (((cmF P Q k) / (gcM (cmF P Q k) ((tmL P Q k).toInt64))) * ((tmL P Q k).toInt64))), (0, .ref mo)]) dX3_commonTile_34 2 rfl (nI_1 _) (by decide) rfl ?_
        refine s_goto C (pc := 37) (tgt := 4) dX3_commonTile_37 (by decide) ?_
        refine s_loc C (ls' := [(0, .ref mo), (1, .long (((cmF P Q k) / (gcM (cmF P Q k) ((tmL P Q k).toInt64))) * ((tmL P Q k).toInt64))), (3, .int (nI (k + 1)))]) [2, 1, 0] rfl ?_
        exact ih4 (k + 1) (by omega) (by omega)
  refine s_loc C (ls' := [(0, .ref mo), (1, .long 1), (3, .int 0)]) [2, 1, 0] rfl ?_
  exact L4 (n + 1) 0 (Nat.zero_le _) (by omega)

set_option maxHeartbeats 4000000 in
set_option maxRecDepth 100000 in
theorem kX3_isAhead (l : Launch) (X : XT) (mo mp ms mt mq : Nat) (sts al : Int32) (wd : Int64) (wS wo fw : Int32) (M : Nat → Int32) (n : Nat) (P Q : Nat → Int32) (o f ll : Int32) (i j : Nat) (hM : MR M n P Q o f ll) (hi : i < n) (hj : j < n) (hn : n ≤ 4) : KI l yX3_isAhead wsX3_isAhead ({ frames := 1, cells := 0, slots := 0, locals := 21 }) X [.ref mo, .int (nI i), .int (nI j)] [(mo, .inr (3, [.ref mp, .ref ms, .ref mt, .int sts, .int al, .ref mq, .long wd, .int wS, .int wo, .int fw])), (mp, .inl (X.2.1, 12, .inl (M)))] [(mo, .inr (3, [.ref mp, .ref ms, .ref mt, .int sts, .int al, .ref mq, .long wd, .int wS, .int wo, .int fw])), (mp, .inl (X.2.1, 12, .inl (M)))] (bI (Q i * P j < Q j * P i ∨ (Q i * P j = Q j * P i ∧ i < j))) := by
  refine k_ofI (cc := cX3_isAhead) (own := RX3) (maxL := 5) (ret := (some .boolean)) (ls0 := [(0, .ref mo), (1, .int (nI i)), (2, .int (nI j))]) (by decide) rfl rfl (Nat.le_of_ble_eq_true rfl) rfl ?_
  intro p e s m args below meth c A g C hr hlk
  refine s_aload_n C (pc := 0) dX3_isAhead_0 rfl 0 rfl ?_
  refine s_iload_n C (pc := 1) dX3_isAhead_1 rfl 1 rfl ?_
  refine s_calli C (pc := 2) (wr := []) (wc' := [(mo, .inr (3, [.ref mp, .ref ms, .ref mt, .int sts, .int al, .ref mq, .long wd, .int wS, .int wo, .int fw])), (mp, .inl (X.2.1, 12, .inl (M)))]) (wn := [(mo, .inr (3, [.ref mp, .ref ms, .ref mt, .int sts, .int al, .ref mq, .long wd, .int wS, .int wo, .int fw])), (mp, .inl (X.2.1, 12, .inl (M)))]) (r_V C (As := [.int (nI i)]) (rest := []) (kX3_secondOf l X mo mp ms mt mq sts al wd wS wo fw M n P Q o f ll i (by first | assumption | omega | decide) (by first | assumption | omega | decide) (by first | assumption | omega | decide)) (cwV 1 C.ts gX3_isAhead_X3_secondOf rfl rfl rfl (by decide +kernel) ⟨Nat.le_of_ble_eq_true rfl, Nat.le_of_ble_eq_true rfl⟩) (q0 := 0) rfl rfl [0, 1] (by decide) rfl rfl (Nat.le_of_ble_eq_true rfl) rfl dX3_isAhead_2 ⟨Nat.zero_le _, Nat.zero_le _⟩) [0, 1] [] [0, 1] rfl rfl (by decide) (by decide) (by decide) rfl ?_
  refine s_aload_n C (pc := 5) dX3_isAhead_5 rfl 0 rfl ?_
  refine s_iload_n C (pc := 6) dX3_isAhead_6 rfl 2 rfl ?_
  refine s_calli C (pc := 7) (wr := []) (wc' := [(mo, .inr (3, [.ref mp, .ref ms, .ref mt, .int sts, .int al, .ref mq, .long wd, .int wS, .int wo, .int fw])), (mp, .inl (X.2.1, 12, .inl (M)))]) (wn := [(mo, .inr (3, [.ref mp, .ref ms, .ref mt, .int sts, .int al, .ref mq, .long wd, .int wS, .int wo, .int fw])), (mp, .inl (X.2.1, 12, .inl (M)))]) (r_V C (As := [.int (nI j)]) (rest := [.int (Q i)]) (kX3_firstOf l X mo mp ms mt mq sts al wd wS wo fw M n P Q o f ll j (by first | assumption | omega | decide) (by first | assumption | omega | decide) (by first | assumption | omega | decide)) (cwV 1 C.ts gX3_isAhead_X3_firstOf rfl rfl rfl (by decide +kernel) ⟨Nat.le_of_ble_eq_true rfl, Nat.le_of_ble_eq_true rfl⟩) (q0 := 0) rfl rfl [0, 1] (by decide) rfl rfl (Nat.le_of_ble_eq_true rfl) rfl dX3_isAhead_7 ⟨Nat.zero_le _, Nat.zero_le _⟩) [0, 1] [] [0, 1] rfl rfl (by decide) (by decide) (by decide) rfl ?_
  refine s_imul C (pc := 10) dX3_isAhead_10 ?_
  refine s_istore_n C (pc := 11) (ls' := [(3, .int ((Q i) * (P j))), (0, .ref mo), (1, .int (nI i)), (2, .int (nI j))]) dX3_isAhead_11 rfl (by decide) rfl ?_
  refine s_aload_n C (pc := 12) dX3_isAhead_12 rfl 1 rfl ?_
  refine s_iload_n C (pc := 13) dX3_isAhead_13 rfl 3 rfl ?_
  refine s_calli C (pc := 14) (wr := []) (wc' := [(mo, .inr (3, [.ref mp, .ref ms, .ref mt, .int sts, .int al, .ref mq, .long wd, .int wS, .int wo, .int fw])), (mp, .inl (X.2.1, 12, .inl (M)))]) (wn := [(mo, .inr (3, [.ref mp, .ref ms, .ref mt, .int sts, .int al, .ref mq, .long wd, .int wS, .int wo, .int fw])), (mp, .inl (X.2.1, 12, .inl (M)))]) (r_V C (As := [.int (nI j)]) (rest := []) (kX3_secondOf l X mo mp ms mt mq sts al wd wS wo fw M n P Q o f ll j (by first | assumption | omega | decide) (by first | assumption | omega | decide) (by first | assumption | omega | decide)) (cwV 1 C.ts gX3_isAhead_X3_secondOf rfl rfl rfl (by decide +kernel) ⟨Nat.le_of_ble_eq_true rfl, Nat.le_of_ble_eq_true rfl⟩) (q0 := 0) rfl rfl [0, 1] (by decide) rfl rfl (Nat.le_of_ble_eq_true rfl) rfl dX3_isAhead_14 ⟨Nat.zero_le _, Nat.zero_le _⟩) [0, 1] [] [0, 1] rfl rfl (by decide) (by decide) (by decide) rfl ?_
  refine s_aload_n C (pc := 17) dX3_isAhead_17 rfl 1 rfl ?_
  refine s_iload_n C (pc := 18) dX3_isAhead_18 rfl 2 rfl ?_
  refine s_calli C (pc := 19) (wr := []) (wc' := [(mo, .inr (3, [.ref mp, .ref ms, .ref mt, .int sts, .int al, .ref mq, .long wd, .int wS, .int wo, .int fw])), (mp, .inl (X.2.1, 12, .inl (M)))]) (wn := [(mo, .inr (3, [.ref mp, .ref ms, .ref mt, .int sts, .int al, .ref mq, .long wd, .int wS, .int wo, .int fw])), (mp, .inl (X.2.1, 12, .inl (M)))]) (r_V C (As := [.int (nI i)]) (rest := [.int (Q j)]) (kX3_firstOf l X mo mp ms mt mq sts al wd wS wo fw M n P Q o f ll i (by first | assumption | omega | decide) (by first | assumption | omega | decide) (by first | assumption | omega | decide)) (cwV 1 C.ts gX3_isAhead_X3_firstOf rfl rfl rfl (by decide +kernel) ⟨Nat.le_of_ble_eq_true rfl, Nat.le_of_ble_eq_true rfl⟩) (q0 := 0) rfl rfl [0, 1] (by decide) rfl rfl (Nat.le_of_ble_eq_true rfl) rfl dX3_isAhead_19 ⟨Nat.zero_le _, Nat.zero_le _⟩) [0, 1] [] [0, 1] rfl rfl (by decide) (by decide) (by decide) rfl ?_
  refine s_imul C (pc := 22) dX3_isAhead_22 ?_
  refine s_istore C (pc := 23) (ls' := [(4, .int ((Q j) * (P i))), (3, .int ((Q i) * (P j))), (0, .ref mo), (1, .int (nI i)), (2, .int (nI j))]) dX3_isAhead_23 (by decide) rfl ?_
  refine s_iload_n C (pc := 25) dX3_isAhead_25 rfl 1 rfl ?_
  refine s_iload C (pc := 26) dX3_isAhead_26 0 rfl ?_
  refine s_icmp_lt C (pc := 28) (tgt := 42) dX3_isAhead_28 (by decide) (fun c28 => ?_) (fun c28 => ?_)
  · skip
    refine s_iconst C (pc := 42) (v := 1) dX3_isAhead_42 (by decide) ?_
    refine s_goto C (pc := 43) (tgt := 47) dX3_isAhead_43 (by decide) ?_
    exact s_zret C (pc := 47) hr hlk [0, 1] (by decide) (rfl) rfl ((bI_pos (Or.inl c28)).symm) dX3_isAhead_47
  · skip
    refine s_iload_n C (pc := 31) dX3_isAhead_31 rfl 1 rfl ?_
    refine s_iload C (pc := 32) dX3_isAhead_32 0 rfl ?_
    refine s_icmp_ne C (pc := 34) (tgt := 46) dX3_isAhead_34 (by decide) (fun c34 => ?_) (fun c34 => ?_)
    · skip
      refine s_iconst C (pc := 46) (v := 0) dX3_isAhead_46 (by decide) ?_
      exact s_zret C (pc := 47) hr hlk [0, 1] (by decide) (rfl) rfl ((bI_neg (fun hh => hh.elim c28 (fun hh => c34 hh.1))).symm) dX3_isAhead_47
    · skip
      refine s_iload_n C (pc := 37) dX3_isAhead_37 rfl 3 rfl ?_
      refine s_iload_n C (pc := 38) dX3_isAhead_38 rfl 4 rfl ?_
      refine s_icmp_ge C (pc := 39) (tgt := 46) dX3_isAhead_39 (by decide) (fun c39 => ?_) (fun c39 => ?_)
      · skip
        have e39 := nat_le (a := j) (b := i) (by omega) (by omega) c39
        refine s_iconst C (pc := 46) (v := 0) dX3_isAhead_46 (by decide) ?_
        exact s_zret C (pc := 47) hr hlk [0, 1] (by decide) (rfl) rfl ((bI_neg (fun hh => hh.elim c28 (fun hh => absurd hh.2 (by omega)))).symm) dX3_isAhead_47
      · skip
        have e39 := nat_nle (a := j) (b := i) (by omega) (by omega) c39
        refine s_iconst C (pc := 42) (v := 1) dX3_isAhead_42 (by decide) ?_
        refine s_goto C (pc := 43) (tgt := 47) dX3_isAhead_43 (by decide) ?_
        exact s_zret C (pc := 47) hr hlk [0, 1] (by decide) (rfl) rfl ((bI_pos (Or.inr ⟨c34, e39⟩)).symm) dX3_isAhead_47

set_option maxHeartbeats 4000000 in
set_option maxRecDepth 100000 in
theorem kX3_byAngle_bad (l : Launch) (X : XT) (mo mp ms mt mq : Nat) (sts al : Int32) (wd : Int64) (wS wo fw : Int32) (M : Nat → Int32) (n : Nat) (P Q : Nat → Int32) (o f ll : Int32) (rk : Int32) (hr0 : rk < 0) : KI l yX3_byAngle wsX3_byAngle ({ frames := 0, cells := 0, slots := 0, locals := 0 }) X [.ref mo, .int rk] [(mo, .inr (3, [.ref mp, .ref ms, .ref mt, .int sts, .int al, .ref mq, .long wd, .int wS, .int wo, .int fw])), (mp, .inl (X.2.1, 12, .inl (M)))] [(mo, .inr (3, [.ref mp, .ref ms, .ref mt, .int sts, .int al, .ref mq, .long wd, .int wS, .int wo, .int fw])), (mp, .inl (X.2.1, 12, .inl (M)))] (-1) := by
  refine k_ofI (cc := cX3_byAngle) (own := RX3) (maxL := 5) (ret := (some .int)) (ls0 := [(0, .ref mo), (1, .int rk)]) (by decide) rfl rfl (Nat.le_of_ble_eq_true rfl) rfl ?_
  intro p e s m args below meth c A g C hr hlk
  refine s_iload_n C (pc := 0) dX3_byAngle_0 rfl 1 rfl ?_
  refine s_if_ge C (pc := 1) (tgt := 6) dX3_byAngle_1 (by decide) (fun h => absurd h (Int32.not_le.mpr hr0)) (fun c1 => ?_)
  refine s_iconst C (pc := 4) (v := (-1)) dX3_byAngle_4 (by decide) ?_
  exact s_iret C (pc := 5) hr hlk [0, 1] (by decide) (rfl) (rfl) dX3_byAngle_5

set_option maxHeartbeats 4000000 in
set_option maxRecDepth 100000 in
theorem kX3_byAngle_ok (l : Launch) (X : XT) (mo mp ms mt mq : Nat) (sts al : Int32) (wd : Int64) (wS wo fw : Int32) (M : Nat → Int32) (n : Nat) (P Q : Nat → Int32) (o f ll : Int32) (rk : Int32) (hr0 : 0 ≤ rk) (hM : MR M n P Q o f ll) (hn : n ≤ 4) : KI l yX3_byAngle wsX3_byAngle ({ frames := 2, cells := 0, slots := 0, locals := 45 }) X [.ref mo, .int rk] [(mo, .inr (3, [.ref mp, .ref ms, .ref mt, .int sts, .int al, .ref mq, .long wd, .int wS, .int wo, .int fw])), (mp, .inl (X.2.1, 12, .inl (M)))] [(mo, .inr (3, [.ref mp, .ref ms, .ref mt, .int sts, .int al, .ref mq, .long wd, .int wS, .int wo, .int fw])), (mp, .inl (X.2.1, 12, .inl (M)))] (baF P Q n rk n 0) := by
  refine k_ofI (cc := cX3_byAngle) (own := RX3) (maxL := 5) (ret := (some .int)) (ls0 := [(0, .ref mo), (1, .int rk)]) (by decide) rfl rfl (Nat.le_of_ble_eq_true rfl) rfl ?_
  intro p e s m args below meth c A g C hr hlk
  refine s_iload_n C (pc := 0) dX3_byAngle_0 rfl 1 rfl ?_
  refine s_if_ge C (pc := 1) (tgt := 6) dX3_byAngle_1 (by decide) (fun c1 => ?_) (fun h => absurd (hr0) h)
  refine s_iconst C (pc := 6) (v := 0) dX3_byAngle_6 (by decide) ?_
  refine s_istore_n C (pc := 7) (ls' := [(2, .int 0), (0, .ref mo), (1, .int rk)]) dX3_byAngle_7 rfl (by decide) rfl ?_
  have L8 : ∀ (n_ : Nat) (k : Nat), (k ≤ n) → (baF P Q n rk (n - k) k = baF P Q n rk n 0) → n + 1 ≤ k + n_ → g [(mo, .inr (3, [.ref mp, .ref ms, .ref mt, .int sts, .int al, .ref mq, .long wd, .int wS, .int wo, .int fw])), (mp, .inl (X.2.1, 12, .inl (M)))] 8 [(0, .ref mo), (1, .int rk), (2, .int (nI k))] [] := by
    intro n_
    induction n_ with
    | zero =>
      intro k hk hI hf
      exact absurd hf (by omega)
    | succ n_ ih8 =>
      intro k hk hI hf8
      refine s_iload_n C (pc := 8) dX3_byAngle_8 rfl 2 rfl ?_
      refine s_aload_n C (pc := 9) dX3_byAngle_9 rfl 0 rfl ?_
      refine s_get C (pc := 10) (T := TX3) (N := 10) (fun _ h => (List.mem_cons_of_mem _ (List.mem_append_right _ h))) 0 rfl rfl 0 (by decide) (List.mem_of_getElem? (i := 1) rfl) rfl rfl dX3_byAngle_10 ?_
      refine s_iconst C (pc := 13) (v := 0) dX3_byAngle_13 (by decide) ?_
      refine s_iald C (pc := 14) 1 rfl 0 rfl (by decide) (by decide) dX3_byAngle_14 ?_
      refine s_top C (y := nI n) (hM.1) ?_
      refine s_icmp_ge C (pc := 15) (tgt := 71) dX3_byAngle_15 (by decide) (fun c15 => ?_) (fun c15 => ?_)
      · skip
        have e15 := nat_le (a := n) (b := k) (by omega) (by omega) c15
        rw [show n - k = 0 by omega] at hI
        refine s_bipush C (pc := 71) (v := (-4)) dX3_byAngle_71 (by decide) ?_
        exact s_iret C (pc := 73) hr hlk [0, 1] (by decide) (rfl) (hI) dX3_byAngle_73
      · skip
        have e15 := nat_nle (a := n) (b := k) (by omega) (by omega) c15
        obtain ⟨u, hu⟩ : ∃ u, n - k = u + 1 := ⟨n - k - 1, by omega⟩
        rw [hu] at hI
        refine s_iconst C (pc := 18) (v := 0) dX3_byAngle_18 (by decide) ?_
        refine s_istore_n C (pc := 19) (ls' := [(3, .int 0), (0, .ref mo), (1, .int rk), (2, .int (nI k))]) dX3_byAngle_19 rfl (by decide) rfl ?_
        refine s_iconst C (pc := 20) (v := 0) dX3_byAngle_20 (by decide) ?_
        refine s_istore C (pc := 21) (ls' := [(4, .int 0), (3, .int 0), (0, .ref mo), (1, .int rk), (2, .int (nI k))]) dX3_byAngle_21 (by decide) rfl ?_
        have L23 : ∀ (n_ : Nat) (j : Nat), (j ≤ n) → n + 1 ≤ j + n_ → g [(mo, .inr (3, [.ref mp, .ref ms, .ref mt, .int sts, .int al, .ref mq, .long wd, .int wS, .int wo, .int fw])), (mp, .inl (X.2.1, 12, .inl (M)))] 23 [(0, .ref mo), (1, .int rk), (2, .int (nI k)), (3, .int (pbF P Q k j)), (4, .int (nI j))] [] := by
          intro n_
          induction n_ with
          | zero =>
            intro j hj hf
            exact absurd hf (by omega)
          | succ n_ ih23 =>
            intro j hj hf23
            refine s_iload C (pc := 23) dX3_byAngle_23 4 rfl ?_
            refine s_aload_n C (pc := 25) dX3_byAngle_25 rfl 0 rfl ?_
            refine s_get C (pc := 26) (T := TX3) (N := 10) (fun _ h => (List.mem_cons_of_mem _ (List.mem_append_right _ h))) 0 rfl rfl 0 (by decide) (List.mem_of_getElem? (i := 1) rfl) rfl rfl dX3_byAngle_26 ?_
            refine s_iconst C (pc := 29) (v := 0) dX3_byAngle_29 (by decide) ?_
            refine s_iald C (pc := 30) 1 rfl 0 rfl (by decide) (by decide) dX3_byAngle_30 ?_
            refine s_top C (y := nI n) (hM.1) ?_
            refine s_icmp_ge C (pc := 31) (tgt := 58) dX3_byAngle_31 (by decide) (fun c31 => ?_) (fun c31 => ?_)
            · skip
              have e31 := nat_le (a := n) (b := j) (by omega) (by omega) c31
              have hs0 : n = j := by omega
              subst hs0
              refine s_iload_n C (pc := 58) dX3_byAngle_58 rfl 3 rfl ?_
              refine s_iload_n C (pc := 59) dX3_byAngle_59 rfl 1 rfl ?_
              refine s_icmp_ne C (pc := 60) (tgt := 65) dX3_byAngle_60 (by decide) (fun c60 => ?_) (fun c60 => ?_)
              · skip
                refine s_iinc C (pc := 65) (v := nI (k + 1)) (ls' := [(2, .int (nI (k + 1))), (0, .ref mo), (1, .int rk), (3, .int (pbF P Q k n)), (4, .int (nI n))]) dX3_byAngle_65 2 rfl (nI_1 _) (by decide) rfl ?_
                refine s_goto C (pc := 68) (tgt := 8) dX3_byAngle_68 (by decide) ?_
                refine s_loc C (ls' := [(0, .ref mo), (1, .int rk), (2, .int (nI (k + 1)))]) [1, 2, 0] rfl ?_
                exact ih8 (k + 1) (by omega) (by rw [show n - (k + 1) = u by omega, ← hI]; exact (if_neg c60).symm) (by omega)
              · skip
                refine s_iload_n C (pc := 63) dX3_byAngle_63 rfl 2 rfl ?_
                exact s_iret C (pc := 64) hr hlk [0, 1] (by decide) (rfl) (((if_pos c60).symm.trans hI)) dX3_byAngle_64
            · skip
              have e31 := nat_nle (a := n) (b := j) (by omega) (by omega) c31
              refine s_iload_n C (pc := 34) dX3_byAngle_34 rfl 3 rfl ?_
              refine s_aload_n C (pc := 35) dX3_byAngle_35 rfl 0 rfl ?_
              refine s_iload C (pc := 36) dX3_byAngle_36 4 rfl ?_
              refine s_iload_n C (pc := 38) dX3_byAngle_38 rfl 2 rfl ?_
              refine s_calli C (pc := 39) (wr := []) (wc' := [(mo, .inr (3, [.ref mp, .ref ms, .ref mt, .int sts, .int al, .ref mq, .long wd, .int wS, .int wo, .int fw])), (mp, .inl (X.2.1, 12, .inl (M)))]) (wn := [(mo, .inr (3, [.ref mp, .ref ms, .ref mt, .int sts, .int al, .ref mq, .long wd, .int wS, .int wo, .int fw])), (mp, .inl (X.2.1, 12, .inl (M)))]) (r_V C (As := [.int (nI j), .int (nI k)]) (rest := [.int (pbF P Q k j)]) (kX3_isAhead l X mo mp ms mt mq sts al wd wS wo fw M n P Q o f ll j k (by first | assumption | omega | decide) (by first | assumption | omega | decide) (by first | assumption | omega | decide) (by first | assumption | omega | decide)) (cwV 2 C.ts gX3_byAngle_X3_isAhead rfl rfl rfl (by decide +kernel) ⟨Nat.le_of_ble_eq_true rfl, Nat.le_of_ble_eq_true rfl⟩) (q0 := 0) rfl rfl [0, 1] (by decide) rfl rfl (Nat.le_of_ble_eq_true rfl) rfl dX3_byAngle_39 ⟨Nat.zero_le _, Nat.zero_le _⟩) [0, 1] [] [0, 1] rfl rfl (by decide) (by decide) (by decide) rfl ?_
              refine s_bif_eq C (pc := 42) (tgt := 49) dX3_byAngle_42 (by decide) (fun c42 => ?_) (fun c42 => ?_)
              · skip
                refine s_iconst C (pc := 49) (v := 0) dX3_byAngle_49 (by decide) ?_
                refine s_iadd C (pc := 50) dX3_byAngle_50 ?_
                refine s_top C (y := pbF P Q k j) (Int32.add_zero _) ?_
                refine s_istore_n C (pc := 51) (ls' := [(3, .int (pbF P Q k j)), (0, .ref mo), (1, .int rk), (2, .int (nI k)), (4, .int (nI j))]) dX3_byAngle_51 rfl (by decide) rfl ?_
                refine s_iinc C (pc := 52) (v := nI (j + 1)) (ls' := [(4, .int (nI (j + 1))), (3, .int (pbF P Q k j)), (0, .ref mo), (1, .int rk), (2, .int (nI k))]) dX3_byAngle_52 4 rfl (nI_1 _) (by decide) rfl ?_
                refine s_goto C (pc := 55) (tgt := 23) dX3_byAngle_55 (by decide) ?_
                refine s_loc C (ls' := [(0, .ref mo), (1, .int rk), (2, .int (nI k)), (3, .int (pbF P Q k j)), (4, .int (nI (j + 1)))]) [2, 3, 4, 1, 0] rfl ?_
                have hb := ih23 (j + 1) (by omega) (by omega)
                rw [pb_f c42] at hb
                exact hb
              · skip
                refine s_iconst C (pc := 45) (v := 1) dX3_byAngle_45 (by decide) ?_
                refine s_goto C (pc := 46) (tgt := 50) dX3_byAngle_46 (by decide) ?_
                refine s_iadd C (pc := 50) dX3_byAngle_50 ?_
                refine s_istore_n C (pc := 51) (ls' := [(3, .int ((pbF P Q k j) + 1)), (0, .ref mo), (1, .int rk), (2, .int (nI k)), (4, .int (nI j))]) dX3_byAngle_51 rfl (by decide) rfl ?_
                refine s_iinc C (pc := 52) (v := nI (j + 1)) (ls' := [(4, .int (nI (j + 1))), (3, .int ((pbF P Q k j) + 1)), (0, .ref mo), (1, .int rk), (2, .int (nI k))]) dX3_byAngle_52 4 rfl (nI_1 _) (by decide) rfl ?_
                refine s_goto C (pc := 55) (tgt := 23) dX3_byAngle_55 (by decide) ?_
                refine s_loc C (ls' := [(0, .ref mo), (1, .int rk), (2, .int (nI k)), (3, .int ((pbF P Q k j) + 1)), (4, .int (nI (j + 1)))]) [2, 3, 4, 1, 0] rfl ?_
                have hb := ih23 (j + 1) (by omega) (by omega)
                rw [pb_t c42] at hb
                exact hb
        refine s_loc C (ls' := [(0, .ref mo), (1, .int rk), (2, .int (nI k)), (3, .int 0), (4, .int 0)]) [2, 3, 4, 1, 0] rfl ?_
        exact L23 (n + 1) 0 (Nat.zero_le _) (by omega)
  refine s_loc C (ls' := [(0, .ref mo), (1, .int rk), (2, .int 0)]) [1, 2, 0] rfl ?_
  exact L8 (n + 1) 0 (Nat.zero_le _) rfl (by omega)

set_option maxHeartbeats 4000000 in
set_option maxRecDepth 100000 in
theorem kX3_records_lo (l : Launch) (X : XT) (mo mp ms mt mq : Nat) (al : Int32) (wd : Int64) (wS wo fw : Int32) (M S : Nat → Int32) (q : Nat) (hq : q < 5) : KV l yX3_records wsX3_records ({ frames := 0, cells := 0, slots := 0, locals := 0 }) X [.ref mo] [(mo, .inr (3, [.ref mp, .ref ms, .ref mt, .int (nI q), .int al, .ref mq, .long wd, .int wS, .int wo, .int fw])), (mp, .inl (X.2.1, 12, .inl (M))), (ms, .inl (X.2.1, 60, .inl (S)))] [(mo, .inr (3, [.ref mp, .ref ms, .ref mt, .int (nI (q + 1)), .int al, .ref mq, .long wd, .int wS, .int wo, .int fw])), (mp, .inl (X.2.1, 12, .inl (M))), (ms, .inl (X.2.1, 60, .inl (rsF S M q 12)))] := by
  refine k_ofV (cc := cX3_records) (own := RX3) (maxL := 2) (ret := none) (ls0 := [(0, .ref mo)]) (by decide) rfl rfl (Nat.le_of_ble_eq_true rfl) rfl ?_
  intro p e s m args below meth c A g C hr hlk
  refine s_aload_n C (pc := 0) dX3_records_0 rfl 0 rfl ?_
  refine s_get C (pc := 1) (T := TX3) (N := 10) (fun _ h => (List.mem_cons_of_mem _ (List.mem_append_right _ h))) 0 rfl rfl 3 (by decide) (List.mem_of_getElem? (i := 1) rfl) rfl rfl dX3_records_1 ?_
  refine s_iconst C (pc := 4) (v := 5) dX3_records_4 (by decide) ?_
  refine s_icmp_ne C (pc := 5) (tgt := 47) dX3_records_5 (by decide) (fun c5 => ?_) (fun h => absurd h (fun h2 => absurd (nat_eq (a := q) (b := 5) (by omega) (by omega) h2) (by omega)))
  refine s_iconst C (pc := 47) (v := 0) dX3_records_47 (by decide) ?_
  refine s_istore_n C (pc := 48) (ls' := [(1, .int 0), (0, .ref mo)]) dX3_records_48 rfl (by decide) rfl ?_
  have L49 : ∀ (n_ : Nat) (k : Nat), (k ≤ 12) → 13 ≤ k + n_ → g [(mo, .inr (3, [.ref mp, .ref ms, .ref mt, .int (nI q), .int al, .ref mq, .long wd, .int wS, .int wo, .int fw])), (mp, .inl (X.2.1, 12, .inl (M))), (ms, .inl (X.2.1, 60, .inl ((rsF S M q k))))] 49 [(0, .ref mo), (1, .int (nI k))] [] := by
    intro n_
    induction n_ with
    | zero =>
      intro k hk hf
      exact absurd hf (by omega)
    | succ n_ ih49 =>
      intro k hk hf49
      refine s_iload_n C (pc := 49) dX3_records_49 rfl 1 rfl ?_
      refine s_bipush C (pc := 50) (v := 12) dX3_records_50 (by decide) ?_
      refine s_icmp_ge C (pc := 52) (tgt := 81) dX3_records_52 (by decide) (fun c52 => ?_) (fun c52 => ?_)
      · skip
        have e52 := nat_le (a := 12) (b := k) (by omega) (by omega) c52
        have hs0 : 12 = k := by omega
        subst hs0
        refine s_aload_n C (pc := 81) dX3_records_81 rfl 0 rfl ?_
        refine s_dup C (pc := 82) dX3_records_82 rfl ?_
        refine s_get C (pc := 83) (T := TX3) (N := 10) (fun _ h => (List.mem_cons_of_mem _ (List.mem_append_right _ h))) 0 rfl rfl 3 (by decide) (List.mem_of_getElem? (i := 1) rfl) rfl rfl dX3_records_83 ?_
        refine s_iconst C (pc := 86) (v := 1) dX3_records_86 (by decide) ?_
        refine s_iadd C (pc := 87) dX3_records_87 ?_
        refine s_top C (y := nI (q + 1)) (nI_add _ _) ?_
        refine s_put C (pc := 88) (T := TX3) (N := 10) (ws' := [(mo, .inr (3, [.ref mp, .ref ms, .ref mt, .int (nI (q + 1)), .int al, .ref mq, .long wd, .int wS, .int wo, .int fw])), (mp, .inl (X.2.1, 12, .inl (M))), (ms, .inl (X.2.1, 60, .inl ((rsF S M q 12))))]) (fun _ h => (List.mem_cons_of_mem _ (List.mem_append_right _ h))) 0 rfl rfl tyX3 tyX3_ok nmX3 3 (by decide) (List.mem_of_getElem? (i := 1) rfl) rfl rfl rfl rfl (Nat.le_of_ble_eq_true rfl) rfl dX3_records_88 ?_
        exact s_vret C (pc := 91) hr hlk [0, 1, 2] (by decide) (rfl) dX3_records_91
      · skip
        have e52 := nat_nle (a := 12) (b := k) (by omega) (by omega) c52
        refine s_aload_n C (pc := 55) dX3_records_55 rfl 0 rfl ?_
        refine s_get C (pc := 56) (T := TX3) (N := 10) (fun _ h => (List.mem_cons_of_mem _ (List.mem_append_right _ h))) 0 rfl rfl 1 (by decide) (List.mem_of_getElem? (i := 2) rfl) rfl rfl dX3_records_56 ?_
        refine s_bipush C (pc := 59) (v := 12) dX3_records_59 (by decide) ?_
        refine s_aload_n C (pc := 61) dX3_records_61 rfl 0 rfl ?_
        refine s_get C (pc := 62) (T := TX3) (N := 10) (fun _ h => (List.mem_cons_of_mem _ (List.mem_append_right _ h))) 0 rfl rfl 3 (by decide) (List.mem_of_getElem? (i := 1) rfl) rfl rfl dX3_records_62 ?_
        refine s_imul C (pc := 65) dX3_records_65 ?_
        refine s_iload_n C (pc := 66) dX3_records_66 rfl 1 rfl ?_
        refine s_iadd C (pc := 67) dX3_records_67 ?_
        refine s_aload_n C (pc := 68) dX3_records_68 rfl 0 rfl ?_
        refine s_get C (pc := 69) (T := TX3) (N := 10) (fun _ h => (List.mem_cons_of_mem _ (List.mem_append_right _ h))) 0 rfl rfl 0 (by decide) (List.mem_of_getElem? (i := 3) rfl) rfl rfl dX3_records_69 ?_
        refine s_iload_n C (pc := 72) dX3_records_72 rfl 1 rfl ?_
        refine s_iald C (pc := 73) 1 rfl k rfl (by omega) (by decide) dX3_records_73 ?_
        refine s_iast C (pc := 74) (ws' := [(mo, .inr (3, [.ref mp, .ref ms, .ref mt, .int (nI q), .int al, .ref mq, .long wd, .int wS, .int wo, .int fw])), (mp, .inl (X.2.1, 12, .inl (M))), (ms, .inl (X.2.1, 60, .inl (upd (rsF S M q k) (12 * q + k) (M k))))]) 2 rfl (12 * q + k) (ix12 q k) (by omega) (by decide) rfl dX3_records_74 ?_
        refine s_iinc C (pc := 75) (v := nI (k + 1)) (ls' := [(1, .int (nI (k + 1))), (0, .ref mo)]) dX3_records_75 1 rfl (nI_1 _) (by decide) rfl ?_
        refine s_goto C (pc := 78) (tgt := 49) dX3_records_78 (by decide) ?_
        refine s_loc C (ls' := [(0, .ref mo), (1, .int (nI (k + 1)))]) [1, 0] rfl ?_
        exact ih49 (k + 1) (by omega) (by omega)
  refine s_loc C (ls' := [(0, .ref mo), (1, .int 0)]) [1, 0] rfl ?_
  exact L49 13 0 (Nat.zero_le _) (by omega)

set_option maxHeartbeats 4000000 in
set_option maxRecDepth 100000 in
theorem kX3_records_hi (l : Launch) (X : XT) (mo mp ms mt mq : Nat) (al : Int32) (wd : Int64) (wS wo fw : Int32) (M S : Nat → Int32)  : KV l yX3_records wsX3_records ({ frames := 0, cells := 0, slots := 0, locals := 0 }) X [.ref mo] [(mo, .inr (3, [.ref mp, .ref ms, .ref mt, .int 5, .int al, .ref mq, .long wd, .int wS, .int wo, .int fw])), (mp, .inl (X.2.1, 12, .inl (M))), (ms, .inl (X.2.1, 60, .inl (S)))] [(mo, .inr (3, [.ref mp, .ref ms, .ref mt, .int 5, .int al, .ref mq, .long wd, .int wS, .int wo, .int fw])), (mp, .inl (X.2.1, 12, .inl (M))), (ms, .inl (X.2.1, 60, .inl (rsF (shS S 48) M 4 12)))] := by
  refine k_ofV (cc := cX3_records) (own := RX3) (maxL := 2) (ret := none) (ls0 := [(0, .ref mo)]) (by decide) rfl rfl (Nat.le_of_ble_eq_true rfl) rfl ?_
  intro p e s m args below meth c A g C hr hlk
  refine s_aload_n C (pc := 0) dX3_records_0 rfl 0 rfl ?_
  refine s_get C (pc := 1) (T := TX3) (N := 10) (fun _ h => (List.mem_cons_of_mem _ (List.mem_append_right _ h))) 0 rfl rfl 3 (by decide) (List.mem_of_getElem? (i := 1) rfl) rfl rfl dX3_records_1 ?_
  refine s_iconst C (pc := 4) (v := 5) dX3_records_4 (by decide) ?_
  refine s_icmp_ne C (pc := 5) (tgt := 47) dX3_records_5 (by decide) (fun h => absurd (by decide) h) (fun c5 => ?_)
  refine s_iconst C (pc := 8) (v := 0) dX3_records_8 (by decide) ?_
  refine s_istore_n C (pc := 9) (ls' := [(1, .int 0), (0, .ref mo)]) dX3_records_9 rfl (by decide) rfl ?_
  have L10 : ∀ (n_ : Nat) (k : Nat), (k ≤ 48) → 49 ≤ k + n_ → g [(mo, .inr (3, [.ref mp, .ref ms, .ref mt, .int 5, .int al, .ref mq, .long wd, .int wS, .int wo, .int fw])), (mp, .inl (X.2.1, 12, .inl (M))), (ms, .inl (X.2.1, 60, .inl ((shS S k))))] 10 [(0, .ref mo), (1, .int (nI k))] [] := by
    intro n_
    induction n_ with
    | zero =>
      intro k hk hf
      exact absurd hf (by omega)
    | succ n_ ih10 =>
      intro k hk hf10
      refine s_iload_n C (pc := 10) dX3_records_10 rfl 1 rfl ?_
      refine s_bipush C (pc := 11) (v := 48) dX3_records_11 (by decide) ?_
      refine s_icmp_ge C (pc := 13) (tgt := 37) dX3_records_13 (by decide) (fun c13 => ?_) (fun c13 => ?_)
      · skip
        have e13 := nat_le (a := 48) (b := k) (by omega) (by omega) c13
        have hs0 : 48 = k := by omega
        subst hs0
        refine s_aload_n C (pc := 37) dX3_records_37 rfl 0 rfl ?_
        refine s_dup C (pc := 38) dX3_records_38 rfl ?_
        refine s_get C (pc := 39) (T := TX3) (N := 10) (fun _ h => (List.mem_cons_of_mem _ (List.mem_append_right _ h))) 0 rfl rfl 3 (by decide) (List.mem_of_getElem? (i := 1) rfl) rfl rfl dX3_records_39 ?_
        refine s_iconst C (pc := 42) (v := 1) dX3_records_42 (by decide) ?_
        refine s_isub C (pc := 43) dX3_records_43 ?_
        refine s_top C (y := 4) (by decide) ?_
        refine s_put C (pc := 44) (T := TX3) (N := 10) (ws' := [(mo, .inr (3, [.ref mp, .ref ms, .ref mt, .int 4, .int al, .ref mq, .long wd, .int wS, .int wo, .int fw])), (mp, .inl (X.2.1, 12, .inl (M))), (ms, .inl (X.2.1, 60, .inl ((shS S 48))))]) (fun _ h => (List.mem_cons_of_mem _ (List.mem_append_right _ h))) 0 rfl rfl tyX3 tyX3_ok nmX3 3 (by decide) (List.mem_of_getElem? (i := 1) rfl) rfl rfl rfl rfl (Nat.le_of_ble_eq_true rfl) rfl dX3_records_44 ?_
        refine s_iconst C (pc := 47) (v := 0) dX3_records_47 (by decide) ?_
        refine s_istore_n C (pc := 48) (ls' := [(1, .int 0), (0, .ref mo)]) dX3_records_48 rfl (by decide) rfl ?_
        have L49 : ∀ (n_ : Nat) (k2 : Nat), (k2 ≤ 12) → 13 ≤ k2 + n_ → g [(mo, .inr (3, [.ref mp, .ref ms, .ref mt, .int 4, .int al, .ref mq, .long wd, .int wS, .int wo, .int fw])), (mp, .inl (X.2.1, 12, .inl (M))), (ms, .inl (X.2.1, 60, .inl ((rsF (shS S 48) M 4 k2))))] 49 [(0, .ref mo), (1, .int (nI k2))] [] := by
          intro n_
          induction n_ with
          | zero =>
            intro k2 hk2 hf
            exact absurd hf (by omega)
          | succ n_ ih49 =>
            intro k2 hk2 hf49
            refine s_iload_n C (pc := 49) dX3_records_49 rfl 1 rfl ?_
            refine s_bipush C (pc := 50) (v := 12) dX3_records_50 (by decide) ?_
            refine s_icmp_ge C (pc := 52) (tgt := 81) dX3_records_52 (by decide) (fun c52 => ?_) (fun c52 => ?_)
            · skip
              have e52 := nat_le (a := 12) (b := k2) (by omega) (by omega) c52
              have hs0 : 12 = k2 := by omega
              subst hs0
              refine s_aload_n C (pc := 81) dX3_records_81 rfl 0 rfl ?_
              refine s_dup C (pc := 82) dX3_records_82 rfl ?_
              refine s_get C (pc := 83) (T := TX3) (N := 10) (fun _ h => (List.mem_cons_of_mem _ (List.mem_append_right _ h))) 0 rfl rfl 3 (by decide) (List.mem_of_getElem? (i := 1) rfl) rfl rfl dX3_records_83 ?_
              refine s_iconst C (pc := 86) (v := 1) dX3_records_86 (by decide) ?_
              refine s_iadd C (pc := 87) dX3_records_87 ?_
              refine s_top C (y := 5) (by decide) ?_
              refine s_put C (pc := 88) (T := TX3) (N := 10) (ws' := [(mo, .inr (3, [.ref mp, .ref ms, .ref mt, .int 5, .int al, .ref mq, .long wd, .int wS, .int wo, .int fw])), (mp, .inl (X.2.1, 12, .inl (M))), (ms, .inl (X.2.1, 60, .inl ((rsF (shS S 48) M 4 12))))]) (fun _ h => (List.mem_cons_of_mem _ (List.mem_append_right _ h))) 0 rfl rfl tyX3 tyX3_ok nmX3 3 (by decide) (List.mem_of_getElem? (i := 1) rfl) rfl rfl rfl rfl (Nat.le_of_ble_eq_true rfl) rfl dX3_records_88 ?_
              exact s_vret C (pc := 91) hr hlk [0, 1, 2] (by decide) (rfl) dX3_records_91
            · skip
              have e52 := nat_nle (a := 12) (b := k2) (by omega) (by omega) c52
              refine s_aload_n C (pc := 55) dX3_records_55 rfl 0 rfl ?_
              refine s_get C (pc := 56) (T := TX3) (N := 10) (fun _ h => (List.mem_cons_of_mem _ (List.mem_append_right _ h))) 0 rfl rfl 1 (by decide) (List.mem_of_getElem? (i := 2) rfl) rfl rfl dX3_records_56 ?_
              refine s_bipush C (pc := 59) (v := 12) dX3_records_59 (by decide) ?_
              refine s_aload_n C (pc := 61) dX3_records_61 rfl 0 rfl ?_
              refine s_get C (pc := 62) (T := TX3) (N := 10) (fun _ h => (List.mem_cons_of_mem _ (List.mem_append_right _ h))) 0 rfl rfl 3 (by decide) (List.mem_of_getElem? (i := 1) rfl) rfl rfl dX3_records_62 ?_
              refine s_imul C (pc := 65) dX3_records_65 ?_
              refine s_top C (y := 48) (by decide) ?_
              refine s_iload_n C (pc := 66) dX3_records_66 rfl 1 rfl ?_
              refine s_iadd C (pc := 67) dX3_records_67 ?_
              refine s_top C (y := nI (48 + k2)) (nI_add _ _) ?_
              refine s_aload_n C (pc := 68) dX3_records_68 rfl 0 rfl ?_
              refine s_get C (pc := 69) (T := TX3) (N := 10) (fun _ h => (List.mem_cons_of_mem _ (List.mem_append_right _ h))) 0 rfl rfl 0 (by decide) (List.mem_of_getElem? (i := 3) rfl) rfl rfl dX3_records_69 ?_
              refine s_iload_n C (pc := 72) dX3_records_72 rfl 1 rfl ?_
              refine s_iald C (pc := 73) 1 rfl k2 rfl (by omega) (by decide) dX3_records_73 ?_
              refine s_iast C (pc := 74) (ws' := [(mo, .inr (3, [.ref mp, .ref ms, .ref mt, .int 4, .int al, .ref mq, .long wd, .int wS, .int wo, .int fw])), (mp, .inl (X.2.1, 12, .inl (M))), (ms, .inl (X.2.1, 60, .inl (upd (rsF (shS S 48) M 4 k2) (12 * 4 + k2) (M k2))))]) 2 rfl (12 * 4 + k2) rfl (by omega) (by decide) rfl dX3_records_74 ?_
              refine s_iinc C (pc := 75) (v := nI (k2 + 1)) (ls' := [(1, .int (nI (k2 + 1))), (0, .ref mo)]) dX3_records_75 1 rfl (nI_1 _) (by decide) rfl ?_
              refine s_goto C (pc := 78) (tgt := 49) dX3_records_78 (by decide) ?_
              refine s_loc C (ls' := [(0, .ref mo), (1, .int (nI (k2 + 1)))]) [1, 0] rfl ?_
              exact ih49 (k2 + 1) (by omega) (by omega)
        refine s_loc C (ls' := [(0, .ref mo), (1, .int 0)]) [1, 0] rfl ?_
        exact L49 13 0 (Nat.zero_le _) (by omega)
      · skip
        have e13 := nat_nle (a := 48) (b := k) (by omega) (by omega) c13
        refine s_aload_n C (pc := 16) dX3_records_16 rfl 0 rfl ?_
        refine s_get C (pc := 17) (T := TX3) (N := 10) (fun _ h => (List.mem_cons_of_mem _ (List.mem_append_right _ h))) 0 rfl rfl 1 (by decide) (List.mem_of_getElem? (i := 2) rfl) rfl rfl dX3_records_17 ?_
        refine s_iload_n C (pc := 20) dX3_records_20 rfl 1 rfl ?_
        refine s_aload_n C (pc := 21) dX3_records_21 rfl 0 rfl ?_
        refine s_get C (pc := 22) (T := TX3) (N := 10) (fun _ h => (List.mem_cons_of_mem _ (List.mem_append_right _ h))) 0 rfl rfl 1 (by decide) (List.mem_of_getElem? (i := 2) rfl) rfl rfl dX3_records_22 ?_
        refine s_iload_n C (pc := 25) dX3_records_25 rfl 1 rfl ?_
        refine s_bipush C (pc := 26) (v := 12) dX3_records_26 (by decide) ?_
        refine s_iadd C (pc := 28) dX3_records_28 ?_
        refine s_top C (y := nI (k + 12)) (nI_add _ _) ?_
        refine s_iald C (pc := 29) 2 rfl (k + 12) rfl (by omega) (by decide) dX3_records_29 ?_
        refine s_iast C (pc := 30) (ws' := [(mo, .inr (3, [.ref mp, .ref ms, .ref mt, .int 5, .int al, .ref mq, .long wd, .int wS, .int wo, .int fw])), (mp, .inl (X.2.1, 12, .inl (M))), (ms, .inl (X.2.1, 60, .inl (upd (shS S k) k ((shS S k) (k + 12)))))]) 2 rfl k rfl (by omega) (by decide) rfl dX3_records_30 ?_
        refine s_iinc C (pc := 31) (v := nI (k + 1)) (ls' := [(1, .int (nI (k + 1))), (0, .ref mo)]) dX3_records_31 1 rfl (nI_1 _) (by decide) rfl ?_
        refine s_goto C (pc := 34) (tgt := 10) dX3_records_34 (by decide) ?_
        refine s_loc C (ls' := [(0, .ref mo), (1, .int (nI (k + 1)))]) [1, 0] rfl ?_
        exact ih10 (k + 1) (by omega) (by omega)
  refine s_loc C (ls' := [(0, .ref mo), (1, .int 0)]) [1, 0] rfl ?_
  exact L10 49 0 (Nat.zero_le _) (by omega)

theorem kX3_records (l : Launch) (X : XT) (mo mp ms mt mq : Nat) (al : Int32) (wd : Int64) (wS wo fw : Int32) (M S : Nat → Int32) (q : Nat) (hq5 : q ≤ 5) : KV l yX3_records wsX3_records ({ frames := 0, cells := 0, slots := 0, locals := 0 }) X [.ref mo] [(mo, .inr (3, [.ref mp, .ref ms, .ref mt, .int (nI q), .int al, .ref mq, .long wd, .int wS, .int wo, .int fw])), (mp, .inl (X.2.1, 12, .inl (M))), (ms, .inl (X.2.1, 60, .inl (S)))] [(mo, .inr (3, [.ref mp, .ref ms, .ref mt, .int (nI (rcQ q)), .int al, .ref mq, .long wd, .int wS, .int wo, .int fw])), (mp, .inl (X.2.1, 12, .inl (M))), (ms, .inl (X.2.1, 60, .inl (rvS S M q)))] := by
  by_cases h : q = 5
  · subst h
    exact kX3_records_hi l X mo mp ms mt mq al wd wS wo fw M S
  · rw [show rcQ q = q + 1 from if_neg h, show rvS S M q = rsF S M q 12 from if_neg h]
    exact kX3_records_lo l X mo mp ms mt mq al wd wS wo fw M S q (by omega)

set_option maxHeartbeats 4000000 in
set_option maxRecDepth 100000 in
theorem kX3_addPlate_bad (l : Launch) (X : XT) (mo mp ms mt mq : Nat) (sts al : Int32) (wd : Int64) (wS wo fw : Int32) (M : Nat → Int32) (n : Nat) (P Q : Nat → Int32) (o f ll : Int32) (x y : Int32) (hb : ¬ (1 ≤ x ∧ x ≤ 20 ∧ 0 ≤ y ∧ y ≤ 20)) : KI l yX3_addPlate wsX3_addPlate ({ frames := 2, cells := 0, slots := 0, locals := 43 }) X [.ref mo, .int x, .int y] [(mo, .inr (3, [.ref mp, .ref ms, .ref mt, .int sts, .int al, .ref mq, .long wd, .int wS, .int wo, .int fw])), (mp, .inl (X.2.1, 12, .inl (M)))] [(mo, .inr (3, [.ref mp, .ref ms, .ref mt, .int sts, .int al, .ref mq, .long wd, .int wS, .int wo, .int fw])), (mp, .inl (X.2.1, 12, .inl (M)))] (-1) := by
  refine k_ofI (cc := cX3_addPlate) (own := RX3) (maxL := 4) (ret := (some .int)) (ls0 := [(0, .ref mo), (1, .int x), (2, .int y)]) (by decide) rfl rfl (Nat.le_of_ble_eq_true rfl) rfl ?_
  intro p e s m args below meth c A g C hr hlk
  refine s_iload_n C (pc := 0) dX3_addPlate_0 rfl 1 rfl ?_
  refine s_iload_n C (pc := 1) dX3_addPlate_1 rfl 2 rfl ?_
  refine s_calli C (pc := 2) (wr := [(mo, .inr (3, [.ref mp, .ref ms, .ref mt, .int sts, .int al, .ref mq, .long wd, .int wS, .int wo, .int fw])), (mp, .inl (X.2.1, 12, .inl (M)))]) (wc' := []) (wn := [(mo, .inr (3, [.ref mp, .ref ms, .ref mt, .int sts, .int al, .ref mq, .long wd, .int wS, .int wo, .int fw])), (mp, .inl (X.2.1, 12, .inl (M)))]) (r_S C (As := [.int x, .int y]) (rest := []) (kX3_isVector l X x y ) (va_cwS 2 C.ts gX3_addPlate_X3_isVector rfl rfl rfl (by decide +kernel) ⟨Nat.le_of_ble_eq_true rfl, Nat.le_of_ble_eq_true rfl⟩) [] (by decide) rfl rfl (Nat.le_of_ble_eq_true rfl) rfl dX3_addPlate_2 ⟨Nat.zero_le _, Nat.zero_le _⟩) [] [0, 1] [0, 1] rfl rfl (by decide) (by decide) (by decide) rfl ?_
  refine s_bif_ne C (pc := 5) (tgt := 10) dX3_addPlate_5 (by decide) (fun h => absurd h (hb)) (fun c5 => ?_)
  refine s_iconst C (pc := 8) (v := (-1)) dX3_addPlate_8 (by decide) ?_
  exact s_iret C (pc := 9) hr hlk [0, 1] (by decide) (rfl) (rfl) dX3_addPlate_9

set_option maxHeartbeats 4000000 in
set_option maxRecDepth 100000 in
theorem kX3_addPlate_full (l : Launch) (X : XT) (mo mp ms mt mq : Nat) (sts al : Int32) (wd : Int64) (wS wo fw : Int32) (M : Nat → Int32) (n : Nat) (P Q : Nat → Int32) (o f ll : Int32) (x y : Int32) (hs : 1 ≤ x ∧ x ≤ 20 ∧ 0 ≤ y ∧ y ≤ 20) (hM : MR M n P Q o f ll) (hn : n = 4) : KI l yX3_addPlate wsX3_addPlate ({ frames := 2, cells := 0, slots := 0, locals := 43 }) X [.ref mo, .int x, .int y] [(mo, .inr (3, [.ref mp, .ref ms, .ref mt, .int sts, .int al, .ref mq, .long wd, .int wS, .int wo, .int fw])), (mp, .inl (X.2.1, 12, .inl (M)))] [(mo, .inr (3, [.ref mp, .ref ms, .ref mt, .int sts, .int al, .ref mq, .long wd, .int wS, .int wo, .int fw])), (mp, .inl (X.2.1, 12, .inl (M)))] (-3) := by
  refine k_ofI (cc := cX3_addPlate) (own := RX3) (maxL := 4) (ret := (some .int)) (ls0 := [(0, .ref mo), (1, .int x), (2, .int y)]) (by decide) rfl rfl (Nat.le_of_ble_eq_true rfl) rfl ?_
  intro p e s m args below meth c A g C hr hlk
  refine s_iload_n C (pc := 0) dX3_addPlate_0 rfl 1 rfl ?_
  refine s_iload_n C (pc := 1) dX3_addPlate_1 rfl 2 rfl ?_
  refine s_calli C (pc := 2) (wr := [(mo, .inr (3, [.ref mp, .ref ms, .ref mt, .int sts, .int al, .ref mq, .long wd, .int wS, .int wo, .int fw])), (mp, .inl (X.2.1, 12, .inl (M)))]) (wc' := []) (wn := [(mo, .inr (3, [.ref mp, .ref ms, .ref mt, .int sts, .int al, .ref mq, .long wd, .int wS, .int wo, .int fw])), (mp, .inl (X.2.1, 12, .inl (M)))]) (r_S C (As := [.int x, .int y]) (rest := []) (kX3_isVector l X x y ) (va_cwS 2 C.ts gX3_addPlate_X3_isVector rfl rfl rfl (by decide +kernel) ⟨Nat.le_of_ble_eq_true rfl, Nat.le_of_ble_eq_true rfl⟩) [] (by decide) rfl rfl (Nat.le_of_ble_eq_true rfl) rfl dX3_addPlate_2 ⟨Nat.zero_le _, Nat.zero_le _⟩) [] [0, 1] [0, 1] rfl rfl (by decide) (by decide) (by decide) rfl ?_
  refine s_bif_ne C (pc := 5) (tgt := 10) dX3_addPlate_5 (by decide) (fun c5 => ?_) (fun h => absurd (hs) h)
  refine s_aload_n C (pc := 10) dX3_addPlate_10 rfl 0 rfl ?_
  refine s_get C (pc := 11) (T := TX3) (N := 10) (fun _ h => (List.mem_cons_of_mem _ (List.mem_append_right _ h))) 0 rfl rfl 0 (by decide) (List.mem_of_getElem? (i := 1) rfl) rfl rfl dX3_addPlate_11 ?_
  refine s_iconst C (pc := 14) (v := 0) dX3_addPlate_14 (by decide) ?_
  refine s_iald C (pc := 15) 1 rfl 0 rfl (by decide) (by decide) dX3_addPlate_15 ?_
  refine s_top C (y := nI n) (hM.1) ?_
  refine s_iconst C (pc := 16) (v := 4) dX3_addPlate_16 (by decide) ?_
  refine s_icmp_ne C (pc := 17) (tgt := 23) dX3_addPlate_17 (by decide) (fun h => absurd (congrArg nI (show n = 4 by omega)) h) (fun c17 => ?_)
  refine s_bipush C (pc := 20) (v := (-3)) dX3_addPlate_20 (by decide) ?_
  exact s_iret C (pc := 22) hr hlk [0, 1] (by decide) (rfl) (rfl) dX3_addPlate_22

set_option maxHeartbeats 4000000 in
set_option maxRecDepth 100000 in
theorem kX3_addPlate_ok (l : Launch) (X : XT) (mo mp ms mt mq : Nat) (al : Int32) (wd : Int64) (wS wo fw : Int32) (M : Nat → Int32) (n : Nat) (P Q : Nat → Int32) (o f ll : Int32) (S : Nat → Int32) (q : Nat) (x y : Int32) (hs : 1 ≤ x ∧ x ≤ 20 ∧ 0 ≤ y ∧ y ≤ 20) (hM : MR M n P Q o f ll) (hn : n < 4) (hq5 : q ≤ 5) : KI l yX3_addPlate wsX3_addPlate ({ frames := 2, cells := 0, slots := 0, locals := 43 }) X [.ref mo, .int x, .int y] [(mo, .inr (3, [.ref mp, .ref ms, .ref mt, .int (nI q), .int al, .ref mq, .long wd, .int wS, .int wo, .int fw])), (mp, .inl (X.2.1, 12, .inl (M))), (ms, .inl (X.2.1, 60, .inl (S)))] [(mo, .inr (3, [.ref mp, .ref ms, .ref mt, .int (nI (rcQ q)), .int al, .ref mq, .long wd, .int wS, .int wo, .int fw])), (mp, .inl (X.2.1, 12, .inl (upd (upd (upd M (4 + 2 * n) x) (4 + 2 * n + 1) y) 0 (nI (n + 1))))), (ms, .inl (X.2.1, 60, .inl (rvS S M q)))] (nI n) := by
  refine k_ofI (cc := cX3_addPlate) (own := RX3) (maxL := 4) (ret := (some .int)) (ls0 := [(0, .ref mo), (1, .int x), (2, .int y)]) (by decide) rfl rfl (Nat.le_of_ble_eq_true rfl) rfl ?_
  intro p e s m args below meth c A g C hr hlk
  refine s_iload_n C (pc := 0) dX3_addPlate_0 rfl 1 rfl ?_
  refine s_iload_n C (pc := 1) dX3_addPlate_1 rfl 2 rfl ?_
  refine s_calli C (pc := 2) (wr := [(mo, .inr (3, [.ref mp, .ref ms, .ref mt, .int (nI q), .int al, .ref mq, .long wd, .int wS, .int wo, .int fw])), (mp, .inl (X.2.1, 12, .inl (M))), (ms, .inl (X.2.1, 60, .inl (S)))]) (wc' := []) (wn := [(mo, .inr (3, [.ref mp, .ref ms, .ref mt, .int (nI q), .int al, .ref mq, .long wd, .int wS, .int wo, .int fw])), (mp, .inl (X.2.1, 12, .inl (M))), (ms, .inl (X.2.1, 60, .inl (S)))]) (r_S C (As := [.int x, .int y]) (rest := []) (kX3_isVector l X x y ) (va_cwS 2 C.ts gX3_addPlate_X3_isVector rfl rfl rfl (by decide +kernel) ⟨Nat.le_of_ble_eq_true rfl, Nat.le_of_ble_eq_true rfl⟩) [] (by decide) rfl rfl (Nat.le_of_ble_eq_true rfl) rfl dX3_addPlate_2 ⟨Nat.zero_le _, Nat.zero_le _⟩) [] [0, 1, 2] [0, 1, 2] rfl rfl (by decide) (by decide) (by decide) rfl ?_
  refine s_bif_ne C (pc := 5) (tgt := 10) dX3_addPlate_5 (by decide) (fun c5 => ?_) (fun h => absurd (hs) h)
  refine s_aload_n C (pc := 10) dX3_addPlate_10 rfl 0 rfl ?_
  refine s_get C (pc := 11) (T := TX3) (N := 10) (fun _ h => (List.mem_cons_of_mem _ (List.mem_append_right _ h))) 0 rfl rfl 0 (by decide) (List.mem_of_getElem? (i := 1) rfl) rfl rfl dX3_addPlate_11 ?_
  refine s_iconst C (pc := 14) (v := 0) dX3_addPlate_14 (by decide) ?_
  refine s_iald C (pc := 15) 1 rfl 0 rfl (by decide) (by decide) dX3_addPlate_15 ?_
  refine s_top C (y := nI n) (hM.1) ?_
  refine s_iconst C (pc := 16) (v := 4) dX3_addPlate_16 (by decide) ?_
  refine s_icmp_ne C (pc := 17) (tgt := 23) dX3_addPlate_17 (by decide) (fun c17 => ?_) (fun h => absurd h (fun h2 => absurd (nat_eq (a := n) (b := 4) (by omega) (by omega) h2) (by omega)))
  refine s_aload_n C (pc := 23) dX3_addPlate_23 rfl 0 rfl ?_
  refine s_callv C (pc := 24) (wr := []) (wc' := [(mo, .inr (3, [.ref mp, .ref ms, .ref mt, .int (nI (rcQ q)), .int al, .ref mq, .long wd, .int wS, .int wo, .int fw])), (mp, .inl (X.2.1, 12, .inl (M))), (ms, .inl (X.2.1, 60, .inl (rvS S M q)))]) (wn := [(mo, .inr (3, [.ref mp, .ref ms, .ref mt, .int (nI (rcQ q)), .int al, .ref mq, .long wd, .int wS, .int wo, .int fw])), (mp, .inl (X.2.1, 12, .inl (M))), (ms, .inl (X.2.1, 60, .inl (rvS S M q)))]) (r_V C (As := []) (rest := []) (kX3_records l X mo mp ms mt mq al wd wS wo fw M S q (by first | assumption | omega | decide)) (cwV 0 C.ts gX3_addPlate_X3_records rfl rfl rfl (by decide +kernel) ⟨Nat.le_of_ble_eq_true rfl, Nat.le_of_ble_eq_true rfl⟩) (q0 := 0) rfl rfl [0, 1, 2] (by decide) rfl rfl (Nat.le_of_ble_eq_true rfl) rfl dX3_addPlate_24 ⟨Nat.zero_le _, Nat.zero_le _⟩) [0, 1, 2] [] [0, 1, 2] rfl rfl (by decide) (by decide) (by decide) rfl ?_
  refine s_aload_n C (pc := 27) dX3_addPlate_27 rfl 0 rfl ?_
  refine s_get C (pc := 28) (T := TX3) (N := 10) (fun _ h => (List.mem_cons_of_mem _ (List.mem_append_right _ h))) 0 rfl rfl 0 (by decide) (List.mem_of_getElem? (i := 1) rfl) rfl rfl dX3_addPlate_28 ?_
  refine s_iconst C (pc := 31) (v := 0) dX3_addPlate_31 (by decide) ?_
  refine s_iald C (pc := 32) 1 rfl 0 rfl (by decide) (by decide) dX3_addPlate_32 ?_
  refine s_top C (y := nI n) (hM.1) ?_
  refine s_istore_n C (pc := 33) (ls' := [(3, .int (nI n)), (0, .ref mo), (1, .int x), (2, .int y)]) dX3_addPlate_33 rfl (by decide) rfl ?_
  refine s_aload_n C (pc := 34) dX3_addPlate_34 rfl 1 rfl ?_
  refine s_get C (pc := 35) (T := TX3) (N := 10) (fun _ h => (List.mem_cons_of_mem _ (List.mem_append_right _ h))) 0 rfl rfl 0 (by decide) (List.mem_of_getElem? (i := 1) rfl) rfl rfl dX3_addPlate_35 ?_
  refine s_iconst C (pc := 38) (v := 4) dX3_addPlate_38 (by decide) ?_
  refine s_iconst C (pc := 39) (v := 2) dX3_addPlate_39 (by decide) ?_
  refine s_iload_n C (pc := 40) dX3_addPlate_40 rfl 0 rfl ?_
  refine s_imul C (pc := 41) dX3_addPlate_41 ?_
  refine s_iadd C (pc := 42) dX3_addPlate_42 ?_
  refine s_iload_n C (pc := 43) dX3_addPlate_43 rfl 2 rfl ?_
  refine s_iast C (pc := 44) (ws' := [(mo, .inr (3, [.ref mp, .ref ms, .ref mt, .int (nI (rcQ q)), .int al, .ref mq, .long wd, .int wS, .int wo, .int fw])), (mp, .inl (X.2.1, 12, .inl (upd M (4 + 2 * n) x))), (ms, .inl (X.2.1, 60, .inl (rvS S M q)))]) 1 rfl (4 + 2 * n) (ix4 n) (by omega) (by decide) rfl dX3_addPlate_44 ?_
  refine s_aload_n C (pc := 45) dX3_addPlate_45 rfl 1 rfl ?_
  refine s_get C (pc := 46) (T := TX3) (N := 10) (fun _ h => (List.mem_cons_of_mem _ (List.mem_append_right _ h))) 0 rfl rfl 0 (by decide) (List.mem_of_getElem? (i := 1) rfl) rfl rfl dX3_addPlate_46 ?_
  refine s_iconst C (pc := 49) (v := 4) dX3_addPlate_49 (by decide) ?_
  refine s_iconst C (pc := 50) (v := 2) dX3_addPlate_50 (by decide) ?_
  refine s_iload_n C (pc := 51) dX3_addPlate_51 rfl 0 rfl ?_
  refine s_imul C (pc := 52) dX3_addPlate_52 ?_
  refine s_iadd C (pc := 53) dX3_addPlate_53 ?_
  refine s_iconst C (pc := 54) (v := 1) dX3_addPlate_54 (by decide) ?_
  refine s_iadd C (pc := 55) dX3_addPlate_55 ?_
  refine s_iload_n C (pc := 56) dX3_addPlate_56 rfl 3 rfl ?_
  refine s_iast C (pc := 57) (ws' := [(mo, .inr (3, [.ref mp, .ref ms, .ref mt, .int (nI (rcQ q)), .int al, .ref mq, .long wd, .int wS, .int wo, .int fw])), (mp, .inl (X.2.1, 12, .inl (upd (upd M (4 + 2 * n) x) (4 + 2 * n + 1) y))), (ms, .inl (X.2.1, 60, .inl (rvS S M q)))]) 1 rfl (4 + 2 * n + 1) (by rw [ix4, nI_1]) (by omega) (by decide) rfl dX3_addPlate_57 ?_
  refine s_aload_n C (pc := 58) dX3_addPlate_58 rfl 1 rfl ?_
  refine s_get C (pc := 59) (T := TX3) (N := 10) (fun _ h => (List.mem_cons_of_mem _ (List.mem_append_right _ h))) 0 rfl rfl 0 (by decide) (List.mem_of_getElem? (i := 1) rfl) rfl rfl dX3_addPlate_59 ?_
  refine s_iconst C (pc := 62) (v := 0) dX3_addPlate_62 (by decide) ?_
  refine s_dup2 C (pc := 63) dX3_addPlate_63 rfl rfl ?_
  refine s_iald C (pc := 64) 1 rfl 0 rfl (by decide) (by decide) dX3_addPlate_64 ?_
  refine s_top C (y := nI n) ((by rw [pk_un (by omega), pk_un (by omega)]; exact hM.1)) ?_
  refine s_iconst C (pc := 65) (v := 1) dX3_addPlate_65 (by decide) ?_
  refine s_iadd C (pc := 66) dX3_addPlate_66 ?_
  refine s_top C (y := nI (n + 1)) (nI_add _ _) ?_
  refine s_iast C (pc := 67) (ws' := [(mo, .inr (3, [.ref mp, .ref ms, .ref mt, .int (nI (rcQ q)), .int al, .ref mq, .long wd, .int wS, .int wo, .int fw])), (mp, .inl (X.2.1, 12, .inl (upd (upd (upd M (4 + 2 * n) x) (4 + 2 * n + 1) y) 0 (nI (n + 1))))), (ms, .inl (X.2.1, 60, .inl (rvS S M q)))]) 1 rfl 0 rfl (by decide) (by decide) rfl dX3_addPlate_67 ?_
  refine s_iload_n C (pc := 68) dX3_addPlate_68 rfl 0 rfl ?_
  exact s_iret C (pc := 69) hr hlk [0, 1, 2] (by decide) (rfl) (rfl) dX3_addPlate_69

set_option maxHeartbeats 4000000 in
set_option maxRecDepth 100000 in
theorem kX3_setScreen_bad1 (l : Launch) (X : XT) (mo mp ms mt mq : Nat) (sts al : Int32) (wd : Int64) (wS wo fw : Int32) (M : Nat → Int32) (n : Nat) (P Q : Nat → Int32) (o f ll : Int32) (i x y : Int32) (hb : ¬ hv n i) (hM : MR M n P Q o f ll) (hn : n ≤ 4) : KI l yX3_setScreen wsX3_setScreen ({ frames := 2, cells := 0, slots := 0, locals := 43 }) X [.ref mo, .int i, .int x, .int y] [(mo, .inr (3, [.ref mp, .ref ms, .ref mt, .int sts, .int al, .ref mq, .long wd, .int wS, .int wo, .int fw])), (mp, .inl (X.2.1, 12, .inl (M)))] [(mo, .inr (3, [.ref mp, .ref ms, .ref mt, .int sts, .int al, .ref mq, .long wd, .int wS, .int wo, .int fw])), (mp, .inl (X.2.1, 12, .inl (M)))] (-1) := by
  refine k_ofI (cc := cX3_setScreen) (own := RX3) (maxL := 5) (ret := (some .int)) (ls0 := [(0, .ref mo), (1, .int i), (2, .int x), (3, .int y)]) (by decide) rfl rfl (Nat.le_of_ble_eq_true rfl) rfl ?_
  intro p e s m args below meth c A g C hr hlk
  refine s_aload_n C (pc := 0) dX3_setScreen_0 rfl 0 rfl ?_
  refine s_iload_n C (pc := 1) dX3_setScreen_1 rfl 1 rfl ?_
  refine s_calli C (pc := 2) (wr := []) (wc' := [(mo, .inr (3, [.ref mp, .ref ms, .ref mt, .int sts, .int al, .ref mq, .long wd, .int wS, .int wo, .int fw])), (mp, .inl (X.2.1, 12, .inl (M)))]) (wn := [(mo, .inr (3, [.ref mp, .ref ms, .ref mt, .int sts, .int al, .ref mq, .long wd, .int wS, .int wo, .int fw])), (mp, .inl (X.2.1, 12, .inl (M)))]) (r_V C (As := [.int i]) (rest := []) (kX3_isPlate l X mo mp ms mt mq sts al wd wS wo fw M n P Q o f ll i (by first | assumption | omega | decide) (by first | assumption | omega | decide)) (cwV 1 C.ts gX3_setScreen_X3_isPlate rfl rfl rfl (by decide +kernel) ⟨Nat.le_of_ble_eq_true rfl, Nat.le_of_ble_eq_true rfl⟩) (q0 := 0) rfl rfl [0, 1] (by decide) rfl rfl (Nat.le_of_ble_eq_true rfl) rfl dX3_setScreen_2 ⟨Nat.zero_le _, Nat.zero_le _⟩) [0, 1] [] [0, 1] rfl rfl (by decide) (by decide) (by decide) rfl ?_
  refine s_bif_eq C (pc := 5) (tgt := 16) dX3_setScreen_5 (by decide) (fun c5 => ?_) (fun h => absurd h (hb))
  refine s_iconst C (pc := 16) (v := (-1)) dX3_setScreen_16 (by decide) ?_
  exact s_iret C (pc := 17) hr hlk [0, 1] (by decide) (rfl) (rfl) dX3_setScreen_17

set_option maxHeartbeats 4000000 in
set_option maxRecDepth 100000 in
theorem kX3_setScreen_bad2 (l : Launch) (X : XT) (mo mp ms mt mq : Nat) (sts al : Int32) (wd : Int64) (wS wo fw : Int32) (M : Nat → Int32) (n : Nat) (P Q : Nat → Int32) (o f ll : Int32) (k : Nat) (x y : Int32) (hb : ¬ (1 ≤ x ∧ x ≤ 20 ∧ 0 ≤ y ∧ y ≤ 20)) (hM : MR M n P Q o f ll) (hk : k < n) (hn : n ≤ 4) : KI l yX3_setScreen wsX3_setScreen ({ frames := 2, cells := 0, slots := 0, locals := 43 }) X [.ref mo, .int (nI k), .int x, .int y] [(mo, .inr (3, [.ref mp, .ref ms, .ref mt, .int sts, .int al, .ref mq, .long wd, .int wS, .int wo, .int fw])), (mp, .inl (X.2.1, 12, .inl (M)))] [(mo, .inr (3, [.ref mp, .ref ms, .ref mt, .int sts, .int al, .ref mq, .long wd, .int wS, .int wo, .int fw])), (mp, .inl (X.2.1, 12, .inl (M)))] (-1) := by
  refine k_ofI (cc := cX3_setScreen) (own := RX3) (maxL := 5) (ret := (some .int)) (ls0 := [(0, .ref mo), (1, .int (nI k)), (2, .int x), (3, .int y)]) (by decide) rfl rfl (Nat.le_of_ble_eq_true rfl) rfl ?_
  intro p e s m args below meth c A g C hr hlk
  refine s_aload_n C (pc := 0) dX3_setScreen_0 rfl 0 rfl ?_
  refine s_iload_n C (pc := 1) dX3_setScreen_1 rfl 1 rfl ?_
  refine s_calli C (pc := 2) (wr := []) (wc' := [(mo, .inr (3, [.ref mp, .ref ms, .ref mt, .int sts, .int al, .ref mq, .long wd, .int wS, .int wo, .int fw])), (mp, .inl (X.2.1, 12, .inl (M)))]) (wn := [(mo, .inr (3, [.ref mp, .ref ms, .ref mt, .int sts, .int al, .ref mq, .long wd, .int wS, .int wo, .int fw])), (mp, .inl (X.2.1, 12, .inl (M)))]) (r_V C (As := [.int (nI k)]) (rest := []) (kX3_isPlate l X mo mp ms mt mq sts al wd wS wo fw M n P Q o f ll (nI k) (by first | assumption | omega | decide) (by first | assumption | omega | decide)) (cwV 1 C.ts gX3_setScreen_X3_isPlate rfl rfl rfl (by decide +kernel) ⟨Nat.le_of_ble_eq_true rfl, Nat.le_of_ble_eq_true rfl⟩) (q0 := 0) rfl rfl [0, 1] (by decide) rfl rfl (Nat.le_of_ble_eq_true rfl) rfl dX3_setScreen_2 ⟨Nat.zero_le _, Nat.zero_le _⟩) [0, 1] [] [0, 1] rfl rfl (by decide) (by decide) (by decide) rfl ?_
  refine s_bif_eq C (pc := 5) (tgt := 16) dX3_setScreen_5 (by decide) (fun h => absurd (hv_of (by omega) (by omega)) h) (fun c5 => ?_)
  refine s_iload_n C (pc := 8) dX3_setScreen_8 rfl 2 rfl ?_
  refine s_iload_n C (pc := 9) dX3_setScreen_9 rfl 3 rfl ?_
  refine s_calli C (pc := 10) (wr := [(mo, .inr (3, [.ref mp, .ref ms, .ref mt, .int sts, .int al, .ref mq, .long wd, .int wS, .int wo, .int fw])), (mp, .inl (X.2.1, 12, .inl (M)))]) (wc' := []) (wn := [(mo, .inr (3, [.ref mp, .ref ms, .ref mt, .int sts, .int al, .ref mq, .long wd, .int wS, .int wo, .int fw])), (mp, .inl (X.2.1, 12, .inl (M)))]) (r_S C (As := [.int x, .int y]) (rest := []) (kX3_isVector l X x y ) (va_cwS 2 C.ts gX3_setScreen_X3_isVector rfl rfl rfl (by decide +kernel) ⟨Nat.le_of_ble_eq_true rfl, Nat.le_of_ble_eq_true rfl⟩) [] (by decide) rfl rfl (Nat.le_of_ble_eq_true rfl) rfl dX3_setScreen_10 ⟨Nat.zero_le _, Nat.zero_le _⟩) [] [0, 1] [0, 1] rfl rfl (by decide) (by decide) (by decide) rfl ?_
  refine s_bif_ne C (pc := 13) (tgt := 18) dX3_setScreen_13 (by decide) (fun h => absurd h (hb)) (fun c13 => ?_)
  refine s_iconst C (pc := 16) (v := (-1)) dX3_setScreen_16 (by decide) ?_
  exact s_iret C (pc := 17) hr hlk [0, 1] (by decide) (rfl) (rfl) dX3_setScreen_17

set_option maxHeartbeats 4000000 in
set_option maxRecDepth 100000 in
theorem kX3_setScreen_ok (l : Launch) (X : XT) (mo mp ms mt mq : Nat) (al : Int32) (wd : Int64) (wS wo fw : Int32) (M : Nat → Int32) (n : Nat) (P Q : Nat → Int32) (o f ll : Int32) (S : Nat → Int32) (q : Nat) (k : Nat) (x y : Int32) (hs : 1 ≤ x ∧ x ≤ 20 ∧ 0 ≤ y ∧ y ≤ 20) (hM : MR M n P Q o f ll) (hk : k < n) (hn : n ≤ 4) (hq5 : q ≤ 5) : KI l yX3_setScreen wsX3_setScreen ({ frames := 2, cells := 0, slots := 0, locals := 43 }) X [.ref mo, .int (nI k), .int x, .int y] [(mo, .inr (3, [.ref mp, .ref ms, .ref mt, .int (nI q), .int al, .ref mq, .long wd, .int wS, .int wo, .int fw])), (mp, .inl (X.2.1, 12, .inl (M))), (ms, .inl (X.2.1, 60, .inl (S)))] [(mo, .inr (3, [.ref mp, .ref ms, .ref mt, .int (nI (rcQ q)), .int al, .ref mq, .long wd, .int wS, .int wo, .int fw])), (mp, .inl (X.2.1, 12, .inl (upd (upd M (4 + 2 * k) x) (4 + 2 * k + 1) y))), (ms, .inl (X.2.1, 60, .inl (rvS S M q)))] (ar P Q k) := by
  refine k_ofI (cc := cX3_setScreen) (own := RX3) (maxL := 5) (ret := (some .int)) (ls0 := [(0, .ref mo), (1, .int (nI k)), (2, .int x), (3, .int y)]) (by decide) rfl rfl (Nat.le_of_ble_eq_true rfl) rfl ?_
  intro p e s m args below meth c A g C hr hlk
  refine s_aload_n C (pc := 0) dX3_setScreen_0 rfl 0 rfl ?_
  refine s_iload_n C (pc := 1) dX3_setScreen_1 rfl 1 rfl ?_
  refine s_calli C (pc := 2) (wr := [(ms, .inl (X.2.1, 60, .inl (S)))]) (wc' := [(mo, .inr (3, [.ref mp, .ref ms, .ref mt, .int (nI q), .int al, .ref mq, .long wd, .int wS, .int wo, .int fw])), (mp, .inl (X.2.1, 12, .inl (M)))]) (wn := [(mo, .inr (3, [.ref mp, .ref ms, .ref mt, .int (nI q), .int al, .ref mq, .long wd, .int wS, .int wo, .int fw])), (mp, .inl (X.2.1, 12, .inl (M))), (ms, .inl (X.2.1, 60, .inl (S)))]) (r_V C (As := [.int (nI k)]) (rest := []) (kX3_isPlate l X mo mp ms mt mq (nI q) al wd wS wo fw M n P Q o f ll (nI k) (by first | assumption | omega | decide) (by first | assumption | omega | decide)) (cwV 1 C.ts gX3_setScreen_X3_isPlate rfl rfl rfl (by decide +kernel) ⟨Nat.le_of_ble_eq_true rfl, Nat.le_of_ble_eq_true rfl⟩) (q0 := 0) rfl rfl [0, 1] (by decide) rfl rfl (Nat.le_of_ble_eq_true rfl) rfl dX3_setScreen_2 ⟨Nat.zero_le _, Nat.zero_le _⟩) [0, 1] [2] [1, 2, 0] rfl rfl (by decide) (by decide) (by decide) rfl ?_
  refine s_bif_eq C (pc := 5) (tgt := 16) dX3_setScreen_5 (by decide) (fun h => absurd (hv_of (by omega) (by omega)) h) (fun c5 => ?_)
  refine s_iload_n C (pc := 8) dX3_setScreen_8 rfl 2 rfl ?_
  refine s_iload_n C (pc := 9) dX3_setScreen_9 rfl 3 rfl ?_
  refine s_calli C (pc := 10) (wr := [(mo, .inr (3, [.ref mp, .ref ms, .ref mt, .int (nI q), .int al, .ref mq, .long wd, .int wS, .int wo, .int fw])), (mp, .inl (X.2.1, 12, .inl (M))), (ms, .inl (X.2.1, 60, .inl (S)))]) (wc' := []) (wn := [(mo, .inr (3, [.ref mp, .ref ms, .ref mt, .int (nI q), .int al, .ref mq, .long wd, .int wS, .int wo, .int fw])), (mp, .inl (X.2.1, 12, .inl (M))), (ms, .inl (X.2.1, 60, .inl (S)))]) (r_S C (As := [.int x, .int y]) (rest := []) (kX3_isVector l X x y ) (va_cwS 2 C.ts gX3_setScreen_X3_isVector rfl rfl rfl (by decide +kernel) ⟨Nat.le_of_ble_eq_true rfl, Nat.le_of_ble_eq_true rfl⟩) [] (by decide) rfl rfl (Nat.le_of_ble_eq_true rfl) rfl dX3_setScreen_10 ⟨Nat.zero_le _, Nat.zero_le _⟩) [] [0, 1, 2] [0, 1, 2] rfl rfl (by decide) (by decide) (by decide) rfl ?_
  refine s_bif_ne C (pc := 13) (tgt := 18) dX3_setScreen_13 (by decide) (fun c13 => ?_) (fun h => absurd (hs) h)
  refine s_aload_n C (pc := 18) dX3_setScreen_18 rfl 0 rfl ?_
  refine s_callv C (pc := 19) (wr := []) (wc' := [(mo, .inr (3, [.ref mp, .ref ms, .ref mt, .int (nI (rcQ q)), .int al, .ref mq, .long wd, .int wS, .int wo, .int fw])), (mp, .inl (X.2.1, 12, .inl (M))), (ms, .inl (X.2.1, 60, .inl (rvS S M q)))]) (wn := [(mo, .inr (3, [.ref mp, .ref ms, .ref mt, .int (nI (rcQ q)), .int al, .ref mq, .long wd, .int wS, .int wo, .int fw])), (mp, .inl (X.2.1, 12, .inl (M))), (ms, .inl (X.2.1, 60, .inl (rvS S M q)))]) (r_V C (As := []) (rest := []) (kX3_records l X mo mp ms mt mq al wd wS wo fw M S q (by first | assumption | omega | decide)) (cwV 0 C.ts gX3_setScreen_X3_records rfl rfl rfl (by decide +kernel) ⟨Nat.le_of_ble_eq_true rfl, Nat.le_of_ble_eq_true rfl⟩) (q0 := 0) rfl rfl [0, 1, 2] (by decide) rfl rfl (Nat.le_of_ble_eq_true rfl) rfl dX3_setScreen_19 ⟨Nat.zero_le _, Nat.zero_le _⟩) [0, 1, 2] [] [0, 1, 2] rfl rfl (by decide) (by decide) (by decide) rfl ?_
  refine s_aload_n C (pc := 22) dX3_setScreen_22 rfl 0 rfl ?_
  refine s_iload_n C (pc := 23) dX3_setScreen_23 rfl 1 rfl ?_
  refine s_calli C (pc := 24) (wr := [(ms, .inl (X.2.1, 60, .inl (rvS S M q)))]) (wc' := [(mo, .inr (3, [.ref mp, .ref ms, .ref mt, .int (nI (rcQ q)), .int al, .ref mq, .long wd, .int wS, .int wo, .int fw])), (mp, .inl (X.2.1, 12, .inl (M)))]) (wn := [(mo, .inr (3, [.ref mp, .ref ms, .ref mt, .int (nI (rcQ q)), .int al, .ref mq, .long wd, .int wS, .int wo, .int fw])), (mp, .inl (X.2.1, 12, .inl (M))), (ms, .inl (X.2.1, 60, .inl (rvS S M q)))]) (r_V C (As := [.int (nI k)]) (rest := []) (kX3_areaOf l X mo mp ms mt mq (nI (rcQ q)) al wd wS wo fw M n P Q o f ll k (by first | assumption | omega | decide) (by first | assumption | omega | decide) (by first | assumption | omega | decide)) (cwV 1 C.ts gX3_setScreen_X3_areaOf rfl rfl rfl (by decide +kernel) ⟨Nat.le_of_ble_eq_true rfl, Nat.le_of_ble_eq_true rfl⟩) (q0 := 0) rfl rfl [0, 1] (by decide) rfl rfl (Nat.le_of_ble_eq_true rfl) rfl dX3_setScreen_24 ⟨Nat.zero_le _, Nat.zero_le _⟩) [0, 1] [2] [1, 2, 0] rfl rfl (by decide) (by decide) (by decide) rfl ?_
  refine s_istore C (pc := 27) (ls' := [(4, .int (ar P Q k)), (0, .ref mo), (1, .int (nI k)), (2, .int x), (3, .int y)]) dX3_setScreen_27 (by decide) rfl ?_
  refine s_aload_n C (pc := 29) dX3_setScreen_29 rfl 1 rfl ?_
  refine s_get C (pc := 30) (T := TX3) (N := 10) (fun _ h => (List.mem_cons_of_mem _ (List.mem_append_right _ h))) 0 rfl rfl 0 (by decide) (List.mem_of_getElem? (i := 1) rfl) rfl rfl dX3_setScreen_30 ?_
  refine s_iconst C (pc := 33) (v := 4) dX3_setScreen_33 (by decide) ?_
  refine s_iconst C (pc := 34) (v := 2) dX3_setScreen_34 (by decide) ?_
  refine s_iload_n C (pc := 35) dX3_setScreen_35 rfl 2 rfl ?_
  refine s_imul C (pc := 36) dX3_setScreen_36 ?_
  refine s_iadd C (pc := 37) dX3_setScreen_37 ?_
  refine s_iload_n C (pc := 38) dX3_setScreen_38 rfl 3 rfl ?_
  refine s_iast C (pc := 39) (ws' := [(mo, .inr (3, [.ref mp, .ref ms, .ref mt, .int (nI (rcQ q)), .int al, .ref mq, .long wd, .int wS, .int wo, .int fw])), (mp, .inl (X.2.1, 12, .inl (upd M (4 + 2 * k) x))), (ms, .inl (X.2.1, 60, .inl (rvS S M q)))]) 1 rfl (4 + 2 * k) (ix4 k) (by omega) (by decide) rfl dX3_setScreen_39 ?_
  refine s_aload_n C (pc := 40) dX3_setScreen_40 rfl 1 rfl ?_
  refine s_get C (pc := 41) (T := TX3) (N := 10) (fun _ h => (List.mem_cons_of_mem _ (List.mem_append_right _ h))) 0 rfl rfl 0 (by decide) (List.mem_of_getElem? (i := 1) rfl) rfl rfl dX3_setScreen_41 ?_
  refine s_iconst C (pc := 44) (v := 4) dX3_setScreen_44 (by decide) ?_
  refine s_iconst C (pc := 45) (v := 2) dX3_setScreen_45 (by decide) ?_
  refine s_iload_n C (pc := 46) dX3_setScreen_46 rfl 2 rfl ?_
  refine s_imul C (pc := 47) dX3_setScreen_47 ?_
  refine s_iadd C (pc := 48) dX3_setScreen_48 ?_
  refine s_iconst C (pc := 49) (v := 1) dX3_setScreen_49 (by decide) ?_
  refine s_iadd C (pc := 50) dX3_setScreen_50 ?_
  refine s_iload_n C (pc := 51) dX3_setScreen_51 rfl 4 rfl ?_
  refine s_iast C (pc := 52) (ws' := [(mo, .inr (3, [.ref mp, .ref ms, .ref mt, .int (nI (rcQ q)), .int al, .ref mq, .long wd, .int wS, .int wo, .int fw])), (mp, .inl (X.2.1, 12, .inl (upd (upd M (4 + 2 * k) x) (4 + 2 * k + 1) y))), (ms, .inl (X.2.1, 60, .inl (rvS S M q)))]) 1 rfl (4 + 2 * k + 1) (by rw [ix4, nI_1]) (by omega) (by decide) rfl dX3_setScreen_52 ?_
  refine s_iload C (pc := 53) dX3_setScreen_53 0 rfl ?_
  exact s_iret C (pc := 55) hr hlk [0, 1, 2] (by decide) (rfl) (rfl) dX3_setScreen_55

set_option maxHeartbeats 4000000 in
set_option maxRecDepth 100000 in
theorem kX3_removePlate_bad (l : Launch) (X : XT) (mo mp ms mt mq : Nat) (sts al : Int32) (wd : Int64) (wS wo fw : Int32) (M : Nat → Int32) (n : Nat) (P Q : Nat → Int32) (o f ll : Int32) (i : Int32) (hb : ¬ hv n i) (hM : MR M n P Q o f ll) (hn : n ≤ 4) : KI l yX3_removePlate wsX3_removePlate ({ frames := 2, cells := 0, slots := 0, locals := 43 }) X [.ref mo, .int i] [(mo, .inr (3, [.ref mp, .ref ms, .ref mt, .int sts, .int al, .ref mq, .long wd, .int wS, .int wo, .int fw])), (mp, .inl (X.2.1, 12, .inl (M)))] [(mo, .inr (3, [.ref mp, .ref ms, .ref mt, .int sts, .int al, .ref mq, .long wd, .int wS, .int wo, .int fw])), (mp, .inl (X.2.1, 12, .inl (M)))] (-1) := by
  refine k_ofI (cc := cX3_removePlate) (own := RX3) (maxL := 3) (ret := (some .int)) (ls0 := [(0, .ref mo), (1, .int i)]) (by decide) rfl rfl (Nat.le_of_ble_eq_true rfl) rfl ?_
  intro p e s m args below meth c A g C hr hlk
  refine s_aload_n C (pc := 0) dX3_removePlate_0 rfl 0 rfl ?_
  refine s_iload_n C (pc := 1) dX3_removePlate_1 rfl 1 rfl ?_
  refine s_calli C (pc := 2) (wr := []) (wc' := [(mo, .inr (3, [.ref mp, .ref ms, .ref mt, .int sts, .int al, .ref mq, .long wd, .int wS, .int wo, .int fw])), (mp, .inl (X.2.1, 12, .inl (M)))]) (wn := [(mo, .inr (3, [.ref mp, .ref ms, .ref mt, .int sts, .int al, .ref mq, .long wd, .int wS, .int wo, .int fw])), (mp, .inl (X.2.1, 12, .inl (M)))]) (r_V C (As := [.int i]) (rest := []) (kX3_isPlate l X mo mp ms mt mq sts al wd wS wo fw M n P Q o f ll i (by first | assumption | omega | decide) (by first | assumption | omega | decide)) (cwV 1 C.ts gX3_removePlate_X3_isPlate rfl rfl rfl (by decide +kernel) ⟨Nat.le_of_ble_eq_true rfl, Nat.le_of_ble_eq_true rfl⟩) (q0 := 0) rfl rfl [0, 1] (by decide) rfl rfl (Nat.le_of_ble_eq_true rfl) rfl dX3_removePlate_2 ⟨Nat.zero_le _, Nat.zero_le _⟩) [0, 1] [] [0, 1] rfl rfl (by decide) (by decide) (by decide) rfl ?_
  refine s_bif_ne C (pc := 5) (tgt := 10) dX3_removePlate_5 (by decide) (fun h => absurd h (hb)) (fun c5 => ?_)
  refine s_iconst C (pc := 8) (v := (-1)) dX3_removePlate_8 (by decide) ?_
  exact s_iret C (pc := 9) hr hlk [0, 1] (by decide) (rfl) (rfl) dX3_removePlate_9

set_option maxHeartbeats 4000000 in
set_option maxRecDepth 100000 in
theorem kX3_removePlate_ok (l : Launch) (X : XT) (mo mp ms mt mq : Nat) (al : Int32) (wd : Int64) (wS wo fw : Int32) (M : Nat → Int32) (n : Nat) (P Q : Nat → Int32) (o f ll : Int32) (S : Nat → Int32) (q : Nat) (k : Nat) (hM : MR M (n + 1) P Q o f ll) (hk : k ≤ n) (hn : n < 4) (hq5 : q ≤ 5) : KI l yX3_removePlate wsX3_removePlate ({ frames := 2, cells := 0, slots := 0, locals := 43 }) X [.ref mo, .int (nI k)] [(mo, .inr (3, [.ref mp, .ref ms, .ref mt, .int (nI q), .int al, .ref mq, .long wd, .int wS, .int wo, .int fw])), (mp, .inl (X.2.1, 12, .inl (M))), (ms, .inl (X.2.1, 60, .inl (S)))] [(mo, .inr (3, [.ref mp, .ref ms, .ref mt, .int (nI (rcQ q)), .int al, .ref mq, .long wd, .int wS, .int wo, .int fw])), (mp, .inl (X.2.1, 12, .inl (upd (rmM M k (6 - 2 * k)) 0 (nI n)))), (ms, .inl (X.2.1, 60, .inl (rvS S M q)))] (nI n) := by
  refine k_ofI (cc := cX3_removePlate) (own := RX3) (maxL := 3) (ret := (some .int)) (ls0 := [(0, .ref mo), (1, .int (nI k))]) (by decide) rfl rfl (Nat.le_of_ble_eq_true rfl) rfl ?_
  intro p e s m args below meth c A g C hr hlk
  refine s_aload_n C (pc := 0) dX3_removePlate_0 rfl 0 rfl ?_
  refine s_iload_n C (pc := 1) dX3_removePlate_1 rfl 1 rfl ?_
  refine s_calli C (pc := 2) (wr := [(ms, .inl (X.2.1, 60, .inl (S)))]) (wc' := [(mo, .inr (3, [.ref mp, .ref ms, .ref mt, .int (nI q), .int al, .ref mq, .long wd, .int wS, .int wo, .int fw])), (mp, .inl (X.2.1, 12, .inl (M)))]) (wn := [(mo, .inr (3, [.ref mp, .ref ms, .ref mt, .int (nI q), .int al, .ref mq, .long wd, .int wS, .int wo, .int fw])), (mp, .inl (X.2.1, 12, .inl (M))), (ms, .inl (X.2.1, 60, .inl (S)))]) (r_V C (As := [.int (nI k)]) (rest := []) (kX3_isPlate l X mo mp ms mt mq (nI q) al wd wS wo fw M (n + 1) P Q o f ll (nI k) (by first | assumption | omega | decide) (by first | assumption | omega | decide)) (cwV 1 C.ts gX3_removePlate_X3_isPlate rfl rfl rfl (by decide +kernel) ⟨Nat.le_of_ble_eq_true rfl, Nat.le_of_ble_eq_true rfl⟩) (q0 := 0) rfl rfl [0, 1] (by decide) rfl rfl (Nat.le_of_ble_eq_true rfl) rfl dX3_removePlate_2 ⟨Nat.zero_le _, Nat.zero_le _⟩) [0, 1] [2] [1, 2, 0] rfl rfl (by decide) (by decide) (by decide) rfl ?_
  refine s_bif_ne C (pc := 5) (tgt := 10) dX3_removePlate_5 (by decide) (fun c5 => ?_) (fun h => absurd (hv_of (n := n + 1) (by omega) (by omega)) h)
  refine s_aload_n C (pc := 10) dX3_removePlate_10 rfl 0 rfl ?_
  refine s_callv C (pc := 11) (wr := []) (wc' := [(mo, .inr (3, [.ref mp, .ref ms, .ref mt, .int (nI (rcQ q)), .int al, .ref mq, .long wd, .int wS, .int wo, .int fw])), (mp, .inl (X.2.1, 12, .inl (M))), (ms, .inl (X.2.1, 60, .inl (rvS S M q)))]) (wn := [(mo, .inr (3, [.ref mp, .ref ms, .ref mt, .int (nI (rcQ q)), .int al, .ref mq, .long wd, .int wS, .int wo, .int fw])), (mp, .inl (X.2.1, 12, .inl (M))), (ms, .inl (X.2.1, 60, .inl (rvS S M q)))]) (r_V C (As := []) (rest := []) (kX3_records l X mo mp ms mt mq al wd wS wo fw M S q (by first | assumption | omega | decide)) (cwV 0 C.ts gX3_removePlate_X3_records rfl rfl rfl (by decide +kernel) ⟨Nat.le_of_ble_eq_true rfl, Nat.le_of_ble_eq_true rfl⟩) (q0 := 0) rfl rfl [0, 1, 2] (by decide) rfl rfl (Nat.le_of_ble_eq_true rfl) rfl dX3_removePlate_11 ⟨Nat.zero_le _, Nat.zero_le _⟩) [0, 1, 2] [] [0, 1, 2] rfl rfl (by decide) (by decide) (by decide) rfl ?_
  refine s_iconst C (pc := 14) (v := 4) dX3_removePlate_14 (by decide) ?_
  refine s_iconst C (pc := 15) (v := 2) dX3_removePlate_15 (by decide) ?_
  refine s_iload_n C (pc := 16) dX3_removePlate_16 rfl 1 rfl ?_
  refine s_imul C (pc := 17) dX3_removePlate_17 ?_
  refine s_iadd C (pc := 18) dX3_removePlate_18 ?_
  refine s_top C (y := nI (4 + 2 * k)) (ix4 k) ?_
  refine s_istore_n C (pc := 19) (ls' := [(2, .int (nI (4 + 2 * k))), (0, .ref mo), (1, .int (nI k))]) dX3_removePlate_19 rfl (by decide) rfl ?_
  have L20 : ∀ (n_ : Nat) (d : Nat), (d ≤ 6 - 2 * k) → 7 - 2 * k ≤ d + n_ → g [(mo, .inr (3, [.ref mp, .ref ms, .ref mt, .int (nI (rcQ q)), .int al, .ref mq, .long wd, .int wS, .int wo, .int fw])), (mp, .inl (X.2.1, 12, .inl ((rmM M k d)))), (ms, .inl (X.2.1, 60, .inl (rvS S M q)))] 20 [(0, .ref mo), (2, .int (nI (4 + 2 * k + d)))] [] := by
    intro n_
    induction n_ with
    | zero =>
      intro d hd hf
      exact absurd hf (by omega)
    | succ n_ ih20 =>
      intro d hd hf20
      refine s_iload_n C (pc := 20) dX3_removePlate_20 rfl 1 rfl ?_
      refine s_bipush C (pc := 21) (v := 10) dX3_removePlate_21 (by decide) ?_
      refine s_icmp_ge C (pc := 23) (tgt := 46) dX3_removePlate_23 (by decide) (fun c23 => ?_) (fun c23 => ?_)
      · skip
        have e23 := nat_le (a := 10) (b := (4 + 2 * k + d)) (by omega) (by omega) c23
        have hs0 : 6 - 2 * k = d := by omega
        subst hs0
        refine s_aload_n C (pc := 46) dX3_removePlate_46 rfl 0 rfl ?_
        refine s_get C (pc := 47) (T := TX3) (N := 10) (fun _ h => (List.mem_cons_of_mem _ (List.mem_append_right _ h))) 0 rfl rfl 0 (by decide) (List.mem_of_getElem? (i := 1) rfl) rfl rfl dX3_removePlate_47 ?_
        refine s_iconst C (pc := 50) (v := 0) dX3_removePlate_50 (by decide) ?_
        refine s_dup2 C (pc := 51) dX3_removePlate_51 rfl rfl ?_
        refine s_iald C (pc := 52) 1 rfl 0 rfl (by decide) (by decide) dX3_removePlate_52 ?_
        refine s_top C (y := nI (n + 1)) (((rmM_lo M k _ 0 (by omega)).trans hM.1)) ?_
        refine s_iconst C (pc := 53) (v := 1) dX3_removePlate_53 (by decide) ?_
        refine s_isub C (pc := 54) dX3_removePlate_54 ?_
        refine s_top C (y := nI n) (nI_pred _) ?_
        refine s_iast C (pc := 55) (ws' := [(mo, .inr (3, [.ref mp, .ref ms, .ref mt, .int (nI (rcQ q)), .int al, .ref mq, .long wd, .int wS, .int wo, .int fw])), (mp, .inl (X.2.1, 12, .inl (upd (rmM M k (6 - 2 * k)) 0 (nI n)))), (ms, .inl (X.2.1, 60, .inl (rvS S M q)))]) 1 rfl 0 rfl (by decide) (by decide) rfl dX3_removePlate_55 ?_
        refine s_aload_n C (pc := 56) dX3_removePlate_56 rfl 0 rfl ?_
        refine s_get C (pc := 57) (T := TX3) (N := 10) (fun _ h => (List.mem_cons_of_mem _ (List.mem_append_right _ h))) 0 rfl rfl 0 (by decide) (List.mem_of_getElem? (i := 1) rfl) rfl rfl dX3_removePlate_57 ?_
        refine s_iconst C (pc := 60) (v := 0) dX3_removePlate_60 (by decide) ?_
        refine s_iald C (pc := 61) 1 rfl 0 rfl (by decide) (by decide) dX3_removePlate_61 ?_
        refine s_top C (y := nI n) (pk_us) ?_
        exact s_iret C (pc := 62) hr hlk [0, 1, 2] (by decide) (rfl) (rfl) dX3_removePlate_62
      · skip
        have e23 := nat_nle (a := 10) (b := (4 + 2 * k + d)) (by omega) (by omega) c23
        refine s_aload_n C (pc := 26) dX3_removePlate_26 rfl 0 rfl ?_
        refine s_get C (pc := 27) (T := TX3) (N := 10) (fun _ h => (List.mem_cons_of_mem _ (List.mem_append_right _ h))) 0 rfl rfl 0 (by decide) (List.mem_of_getElem? (i := 1) rfl) rfl rfl dX3_removePlate_27 ?_
        refine s_iload_n C (pc := 30) dX3_removePlate_30 rfl 1 rfl ?_
        refine s_aload_n C (pc := 31) dX3_removePlate_31 rfl 0 rfl ?_
        refine s_get C (pc := 32) (T := TX3) (N := 10) (fun _ h => (List.mem_cons_of_mem _ (List.mem_append_right _ h))) 0 rfl rfl 0 (by decide) (List.mem_of_getElem? (i := 1) rfl) rfl rfl dX3_removePlate_32 ?_
        refine s_iload_n C (pc := 35) dX3_removePlate_35 rfl 1 rfl ?_
        refine s_iconst C (pc := 36) (v := 2) dX3_removePlate_36 (by decide) ?_
        refine s_iadd C (pc := 37) dX3_removePlate_37 ?_
        refine s_top C (y := nI ((4 + 2 * k + d) + 2)) (nI_add _ _) ?_
        refine s_iald C (pc := 38) 1 rfl ((4 + 2 * k + d) + 2) rfl (by omega) (by decide) dX3_removePlate_38 ?_
        refine s_iast C (pc := 39) (ws' := [(mo, .inr (3, [.ref mp, .ref ms, .ref mt, .int (nI (rcQ q)), .int al, .ref mq, .long wd, .int wS, .int wo, .int fw])), (mp, .inl (X.2.1, 12, .inl (upd (rmM M k d) (4 + 2 * k + d) ((rmM M k d) ((4 + 2 * k + d) + 2))))), (ms, .inl (X.2.1, 60, .inl (rvS S M q)))]) 1 rfl (4 + 2 * k + d) rfl (by omega) (by decide) rfl dX3_removePlate_39 ?_
        refine s_iinc C (pc := 40) (v := nI ((4 + 2 * k + d) + 1)) (ls' := [(2, .int (nI ((4 + 2 * k + d) + 1))), (0, .ref mo)]) dX3_removePlate_40 1 rfl (nI_1 _) (by decide) rfl ?_
        refine s_goto C (pc := 43) (tgt := 20) dX3_removePlate_43 (by decide) ?_
        refine s_loc C (ls' := [(0, .ref mo), (2, .int (nI ((4 + 2 * k + d) + 1)))]) [1, 0] rfl ?_
        exact ih20 (d + 1) (by omega) (by omega)
  refine s_loc C (ls' := [(0, .ref mo), (2, .int (nI (4 + 2 * k)))]) [1, 0] rfl ?_
  exact L20 (7 - 2 * k) 0 (Nat.zero_le _) (by omega)

set_option maxHeartbeats 4000000 in
set_option maxRecDepth 100000 in
theorem kX3_setOrder_bad (l : Launch) (X : XT) (mo mp ms mt mq : Nat) (sts al : Int32) (wd : Int64) (wS wo fw : Int32) (M : Nat → Int32) (n : Nat) (P Q : Nat → Int32) (o f ll : Int32) (x : Int32) (hb : ¬ (1 ≤ x ∧ x ≤ 2)) : KI l yX3_setOrder wsX3_setOrder ({ frames := 1, cells := 0, slots := 0, locals := 22 }) X [.ref mo, .int x] [(mo, .inr (3, [.ref mp, .ref ms, .ref mt, .int sts, .int al, .ref mq, .long wd, .int wS, .int wo, .int fw])), (mp, .inl (X.2.1, 12, .inl (M)))] [(mo, .inr (3, [.ref mp, .ref ms, .ref mt, .int sts, .int al, .ref mq, .long wd, .int wS, .int wo, .int fw])), (mp, .inl (X.2.1, 12, .inl (M)))] (-1) := by
  refine k_ofI (cc := cX3_setOrder) (own := RX3) (maxL := 3) (ret := (some .int)) (ls0 := [(0, .ref mo), (1, .int x)]) (by decide) rfl rfl (Nat.le_of_ble_eq_true rfl) rfl ?_
  intro p e s m args below meth c A g C hr hlk
  refine s_iload_n C (pc := 0) dX3_setOrder_0 rfl 1 rfl ?_
  refine s_iconst C (pc := 1) (v := 1) dX3_setOrder_1 (by decide) ?_
  refine s_iconst C (pc := 2) (v := 2) dX3_setOrder_2 (by decide) ?_
  refine s_calli C (pc := 3) (wr := [(mo, .inr (3, [.ref mp, .ref ms, .ref mt, .int sts, .int al, .ref mq, .long wd, .int wS, .int wo, .int fw])), (mp, .inl (X.2.1, 12, .inl (M)))]) (wc' := []) (wn := [(mo, .inr (3, [.ref mp, .ref ms, .ref mt, .int sts, .int al, .ref mq, .long wd, .int wS, .int wo, .int fw])), (mp, .inl (X.2.1, 12, .inl (M)))]) (r_S C (As := [.int x, .int 1, .int 2]) (rest := []) (kX3_in l X x 1 2 ) (va_cwS 3 C.ts gX3_setOrder_X3_in rfl rfl rfl (by decide +kernel) ⟨Nat.le_of_ble_eq_true rfl, Nat.le_of_ble_eq_true rfl⟩) [] (by decide) rfl rfl (Nat.le_of_ble_eq_true rfl) rfl dX3_setOrder_3 ⟨Nat.zero_le _, Nat.zero_le _⟩) [] [0, 1] [0, 1] rfl rfl (by decide) (by decide) (by decide) rfl ?_
  refine s_bif_ne C (pc := 6) (tgt := 11) dX3_setOrder_6 (by decide) (fun h => absurd h (hb)) (fun c6 => ?_)
  refine s_iconst C (pc := 9) (v := (-1)) dX3_setOrder_9 (by decide) ?_
  exact s_iret C (pc := 10) hr hlk [0, 1] (by decide) (rfl) (rfl) dX3_setOrder_10

set_option maxHeartbeats 4000000 in
set_option maxRecDepth 100000 in
theorem kX3_setOrder_ok (l : Launch) (X : XT) (mo mp ms mt mq : Nat) (al : Int32) (wd : Int64) (wS wo fw : Int32) (M : Nat → Int32) (n : Nat) (P Q : Nat → Int32) (o f ll : Int32) (S : Nat → Int32) (q : Nat) (x : Int32) (hs : 1 ≤ x ∧ x ≤ 2) (hM : MR M n P Q o f ll) (hq5 : q ≤ 5) : KI l yX3_setOrder wsX3_setOrder ({ frames := 1, cells := 0, slots := 0, locals := 22 }) X [.ref mo, .int x] [(mo, .inr (3, [.ref mp, .ref ms, .ref mt, .int (nI q), .int al, .ref mq, .long wd, .int wS, .int wo, .int fw])), (mp, .inl (X.2.1, 12, .inl (M))), (ms, .inl (X.2.1, 60, .inl (S)))] [(mo, .inr (3, [.ref mp, .ref ms, .ref mt, .int (nI (rcQ q)), .int al, .ref mq, .long wd, .int wS, .int wo, .int fw])), (mp, .inl (X.2.1, 12, .inl (upd M 1 x))), (ms, .inl (X.2.1, 60, .inl (rvS S M q)))] (o) := by
  refine k_ofI (cc := cX3_setOrder) (own := RX3) (maxL := 3) (ret := (some .int)) (ls0 := [(0, .ref mo), (1, .int x)]) (by decide) rfl rfl (Nat.le_of_ble_eq_true rfl) rfl ?_
  intro p e s m args below meth c A g C hr hlk
  refine s_iload_n C (pc := 0) dX3_setOrder_0 rfl 1 rfl ?_
  refine s_iconst C (pc := 1) (v := 1) dX3_setOrder_1 (by decide) ?_
  refine s_iconst C (pc := 2) (v := 2) dX3_setOrder_2 (by decide) ?_
  refine s_calli C (pc := 3) (wr := [(mo, .inr (3, [.ref mp, .ref ms, .ref mt, .int (nI q), .int al, .ref mq, .long wd, .int wS, .int wo, .int fw])), (mp, .inl (X.2.1, 12, .inl (M))), (ms, .inl (X.2.1, 60, .inl (S)))]) (wc' := []) (wn := [(mo, .inr (3, [.ref mp, .ref ms, .ref mt, .int (nI q), .int al, .ref mq, .long wd, .int wS, .int wo, .int fw])), (mp, .inl (X.2.1, 12, .inl (M))), (ms, .inl (X.2.1, 60, .inl (S)))]) (r_S C (As := [.int x, .int 1, .int 2]) (rest := []) (kX3_in l X x 1 2 ) (va_cwS 3 C.ts gX3_setOrder_X3_in rfl rfl rfl (by decide +kernel) ⟨Nat.le_of_ble_eq_true rfl, Nat.le_of_ble_eq_true rfl⟩) [] (by decide) rfl rfl (Nat.le_of_ble_eq_true rfl) rfl dX3_setOrder_3 ⟨Nat.zero_le _, Nat.zero_le _⟩) [] [0, 1, 2] [0, 1, 2] rfl rfl (by decide) (by decide) (by decide) rfl ?_
  refine s_bif_ne C (pc := 6) (tgt := 11) dX3_setOrder_6 (by decide) (fun c6 => ?_) (fun h => absurd (hs) h)
  refine s_aload_n C (pc := 11) dX3_setOrder_11 rfl 0 rfl ?_
  refine s_callv C (pc := 12) (wr := []) (wc' := [(mo, .inr (3, [.ref mp, .ref ms, .ref mt, .int (nI (rcQ q)), .int al, .ref mq, .long wd, .int wS, .int wo, .int fw])), (mp, .inl (X.2.1, 12, .inl (M))), (ms, .inl (X.2.1, 60, .inl (rvS S M q)))]) (wn := [(mo, .inr (3, [.ref mp, .ref ms, .ref mt, .int (nI (rcQ q)), .int al, .ref mq, .long wd, .int wS, .int wo, .int fw])), (mp, .inl (X.2.1, 12, .inl (M))), (ms, .inl (X.2.1, 60, .inl (rvS S M q)))]) (r_V C (As := []) (rest := []) (kX3_records l X mo mp ms mt mq al wd wS wo fw M S q (by first | assumption | omega | decide)) (cwV 0 C.ts gX3_setOrder_X3_records rfl rfl rfl (by decide +kernel) ⟨Nat.le_of_ble_eq_true rfl, Nat.le_of_ble_eq_true rfl⟩) (q0 := 0) rfl rfl [0, 1, 2] (by decide) rfl rfl (Nat.le_of_ble_eq_true rfl) rfl dX3_setOrder_12 ⟨Nat.zero_le _, Nat.zero_le _⟩) [0, 1, 2] [] [0, 1, 2] rfl rfl (by decide) (by decide) (by decide) rfl ?_
  refine s_aload_n C (pc := 15) dX3_setOrder_15 rfl 0 rfl ?_
  refine s_get C (pc := 16) (T := TX3) (N := 10) (fun _ h => (List.mem_cons_of_mem _ (List.mem_append_right _ h))) 0 rfl rfl 0 (by decide) (List.mem_of_getElem? (i := 1) rfl) rfl rfl dX3_setOrder_16 ?_
  refine s_iconst C (pc := 19) (v := 1) dX3_setOrder_19 (by decide) ?_
  refine s_iald C (pc := 20) 1 rfl 1 rfl (by decide) (by decide) dX3_setOrder_20 ?_
  refine s_top C (y := o) (hM.2.1) ?_
  refine s_istore_n C (pc := 21) (ls' := [(2, .int o), (0, .ref mo), (1, .int x)]) dX3_setOrder_21 rfl (by decide) rfl ?_
  refine s_aload_n C (pc := 22) dX3_setOrder_22 rfl 1 rfl ?_
  refine s_get C (pc := 23) (T := TX3) (N := 10) (fun _ h => (List.mem_cons_of_mem _ (List.mem_append_right _ h))) 0 rfl rfl 0 (by decide) (List.mem_of_getElem? (i := 1) rfl) rfl rfl dX3_setOrder_23 ?_
  refine s_iconst C (pc := 26) (v := 1) dX3_setOrder_26 (by decide) ?_
  refine s_iload_n C (pc := 27) dX3_setOrder_27 rfl 2 rfl ?_
  refine s_iast C (pc := 28) (ws' := [(mo, .inr (3, [.ref mp, .ref ms, .ref mt, .int (nI (rcQ q)), .int al, .ref mq, .long wd, .int wS, .int wo, .int fw])), (mp, .inl (X.2.1, 12, .inl (upd M 1 x))), (ms, .inl (X.2.1, 60, .inl (rvS S M q)))]) 1 rfl 1 rfl (by decide) (by decide) rfl dX3_setOrder_28 ?_
  refine s_iload_n C (pc := 29) dX3_setOrder_29 rfl 0 rfl ?_
  exact s_iret C (pc := 30) hr hlk [0, 1, 2] (by decide) (rfl) (rfl) dX3_setOrder_30

set_option maxHeartbeats 4000000 in
set_option maxRecDepth 100000 in
theorem kX3_setLimits_bad (l : Launch) (X : XT) (mo mp ms mt mq : Nat) (sts al : Int32) (wd : Int64) (wS wo fw : Int32) (M : Nat → Int32) (n : Nat) (P Q : Nat → Int32) (o f ll : Int32) (x y : Int32) (hb : ¬ (1 ≤ x ∧ x ≤ 1000 ∧ x < y ∧ y ≤ 10000)) : KI l yX3_setLimits wsX3_setLimits ({ frames := 1, cells := 0, slots := 0, locals := 22 }) X [.ref mo, .int x, .int y] [(mo, .inr (3, [.ref mp, .ref ms, .ref mt, .int sts, .int al, .ref mq, .long wd, .int wS, .int wo, .int fw])), (mp, .inl (X.2.1, 12, .inl (M)))] [(mo, .inr (3, [.ref mp, .ref ms, .ref mt, .int sts, .int al, .ref mq, .long wd, .int wS, .int wo, .int fw])), (mp, .inl (X.2.1, 12, .inl (M)))] (-1) := by
  refine k_ofI (cc := cX3_setLimits) (own := RX3) (maxL := 4) (ret := (some .int)) (ls0 := [(0, .ref mo), (1, .int x), (2, .int y)]) (by decide) rfl rfl (Nat.le_of_ble_eq_true rfl) rfl ?_
  intro p e s m args below meth c A g C hr hlk
  refine s_iload_n C (pc := 0) dX3_setLimits_0 rfl 1 rfl ?_
  refine s_iconst C (pc := 1) (v := 1) dX3_setLimits_1 (by decide) ?_
  refine s_sipush C (pc := 2) (v := 1000) dX3_setLimits_2 (by decide) ?_
  refine s_calli C (pc := 5) (wr := [(mo, .inr (3, [.ref mp, .ref ms, .ref mt, .int sts, .int al, .ref mq, .long wd, .int wS, .int wo, .int fw])), (mp, .inl (X.2.1, 12, .inl (M)))]) (wc' := []) (wn := [(mo, .inr (3, [.ref mp, .ref ms, .ref mt, .int sts, .int al, .ref mq, .long wd, .int wS, .int wo, .int fw])), (mp, .inl (X.2.1, 12, .inl (M)))]) (r_S C (As := [.int x, .int 1, .int 1000]) (rest := []) (kX3_in l X x 1 1000 ) (va_cwS 3 C.ts gX3_setLimits_X3_in rfl rfl rfl (by decide +kernel) ⟨Nat.le_of_ble_eq_true rfl, Nat.le_of_ble_eq_true rfl⟩) [] (by decide) rfl rfl (Nat.le_of_ble_eq_true rfl) rfl dX3_setLimits_5 ⟨Nat.zero_le _, Nat.zero_le _⟩) [] [0, 1] [0, 1] rfl rfl (by decide) (by decide) (by decide) rfl ?_
  refine s_bif_eq C (pc := 8) (tgt := 27) dX3_setLimits_8 (by decide) (fun c8 => ?_) (fun c8 => ?_)
  · skip
    refine s_iconst C (pc := 27) (v := (-1)) dX3_setLimits_27 (by decide) ?_
    exact s_iret C (pc := 28) hr hlk [0, 1] (by decide) (rfl) (rfl) dX3_setLimits_28
  · skip
    refine s_iload_n C (pc := 11) dX3_setLimits_11 rfl 2 rfl ?_
    refine s_iconst C (pc := 12) (v := 2) dX3_setLimits_12 (by decide) ?_
    refine s_sipush C (pc := 13) (v := 10000) dX3_setLimits_13 (by decide) ?_
    refine s_calli C (pc := 16) (wr := [(mo, .inr (3, [.ref mp, .ref ms, .ref mt, .int sts, .int al, .ref mq, .long wd, .int wS, .int wo, .int fw])), (mp, .inl (X.2.1, 12, .inl (M)))]) (wc' := []) (wn := [(mo, .inr (3, [.ref mp, .ref ms, .ref mt, .int sts, .int al, .ref mq, .long wd, .int wS, .int wo, .int fw])), (mp, .inl (X.2.1, 12, .inl (M)))]) (r_S C (As := [.int y, .int 2, .int 10000]) (rest := []) (kX3_in l X y 2 10000 ) (va_cwS 3 C.ts gX3_setLimits_X3_in rfl rfl rfl (by decide +kernel) ⟨Nat.le_of_ble_eq_true rfl, Nat.le_of_ble_eq_true rfl⟩) [] (by decide) rfl rfl (Nat.le_of_ble_eq_true rfl) rfl dX3_setLimits_16 ⟨Nat.zero_le _, Nat.zero_le _⟩) [] [0, 1] [0, 1] rfl rfl (by decide) (by decide) (by decide) rfl ?_
    refine s_bif_eq C (pc := 19) (tgt := 27) dX3_setLimits_19 (by decide) (fun c19 => ?_) (fun c19 => ?_)
    · skip
      refine s_iconst C (pc := 27) (v := (-1)) dX3_setLimits_27 (by decide) ?_
      exact s_iret C (pc := 28) hr hlk [0, 1] (by decide) (rfl) (rfl) dX3_setLimits_28
    · skip
      refine s_iload_n C (pc := 22) dX3_setLimits_22 rfl 2 rfl ?_
      refine s_iload_n C (pc := 23) dX3_setLimits_23 rfl 1 rfl ?_
      refine s_icmp_gt C (pc := 24) (tgt := 29) dX3_setLimits_24 (by decide) (fun c24 => ?_) (fun c24 => ?_)
      · skip
        exact absurd ⟨c8.1, c8.2, c24, c19.2⟩ hb
      · skip
        refine s_iconst C (pc := 27) (v := (-1)) dX3_setLimits_27 (by decide) ?_
        exact s_iret C (pc := 28) hr hlk [0, 1] (by decide) (rfl) (rfl) dX3_setLimits_28

set_option maxHeartbeats 4000000 in
set_option maxRecDepth 100000 in
theorem kX3_setLimits_ok (l : Launch) (X : XT) (mo mp ms mt mq : Nat) (al : Int32) (wd : Int64) (wS wo fw : Int32) (M : Nat → Int32) (n : Nat) (P Q : Nat → Int32) (o f ll : Int32) (S : Nat → Int32) (q : Nat) (x y : Int32) (hs : 1 ≤ x ∧ x ≤ 1000 ∧ x < y ∧ y ≤ 10000) (hM : MR M n P Q o f ll) (hq5 : q ≤ 5) : KI l yX3_setLimits wsX3_setLimits ({ frames := 1, cells := 0, slots := 0, locals := 22 }) X [.ref mo, .int x, .int y] [(mo, .inr (3, [.ref mp, .ref ms, .ref mt, .int (nI q), .int al, .ref mq, .long wd, .int wS, .int wo, .int fw])), (mp, .inl (X.2.1, 12, .inl (M))), (ms, .inl (X.2.1, 60, .inl (S)))] [(mo, .inr (3, [.ref mp, .ref ms, .ref mt, .int (nI (rcQ q)), .int al, .ref mq, .long wd, .int wS, .int wo, .int fw])), (mp, .inl (X.2.1, 12, .inl (upd (upd M 2 x) 3 y))), (ms, .inl (X.2.1, 60, .inl (rvS S M q)))] (f) := by
  refine k_ofI (cc := cX3_setLimits) (own := RX3) (maxL := 4) (ret := (some .int)) (ls0 := [(0, .ref mo), (1, .int x), (2, .int y)]) (by decide) rfl rfl (Nat.le_of_ble_eq_true rfl) rfl ?_
  intro p e s m args below meth c A g C hr hlk
  refine s_iload_n C (pc := 0) dX3_setLimits_0 rfl 1 rfl ?_
  refine s_iconst C (pc := 1) (v := 1) dX3_setLimits_1 (by decide) ?_
  refine s_sipush C (pc := 2) (v := 1000) dX3_setLimits_2 (by decide) ?_
  refine s_calli C (pc := 5) (wr := [(mo, .inr (3, [.ref mp, .ref ms, .ref mt, .int (nI q), .int al, .ref mq, .long wd, .int wS, .int wo, .int fw])), (mp, .inl (X.2.1, 12, .inl (M))), (ms, .inl (X.2.1, 60, .inl (S)))]) (wc' := []) (wn := [(mo, .inr (3, [.ref mp, .ref ms, .ref mt, .int (nI q), .int al, .ref mq, .long wd, .int wS, .int wo, .int fw])), (mp, .inl (X.2.1, 12, .inl (M))), (ms, .inl (X.2.1, 60, .inl (S)))]) (r_S C (As := [.int x, .int 1, .int 1000]) (rest := []) (kX3_in l X x 1 1000 ) (va_cwS 3 C.ts gX3_setLimits_X3_in rfl rfl rfl (by decide +kernel) ⟨Nat.le_of_ble_eq_true rfl, Nat.le_of_ble_eq_true rfl⟩) [] (by decide) rfl rfl (Nat.le_of_ble_eq_true rfl) rfl dX3_setLimits_5 ⟨Nat.zero_le _, Nat.zero_le _⟩) [] [0, 1, 2] [0, 1, 2] rfl rfl (by decide) (by decide) (by decide) rfl ?_
  refine s_bif_eq C (pc := 8) (tgt := 27) dX3_setLimits_8 (by decide) (fun h => absurd (⟨hs.1, hs.2.1⟩) h) (fun c8 => ?_)
  refine s_iload_n C (pc := 11) dX3_setLimits_11 rfl 2 rfl ?_
  refine s_iconst C (pc := 12) (v := 2) dX3_setLimits_12 (by decide) ?_
  refine s_sipush C (pc := 13) (v := 10000) dX3_setLimits_13 (by decide) ?_
  refine s_calli C (pc := 16) (wr := [(mo, .inr (3, [.ref mp, .ref ms, .ref mt, .int (nI q), .int al, .ref mq, .long wd, .int wS, .int wo, .int fw])), (mp, .inl (X.2.1, 12, .inl (M))), (ms, .inl (X.2.1, 60, .inl (S)))]) (wc' := []) (wn := [(mo, .inr (3, [.ref mp, .ref ms, .ref mt, .int (nI q), .int al, .ref mq, .long wd, .int wS, .int wo, .int fw])), (mp, .inl (X.2.1, 12, .inl (M))), (ms, .inl (X.2.1, 60, .inl (S)))]) (r_S C (As := [.int y, .int 2, .int 10000]) (rest := []) (kX3_in l X y 2 10000 ) (va_cwS 3 C.ts gX3_setLimits_X3_in rfl rfl rfl (by decide +kernel) ⟨Nat.le_of_ble_eq_true rfl, Nat.le_of_ble_eq_true rfl⟩) [] (by decide) rfl rfl (Nat.le_of_ble_eq_true rfl) rfl dX3_setLimits_16 ⟨Nat.zero_le _, Nat.zero_le _⟩) [] [0, 1, 2] [0, 1, 2] rfl rfl (by decide) (by decide) (by decide) rfl ?_
  refine s_bif_eq C (pc := 19) (tgt := 27) dX3_setLimits_19 (by decide) (fun h => absurd (⟨lim2 hs.1 hs.2.2.1, hs.2.2.2⟩) h) (fun c19 => ?_)
  refine s_iload_n C (pc := 22) dX3_setLimits_22 rfl 2 rfl ?_
  refine s_iload_n C (pc := 23) dX3_setLimits_23 rfl 1 rfl ?_
  refine s_icmp_gt C (pc := 24) (tgt := 29) dX3_setLimits_24 (by decide) (fun c24 => ?_) (fun h => absurd (hs.2.2.1) h)
  refine s_aload_n C (pc := 29) dX3_setLimits_29 rfl 0 rfl ?_
  refine s_callv C (pc := 30) (wr := []) (wc' := [(mo, .inr (3, [.ref mp, .ref ms, .ref mt, .int (nI (rcQ q)), .int al, .ref mq, .long wd, .int wS, .int wo, .int fw])), (mp, .inl (X.2.1, 12, .inl (M))), (ms, .inl (X.2.1, 60, .inl (rvS S M q)))]) (wn := [(mo, .inr (3, [.ref mp, .ref ms, .ref mt, .int (nI (rcQ q)), .int al, .ref mq, .long wd, .int wS, .int wo, .int fw])), (mp, .inl (X.2.1, 12, .inl (M))), (ms, .inl (X.2.1, 60, .inl (rvS S M q)))]) (r_V C (As := []) (rest := []) (kX3_records l X mo mp ms mt mq al wd wS wo fw M S q (by first | assumption | omega | decide)) (cwV 0 C.ts gX3_setLimits_X3_records rfl rfl rfl (by decide +kernel) ⟨Nat.le_of_ble_eq_true rfl, Nat.le_of_ble_eq_true rfl⟩) (q0 := 0) rfl rfl [0, 1, 2] (by decide) rfl rfl (Nat.le_of_ble_eq_true rfl) rfl dX3_setLimits_30 ⟨Nat.zero_le _, Nat.zero_le _⟩) [0, 1, 2] [] [0, 1, 2] rfl rfl (by decide) (by decide) (by decide) rfl ?_
  refine s_aload_n C (pc := 33) dX3_setLimits_33 rfl 0 rfl ?_
  refine s_get C (pc := 34) (T := TX3) (N := 10) (fun _ h => (List.mem_cons_of_mem _ (List.mem_append_right _ h))) 0 rfl rfl 0 (by decide) (List.mem_of_getElem? (i := 1) rfl) rfl rfl dX3_setLimits_34 ?_
  refine s_iconst C (pc := 37) (v := 2) dX3_setLimits_37 (by decide) ?_
  refine s_iald C (pc := 38) 1 rfl 2 rfl (by decide) (by decide) dX3_setLimits_38 ?_
  refine s_top C (y := f) (hM.2.2.1) ?_
  refine s_istore_n C (pc := 39) (ls' := [(3, .int f), (0, .ref mo), (1, .int x), (2, .int y)]) dX3_setLimits_39 rfl (by decide) rfl ?_
  refine s_aload_n C (pc := 40) dX3_setLimits_40 rfl 1 rfl ?_
  refine s_get C (pc := 41) (T := TX3) (N := 10) (fun _ h => (List.mem_cons_of_mem _ (List.mem_append_right _ h))) 0 rfl rfl 0 (by decide) (List.mem_of_getElem? (i := 1) rfl) rfl rfl dX3_setLimits_41 ?_
  refine s_iconst C (pc := 44) (v := 2) dX3_setLimits_44 (by decide) ?_
  refine s_iload_n C (pc := 45) dX3_setLimits_45 rfl 2 rfl ?_
  refine s_iast C (pc := 46) (ws' := [(mo, .inr (3, [.ref mp, .ref ms, .ref mt, .int (nI (rcQ q)), .int al, .ref mq, .long wd, .int wS, .int wo, .int fw])), (mp, .inl (X.2.1, 12, .inl (upd M 2 x))), (ms, .inl (X.2.1, 60, .inl (rvS S M q)))]) 1 rfl 2 rfl (by decide) (by decide) rfl dX3_setLimits_46 ?_
  refine s_aload_n C (pc := 47) dX3_setLimits_47 rfl 1 rfl ?_
  refine s_get C (pc := 48) (T := TX3) (N := 10) (fun _ h => (List.mem_cons_of_mem _ (List.mem_append_right _ h))) 0 rfl rfl 0 (by decide) (List.mem_of_getElem? (i := 1) rfl) rfl rfl dX3_setLimits_48 ?_
  refine s_iconst C (pc := 51) (v := 3) dX3_setLimits_51 (by decide) ?_
  refine s_iload_n C (pc := 52) dX3_setLimits_52 rfl 3 rfl ?_
  refine s_iast C (pc := 53) (ws' := [(mo, .inr (3, [.ref mp, .ref ms, .ref mt, .int (nI (rcQ q)), .int al, .ref mq, .long wd, .int wS, .int wo, .int fw])), (mp, .inl (X.2.1, 12, .inl (upd (upd M 2 x) 3 y))), (ms, .inl (X.2.1, 60, .inl (rvS S M q)))]) 1 rfl 3 rfl (by decide) (by decide) rfl dX3_setLimits_53 ?_
  refine s_iload_n C (pc := 54) dX3_setLimits_54 rfl 0 rfl ?_
  exact s_iret C (pc := 55) hr hlk [0, 1, 2] (by decide) (rfl) (rfl) dX3_setLimits_55

set_option maxHeartbeats 4000000 in
set_option maxRecDepth 100000 in
theorem kX3_undo_none (l : Launch) (X : XT) (mo mp ms mt mq : Nat) (sts al : Int32) (wd : Int64) (wS wo fw : Int32) (M : Nat → Int32) (n : Nat) (P Q : Nat → Int32) (o f ll : Int32)  : KI l yX3_undo wsX3_undo ({ frames := 0, cells := 0, slots := 0, locals := 0 }) X [.ref mo] [(mo, .inr (3, [.ref mp, .ref ms, .ref mt, .int 0, .int al, .ref mq, .long wd, .int wS, .int wo, .int fw])), (mp, .inl (X.2.1, 12, .inl (M)))] [(mo, .inr (3, [.ref mp, .ref ms, .ref mt, .int 0, .int al, .ref mq, .long wd, .int wS, .int wo, .int fw])), (mp, .inl (X.2.1, 12, .inl (M)))] (-2) := by
  refine k_ofI (cc := cX3_undo) (own := RX3) (maxL := 2) (ret := (some .int)) (ls0 := [(0, .ref mo)]) (by decide) rfl rfl (Nat.le_of_ble_eq_true rfl) rfl ?_
  intro p e s m args below meth c A g C hr hlk
  refine s_aload_n C (pc := 0) dX3_undo_0 rfl 0 rfl ?_
  refine s_get C (pc := 1) (T := TX3) (N := 10) (fun _ h => (List.mem_cons_of_mem _ (List.mem_append_right _ h))) 0 rfl rfl 3 (by decide) (List.mem_of_getElem? (i := 1) rfl) rfl rfl dX3_undo_1 ?_
  refine s_if_ne C (pc := 4) (tgt := 10) dX3_undo_4 (by decide) (fun h => absurd (by decide) h) (fun c4 => ?_)
  refine s_bipush C (pc := 7) (v := (-2)) dX3_undo_7 (by decide) ?_
  exact s_iret C (pc := 9) hr hlk [0, 1] (by decide) (rfl) (rfl) dX3_undo_9

set_option maxHeartbeats 4000000 in
set_option maxRecDepth 100000 in
theorem kX3_undo_ok (l : Launch) (X : XT) (mo mp ms mt mq : Nat) (al : Int32) (wd : Int64) (wS wo fw : Int32) (M S : Nat → Int32) (q : Nat) (hq : q < 5) : KI l yX3_undo wsX3_undo ({ frames := 0, cells := 0, slots := 0, locals := 0 }) X [.ref mo] [(mo, .inr (3, [.ref mp, .ref ms, .ref mt, .int (nI (q + 1)), .int al, .ref mq, .long wd, .int wS, .int wo, .int fw])), (mp, .inl (X.2.1, 12, .inl (M))), (ms, .inl (X.2.1, 60, .inl (S)))] [(mo, .inr (3, [.ref mp, .ref ms, .ref mt, .int (nI q), .int al, .ref mq, .long wd, .int wS, .int wo, .int fw])), (mp, .inl (X.2.1, 12, .inl (cpM M S (12 * q) 12))), (ms, .inl (X.2.1, 60, .inl (S)))] (nI q) := by
  refine k_ofI (cc := cX3_undo) (own := RX3) (maxL := 2) (ret := (some .int)) (ls0 := [(0, .ref mo)]) (by decide) rfl rfl (Nat.le_of_ble_eq_true rfl) rfl ?_
  intro p e s m args below meth c A g C hr hlk
  refine s_aload_n C (pc := 0) dX3_undo_0 rfl 0 rfl ?_
  refine s_get C (pc := 1) (T := TX3) (N := 10) (fun _ h => (List.mem_cons_of_mem _ (List.mem_append_right _ h))) 0 rfl rfl 3 (by decide) (List.mem_of_getElem? (i := 1) rfl) rfl rfl dX3_undo_1 ?_
  refine s_if_ne C (pc := 4) (tgt := 10) dX3_undo_4 (by decide) (fun c4 => ?_) (fun h => absurd h (fun h2 => absurd (nat_eq (a := q + 1) (b := 0) (by omega) (by omega) h2) (by omega)))
  refine s_aload_n C (pc := 10) dX3_undo_10 rfl 0 rfl ?_
  refine s_dup C (pc := 11) dX3_undo_11 rfl ?_
  refine s_get C (pc := 12) (T := TX3) (N := 10) (fun _ h => (List.mem_cons_of_mem _ (List.mem_append_right _ h))) 0 rfl rfl 3 (by decide) (List.mem_of_getElem? (i := 1) rfl) rfl rfl dX3_undo_12 ?_
  refine s_iconst C (pc := 15) (v := 1) dX3_undo_15 (by decide) ?_
  refine s_isub C (pc := 16) dX3_undo_16 ?_
  refine s_top C (y := nI q) (nI_pred _) ?_
  refine s_put C (pc := 17) (T := TX3) (N := 10) (ws' := [(mo, .inr (3, [.ref mp, .ref ms, .ref mt, .int (nI q), .int al, .ref mq, .long wd, .int wS, .int wo, .int fw])), (mp, .inl (X.2.1, 12, .inl (M))), (ms, .inl (X.2.1, 60, .inl (S)))]) (fun _ h => (List.mem_cons_of_mem _ (List.mem_append_right _ h))) 0 rfl rfl tyX3 tyX3_ok nmX3 3 (by decide) (List.mem_of_getElem? (i := 1) rfl) rfl rfl rfl rfl (Nat.le_of_ble_eq_true rfl) rfl dX3_undo_17 ?_
  refine s_iconst C (pc := 20) (v := 0) dX3_undo_20 (by decide) ?_
  refine s_istore_n C (pc := 21) (ls' := [(1, .int 0), (0, .ref mo)]) dX3_undo_21 rfl (by decide) rfl ?_
  have L22 : ∀ (n_ : Nat) (k : Nat), (k ≤ 12) → 13 ≤ k + n_ → g [(mo, .inr (3, [.ref mp, .ref ms, .ref mt, .int (nI q), .int al, .ref mq, .long wd, .int wS, .int wo, .int fw])), (mp, .inl (X.2.1, 12, .inl ((cpM M S (12 * q) k)))), (ms, .inl (X.2.1, 60, .inl (S)))] 22 [(0, .ref mo), (1, .int (nI k))] [] := by
    intro n_
    induction n_ with
    | zero =>
      intro k hk hf
      exact absurd hf (by omega)
    | succ n_ ih22 =>
      intro k hk hf22
      refine s_iload_n C (pc := 22) dX3_undo_22 rfl 1 rfl ?_
      refine s_bipush C (pc := 23) (v := 12) dX3_undo_23 (by decide) ?_
      refine s_icmp_ge C (pc := 25) (tgt := 54) dX3_undo_25 (by decide) (fun c25 => ?_) (fun c25 => ?_)
      · skip
        have e25 := nat_le (a := 12) (b := k) (by omega) (by omega) c25
        have hs0 : 12 = k := by omega
        subst hs0
        refine s_aload_n C (pc := 54) dX3_undo_54 rfl 0 rfl ?_
        refine s_get C (pc := 55) (T := TX3) (N := 10) (fun _ h => (List.mem_cons_of_mem _ (List.mem_append_right _ h))) 0 rfl rfl 3 (by decide) (List.mem_of_getElem? (i := 1) rfl) rfl rfl dX3_undo_55 ?_
        exact s_iret C (pc := 58) hr hlk [0, 1, 2] (by decide) (rfl) (rfl) dX3_undo_58
      · skip
        have e25 := nat_nle (a := 12) (b := k) (by omega) (by omega) c25
        refine s_aload_n C (pc := 28) dX3_undo_28 rfl 0 rfl ?_
        refine s_get C (pc := 29) (T := TX3) (N := 10) (fun _ h => (List.mem_cons_of_mem _ (List.mem_append_right _ h))) 0 rfl rfl 0 (by decide) (List.mem_of_getElem? (i := 2) rfl) rfl rfl dX3_undo_29 ?_
        refine s_iload_n C (pc := 32) dX3_undo_32 rfl 1 rfl ?_
        refine s_aload_n C (pc := 33) dX3_undo_33 rfl 0 rfl ?_
        refine s_get C (pc := 34) (T := TX3) (N := 10) (fun _ h => (List.mem_cons_of_mem _ (List.mem_append_right _ h))) 0 rfl rfl 1 (by decide) (List.mem_of_getElem? (i := 3) rfl) rfl rfl dX3_undo_34 ?_
        refine s_bipush C (pc := 37) (v := 12) dX3_undo_37 (by decide) ?_
        refine s_aload_n C (pc := 39) dX3_undo_39 rfl 0 rfl ?_
        refine s_get C (pc := 40) (T := TX3) (N := 10) (fun _ h => (List.mem_cons_of_mem _ (List.mem_append_right _ h))) 0 rfl rfl 3 (by decide) (List.mem_of_getElem? (i := 1) rfl) rfl rfl dX3_undo_40 ?_
        refine s_imul C (pc := 43) dX3_undo_43 ?_
        refine s_iload_n C (pc := 44) dX3_undo_44 rfl 1 rfl ?_
        refine s_iadd C (pc := 45) dX3_undo_45 ?_
        refine s_iald C (pc := 46) 2 rfl (12 * q + k) (ix12 q k) (by omega) (by decide) dX3_undo_46 ?_
        refine s_iast C (pc := 47) (ws' := [(mo, .inr (3, [.ref mp, .ref ms, .ref mt, .int (nI q), .int al, .ref mq, .long wd, .int wS, .int wo, .int fw])), (mp, .inl (X.2.1, 12, .inl (upd (cpM M S (12 * q) k) k (S (12 * q + k))))), (ms, .inl (X.2.1, 60, .inl (S)))]) 1 rfl k rfl (by omega) (by decide) rfl dX3_undo_47 ?_
        refine s_iinc C (pc := 48) (v := nI (k + 1)) (ls' := [(1, .int (nI (k + 1))), (0, .ref mo)]) dX3_undo_48 1 rfl (nI_1 _) (by decide) rfl ?_
        refine s_goto C (pc := 51) (tgt := 22) dX3_undo_51 (by decide) ?_
        refine s_loc C (ls' := [(0, .ref mo), (1, .int (nI (k + 1)))]) [1, 0] rfl ?_
        exact ih22 (k + 1) (by omega) (by omega)
  refine s_loc C (ls' := [(0, .ref mo), (1, .int 0)]) [1, 0] rfl ?_
  exact L22 13 0 (Nat.zero_le _) (by omega)

set_option maxHeartbeats 4000000 in
set_option maxRecDepth 100000 in
theorem kX3_save_bad (l : Launch) (X : XT) (mo mp ms mt mq : Nat) (sts al : Int32) (wd : Int64) (wS wo fw : Int32) (M : Nat → Int32) (n : Nat) (P Q : Nat → Int32) (o f ll : Int32) (i : Int32) (hb : ¬ (0 ≤ i ∧ i ≤ 1)) : KI l yX3_save wsX3_save ({ frames := 1, cells := 0, slots := 0, locals := 22 }) X [.ref mo, .int i] [(mo, .inr (3, [.ref mp, .ref ms, .ref mt, .int sts, .int al, .ref mq, .long wd, .int wS, .int wo, .int fw])), (mp, .inl (X.2.1, 12, .inl (M)))] [(mo, .inr (3, [.ref mp, .ref ms, .ref mt, .int sts, .int al, .ref mq, .long wd, .int wS, .int wo, .int fw])), (mp, .inl (X.2.1, 12, .inl (M)))] (-1) := by
  refine k_ofI (cc := cX3_save) (own := RX3) (maxL := 3) (ret := (some .int)) (ls0 := [(0, .ref mo), (1, .int i)]) (by decide) rfl rfl (Nat.le_of_ble_eq_true rfl) rfl ?_
  intro p e s m args below meth c A g C hr hlk
  refine s_iload_n C (pc := 0) dX3_save_0 rfl 1 rfl ?_
  refine s_iconst C (pc := 1) (v := 0) dX3_save_1 (by decide) ?_
  refine s_iconst C (pc := 2) (v := 1) dX3_save_2 (by decide) ?_
  refine s_calli C (pc := 3) (wr := [(mo, .inr (3, [.ref mp, .ref ms, .ref mt, .int sts, .int al, .ref mq, .long wd, .int wS, .int wo, .int fw])), (mp, .inl (X.2.1, 12, .inl (M)))]) (wc' := []) (wn := [(mo, .inr (3, [.ref mp, .ref ms, .ref mt, .int sts, .int al, .ref mq, .long wd, .int wS, .int wo, .int fw])), (mp, .inl (X.2.1, 12, .inl (M)))]) (r_S C (As := [.int i, .int 0, .int 1]) (rest := []) (kX3_in l X i 0 1 ) (va_cwS 3 C.ts gX3_save_X3_in rfl rfl rfl (by decide +kernel) ⟨Nat.le_of_ble_eq_true rfl, Nat.le_of_ble_eq_true rfl⟩) [] (by decide) rfl rfl (Nat.le_of_ble_eq_true rfl) rfl dX3_save_3 ⟨Nat.zero_le _, Nat.zero_le _⟩) [] [0, 1] [0, 1] rfl rfl (by decide) (by decide) (by decide) rfl ?_
  refine s_bif_ne C (pc := 6) (tgt := 11) dX3_save_6 (by decide) (fun h => absurd h (hb)) (fun c6 => ?_)
  refine s_iconst C (pc := 9) (v := (-1)) dX3_save_9 (by decide) ?_
  exact s_iret C (pc := 10) hr hlk [0, 1] (by decide) (rfl) (rfl) dX3_save_10

set_option maxHeartbeats 4000000 in
set_option maxRecDepth 100000 in
theorem kX3_save_ok (l : Launch) (X : XT) (mo mp ms mt mq : Nat) (sts al : Int32) (wd : Int64) (wS wo fw : Int32) (M : Nat → Int32) (n : Nat) (P Q : Nat → Int32) (o f ll : Int32) (T : Nat → Int32) (sl : Nat) (hM : MR M n P Q o f ll) (hsl : sl < 2) : KI l yX3_save wsX3_save ({ frames := 1, cells := 0, slots := 0, locals := 22 }) X [.ref mo, .int (nI sl)] [(mo, .inr (3, [.ref mp, .ref ms, .ref mt, .int sts, .int al, .ref mq, .long wd, .int wS, .int wo, .int fw])), (mp, .inl (X.2.1, 12, .inl (M))), (mt, .inl (X.2.1, 26, .inl (T)))] [(mo, .inr (3, [.ref mp, .ref ms, .ref mt, .int sts, .int al, .ref mq, .long wd, .int wS, .int wo, .int fw])), (mp, .inl (X.2.1, 12, .inl (M))), (mt, .inl (X.2.1, 26, .inl (cpT (upd T (13 * sl) 1) M (13 * sl + 1) 12)))] (nI n) := by
  refine k_ofI (cc := cX3_save) (own := RX3) (maxL := 3) (ret := (some .int)) (ls0 := [(0, .ref mo), (1, .int (nI sl))]) (by decide) rfl rfl (Nat.le_of_ble_eq_true rfl) rfl ?_
  intro p e s m args below meth c A g C hr hlk
  refine s_iload_n C (pc := 0) dX3_save_0 rfl 1 rfl ?_
  refine s_iconst C (pc := 1) (v := 0) dX3_save_1 (by decide) ?_
  refine s_iconst C (pc := 2) (v := 1) dX3_save_2 (by decide) ?_
  refine s_calli C (pc := 3) (wr := [(mo, .inr (3, [.ref mp, .ref ms, .ref mt, .int sts, .int al, .ref mq, .long wd, .int wS, .int wo, .int fw])), (mp, .inl (X.2.1, 12, .inl (M))), (mt, .inl (X.2.1, 26, .inl (T)))]) (wc' := []) (wn := [(mo, .inr (3, [.ref mp, .ref ms, .ref mt, .int sts, .int al, .ref mq, .long wd, .int wS, .int wo, .int fw])), (mp, .inl (X.2.1, 12, .inl (M))), (mt, .inl (X.2.1, 26, .inl (T)))]) (r_S C (As := [.int (nI sl), .int 0, .int 1]) (rest := []) (kX3_in l X (nI sl) 0 1 ) (va_cwS 3 C.ts gX3_save_X3_in rfl rfl rfl (by decide +kernel) ⟨Nat.le_of_ble_eq_true rfl, Nat.le_of_ble_eq_true rfl⟩) [] (by decide) rfl rfl (Nat.le_of_ble_eq_true rfl) rfl dX3_save_3 ⟨Nat.zero_le _, Nat.zero_le _⟩) [] [0, 1, 2] [0, 1, 2] rfl rfl (by decide) (by decide) (by decide) rfl ?_
  refine s_bif_ne C (pc := 6) (tgt := 11) dX3_save_6 (by decide) (fun c6 => ?_) (fun h => absurd (in01 hsl) h)
  refine s_aload_n C (pc := 11) dX3_save_11 rfl 0 rfl ?_
  refine s_get C (pc := 12) (T := TX3) (N := 10) (fun _ h => (List.mem_cons_of_mem _ (List.mem_append_right _ h))) 0 rfl rfl 2 (by decide) (List.mem_of_getElem? (i := 1) rfl) rfl rfl dX3_save_12 ?_
  refine s_bipush C (pc := 15) (v := 13) dX3_save_15 (by decide) ?_
  refine s_iload_n C (pc := 17) dX3_save_17 rfl 1 rfl ?_
  refine s_imul C (pc := 18) dX3_save_18 ?_
  refine s_iconst C (pc := 19) (v := 1) dX3_save_19 (by decide) ?_
  refine s_iast C (pc := 20) (ws' := [(mo, .inr (3, [.ref mp, .ref ms, .ref mt, .int sts, .int al, .ref mq, .long wd, .int wS, .int wo, .int fw])), (mp, .inl (X.2.1, 12, .inl (M))), (mt, .inl (X.2.1, 26, .inl (upd T (13 * sl) 1)))]) 2 rfl (13 * sl) (ix13 sl) (by omega) (by decide) rfl dX3_save_20 ?_
  refine s_iconst C (pc := 21) (v := 0) dX3_save_21 (by decide) ?_
  refine s_istore_n C (pc := 22) (ls' := [(2, .int 0), (0, .ref mo), (1, .int (nI sl))]) dX3_save_22 rfl (by decide) rfl ?_
  have L23 : ∀ (n_ : Nat) (k : Nat), (k ≤ 12) → 13 ≤ k + n_ → g [(mo, .inr (3, [.ref mp, .ref ms, .ref mt, .int sts, .int al, .ref mq, .long wd, .int wS, .int wo, .int fw])), (mp, .inl (X.2.1, 12, .inl (M))), (mt, .inl (X.2.1, 26, .inl ((cpT (upd T (13 * sl) 1) M (13 * sl + 1) k))))] 23 [(0, .ref mo), (1, .int (nI sl)), (2, .int (nI k))] [] := by
    intro n_
    induction n_ with
    | zero =>
      intro k hk hf
      exact absurd hf (by omega)
    | succ n_ ih23 =>
      intro k hk hf23
      refine s_iload_n C (pc := 23) dX3_save_23 rfl 2 rfl ?_
      refine s_bipush C (pc := 24) (v := 12) dX3_save_24 (by decide) ?_
      refine s_icmp_ge C (pc := 26) (tgt := 54) dX3_save_26 (by decide) (fun c26 => ?_) (fun c26 => ?_)
      · skip
        have e26 := nat_le (a := 12) (b := k) (by omega) (by omega) c26
        have hs0 : 12 = k := by omega
        subst hs0
        refine s_aload_n C (pc := 54) dX3_save_54 rfl 0 rfl ?_
        refine s_get C (pc := 55) (T := TX3) (N := 10) (fun _ h => (List.mem_cons_of_mem _ (List.mem_append_right _ h))) 0 rfl rfl 0 (by decide) (List.mem_of_getElem? (i := 2) rfl) rfl rfl dX3_save_55 ?_
        refine s_iconst C (pc := 58) (v := 0) dX3_save_58 (by decide) ?_
        refine s_iald C (pc := 59) 1 rfl 0 rfl (by decide) (by decide) dX3_save_59 ?_
        refine s_top C (y := nI n) (hM.1) ?_
        exact s_iret C (pc := 60) hr hlk [0, 1, 2] (by decide) (rfl) (rfl) dX3_save_60
      · skip
        have e26 := nat_nle (a := 12) (b := k) (by omega) (by omega) c26
        refine s_aload_n C (pc := 29) dX3_save_29 rfl 0 rfl ?_
        refine s_get C (pc := 30) (T := TX3) (N := 10) (fun _ h => (List.mem_cons_of_mem _ (List.mem_append_right _ h))) 0 rfl rfl 2 (by decide) (List.mem_of_getElem? (i := 1) rfl) rfl rfl dX3_save_30 ?_
        refine s_bipush C (pc := 33) (v := 13) dX3_save_33 (by decide) ?_
        refine s_iload_n C (pc := 35) dX3_save_35 rfl 1 rfl ?_
        refine s_imul C (pc := 36) dX3_save_36 ?_
        refine s_iconst C (pc := 37) (v := 1) dX3_save_37 (by decide) ?_
        refine s_iadd C (pc := 38) dX3_save_38 ?_
        refine s_iload_n C (pc := 39) dX3_save_39 rfl 2 rfl ?_
        refine s_iadd C (pc := 40) dX3_save_40 ?_
        refine s_aload_n C (pc := 41) dX3_save_41 rfl 0 rfl ?_
        refine s_get C (pc := 42) (T := TX3) (N := 10) (fun _ h => (List.mem_cons_of_mem _ (List.mem_append_right _ h))) 0 rfl rfl 0 (by decide) (List.mem_of_getElem? (i := 2) rfl) rfl rfl dX3_save_42 ?_
        refine s_iload_n C (pc := 45) dX3_save_45 rfl 2 rfl ?_
        refine s_iald C (pc := 46) 1 rfl k rfl (by omega) (by decide) dX3_save_46 ?_
        refine s_iast C (pc := 47) (ws' := [(mo, .inr (3, [.ref mp, .ref ms, .ref mt, .int sts, .int al, .ref mq, .long wd, .int wS, .int wo, .int fw])), (mp, .inl (X.2.1, 12, .inl (M))), (mt, .inl (X.2.1, 26, .inl (upd (cpT (upd T (13 * sl) 1) M (13 * sl + 1) k) (13 * sl + 1 + k) (M k))))]) 2 rfl (13 * sl + 1 + k) (ix13b sl k) (by omega) (by decide) rfl dX3_save_47 ?_
        refine s_iinc C (pc := 48) (v := nI (k + 1)) (ls' := [(2, .int (nI (k + 1))), (0, .ref mo), (1, .int (nI sl))]) dX3_save_48 2 rfl (nI_1 _) (by decide) rfl ?_
        refine s_goto C (pc := 51) (tgt := 23) dX3_save_51 (by decide) ?_
        refine s_loc C (ls' := [(0, .ref mo), (1, .int (nI sl)), (2, .int (nI (k + 1)))]) [1, 2, 0] rfl ?_
        exact ih23 (k + 1) (by omega) (by omega)
  refine s_loc C (ls' := [(0, .ref mo), (1, .int (nI sl)), (2, .int 0)]) [1, 2, 0] rfl ?_
  exact L23 13 0 (Nat.zero_le _) (by omega)

set_option maxHeartbeats 4000000 in
set_option maxRecDepth 100000 in
theorem kX3_restore_bad (l : Launch) (X : XT) (mo mp ms mt mq : Nat) (sts al : Int32) (wd : Int64) (wS wo fw : Int32) (M : Nat → Int32) (n : Nat) (P Q : Nat → Int32) (o f ll : Int32) (i : Int32) (hb : ¬ (0 ≤ i ∧ i ≤ 1)) : KI l yX3_restore wsX3_restore ({ frames := 1, cells := 0, slots := 0, locals := 22 }) X [.ref mo, .int i] [(mo, .inr (3, [.ref mp, .ref ms, .ref mt, .int sts, .int al, .ref mq, .long wd, .int wS, .int wo, .int fw])), (mp, .inl (X.2.1, 12, .inl (M)))] [(mo, .inr (3, [.ref mp, .ref ms, .ref mt, .int sts, .int al, .ref mq, .long wd, .int wS, .int wo, .int fw])), (mp, .inl (X.2.1, 12, .inl (M)))] (-1) := by
  refine k_ofI (cc := cX3_restore) (own := RX3) (maxL := 3) (ret := (some .int)) (ls0 := [(0, .ref mo), (1, .int i)]) (by decide) rfl rfl (Nat.le_of_ble_eq_true rfl) rfl ?_
  intro p e s m args below meth c A g C hr hlk
  refine s_iload_n C (pc := 0) dX3_restore_0 rfl 1 rfl ?_
  refine s_iconst C (pc := 1) (v := 0) dX3_restore_1 (by decide) ?_
  refine s_iconst C (pc := 2) (v := 1) dX3_restore_2 (by decide) ?_
  refine s_calli C (pc := 3) (wr := [(mo, .inr (3, [.ref mp, .ref ms, .ref mt, .int sts, .int al, .ref mq, .long wd, .int wS, .int wo, .int fw])), (mp, .inl (X.2.1, 12, .inl (M)))]) (wc' := []) (wn := [(mo, .inr (3, [.ref mp, .ref ms, .ref mt, .int sts, .int al, .ref mq, .long wd, .int wS, .int wo, .int fw])), (mp, .inl (X.2.1, 12, .inl (M)))]) (r_S C (As := [.int i, .int 0, .int 1]) (rest := []) (kX3_in l X i 0 1 ) (va_cwS 3 C.ts gX3_restore_X3_in rfl rfl rfl (by decide +kernel) ⟨Nat.le_of_ble_eq_true rfl, Nat.le_of_ble_eq_true rfl⟩) [] (by decide) rfl rfl (Nat.le_of_ble_eq_true rfl) rfl dX3_restore_3 ⟨Nat.zero_le _, Nat.zero_le _⟩) [] [0, 1] [0, 1] rfl rfl (by decide) (by decide) (by decide) rfl ?_
  refine s_bif_ne C (pc := 6) (tgt := 11) dX3_restore_6 (by decide) (fun h => absurd h (hb)) (fun c6 => ?_)
  refine s_iconst C (pc := 9) (v := (-1)) dX3_restore_9 (by decide) ?_
  exact s_iret C (pc := 10) hr hlk [0, 1] (by decide) (rfl) (rfl) dX3_restore_10

set_option maxHeartbeats 4000000 in
set_option maxRecDepth 100000 in
theorem kX3_restore_none (l : Launch) (X : XT) (mo mp ms mt mq : Nat) (sts al : Int32) (wd : Int64) (wS wo fw : Int32) (M : Nat → Int32) (n : Nat) (P Q : Nat → Int32) (o f ll : Int32) (T : Nat → Int32) (sl : Nat) (hs : T (13 * sl) = 0) (hsl : sl < 2) : KI l yX3_restore wsX3_restore ({ frames := 1, cells := 0, slots := 0, locals := 22 }) X [.ref mo, .int (nI sl)] [(mo, .inr (3, [.ref mp, .ref ms, .ref mt, .int sts, .int al, .ref mq, .long wd, .int wS, .int wo, .int fw])), (mp, .inl (X.2.1, 12, .inl (M))), (mt, .inl (X.2.1, 26, .inl (T)))] [(mo, .inr (3, [.ref mp, .ref ms, .ref mt, .int sts, .int al, .ref mq, .long wd, .int wS, .int wo, .int fw])), (mp, .inl (X.2.1, 12, .inl (M))), (mt, .inl (X.2.1, 26, .inl (T)))] (-2) := by
  refine k_ofI (cc := cX3_restore) (own := RX3) (maxL := 3) (ret := (some .int)) (ls0 := [(0, .ref mo), (1, .int (nI sl))]) (by decide) rfl rfl (Nat.le_of_ble_eq_true rfl) rfl ?_
  intro p e s m args below meth c A g C hr hlk
  refine s_iload_n C (pc := 0) dX3_restore_0 rfl 1 rfl ?_
  refine s_iconst C (pc := 1) (v := 0) dX3_restore_1 (by decide) ?_
  refine s_iconst C (pc := 2) (v := 1) dX3_restore_2 (by decide) ?_
  refine s_calli C (pc := 3) (wr := [(mo, .inr (3, [.ref mp, .ref ms, .ref mt, .int sts, .int al, .ref mq, .long wd, .int wS, .int wo, .int fw])), (mp, .inl (X.2.1, 12, .inl (M))), (mt, .inl (X.2.1, 26, .inl (T)))]) (wc' := []) (wn := [(mo, .inr (3, [.ref mp, .ref ms, .ref mt, .int sts, .int al, .ref mq, .long wd, .int wS, .int wo, .int fw])), (mp, .inl (X.2.1, 12, .inl (M))), (mt, .inl (X.2.1, 26, .inl (T)))]) (r_S C (As := [.int (nI sl), .int 0, .int 1]) (rest := []) (kX3_in l X (nI sl) 0 1 ) (va_cwS 3 C.ts gX3_restore_X3_in rfl rfl rfl (by decide +kernel) ⟨Nat.le_of_ble_eq_true rfl, Nat.le_of_ble_eq_true rfl⟩) [] (by decide) rfl rfl (Nat.le_of_ble_eq_true rfl) rfl dX3_restore_3 ⟨Nat.zero_le _, Nat.zero_le _⟩) [] [0, 1, 2] [0, 1, 2] rfl rfl (by decide) (by decide) (by decide) rfl ?_
  refine s_bif_ne C (pc := 6) (tgt := 11) dX3_restore_6 (by decide) (fun c6 => ?_) (fun h => absurd (in01 hsl) h)
  refine s_aload_n C (pc := 11) dX3_restore_11 rfl 0 rfl ?_
  refine s_get C (pc := 12) (T := TX3) (N := 10) (fun _ h => (List.mem_cons_of_mem _ (List.mem_append_right _ h))) 0 rfl rfl 2 (by decide) (List.mem_of_getElem? (i := 1) rfl) rfl rfl dX3_restore_12 ?_
  refine s_bipush C (pc := 15) (v := 13) dX3_restore_15 (by decide) ?_
  refine s_iload_n C (pc := 17) dX3_restore_17 rfl 1 rfl ?_
  refine s_imul C (pc := 18) dX3_restore_18 ?_
  refine s_iald C (pc := 19) 2 rfl (13 * sl) (ix13 sl) (by omega) (by decide) dX3_restore_19 ?_
  refine s_if_ne C (pc := 20) (tgt := 26) dX3_restore_20 (by decide) (fun h => absurd (hs) h) (fun c20 => ?_)
  refine s_bipush C (pc := 23) (v := (-2)) dX3_restore_23 (by decide) ?_
  exact s_iret C (pc := 25) hr hlk [0, 1, 2] (by decide) (rfl) (rfl) dX3_restore_25

set_option maxHeartbeats 4000000 in
set_option maxRecDepth 100000 in
theorem kX3_restore_ok (l : Launch) (X : XT) (mo mp ms mt mq : Nat) (al : Int32) (wd : Int64) (wS wo fw : Int32) (M : Nat → Int32) (n : Nat) (P Q : Nat → Int32) (o f ll : Int32) (S : Nat → Int32) (q : Nat) (T : Nat → Int32) (sl : Nat) (hs : ¬ T (13 * sl) = 0) (hsl : sl < 2) (hq5 : q ≤ 5) : KI l yX3_restore wsX3_restore ({ frames := 1, cells := 0, slots := 0, locals := 22 }) X [.ref mo, .int (nI sl)] [(mo, .inr (3, [.ref mp, .ref ms, .ref mt, .int (nI q), .int al, .ref mq, .long wd, .int wS, .int wo, .int fw])), (mp, .inl (X.2.1, 12, .inl (M))), (ms, .inl (X.2.1, 60, .inl (S))), (mt, .inl (X.2.1, 26, .inl (T)))] [(mo, .inr (3, [.ref mp, .ref ms, .ref mt, .int (nI (rcQ q)), .int al, .ref mq, .long wd, .int wS, .int wo, .int fw])), (mp, .inl (X.2.1, 12, .inl (cpM M T (13 * sl + 1) 12))), (ms, .inl (X.2.1, 60, .inl (rvS S M q))), (mt, .inl (X.2.1, 26, .inl (T)))] (cpM M T (13 * sl + 1) 12 0) := by
  refine k_ofI (cc := cX3_restore) (own := RX3) (maxL := 3) (ret := (some .int)) (ls0 := [(0, .ref mo), (1, .int (nI sl))]) (by decide) rfl rfl (Nat.le_of_ble_eq_true rfl) rfl ?_
  intro p e s m args below meth c A g C hr hlk
  refine s_iload_n C (pc := 0) dX3_restore_0 rfl 1 rfl ?_
  refine s_iconst C (pc := 1) (v := 0) dX3_restore_1 (by decide) ?_
  refine s_iconst C (pc := 2) (v := 1) dX3_restore_2 (by decide) ?_
  refine s_calli C (pc := 3) (wr := [(mo, .inr (3, [.ref mp, .ref ms, .ref mt, .int (nI q), .int al, .ref mq, .long wd, .int wS, .int wo, .int fw])), (mp, .inl (X.2.1, 12, .inl (M))), (ms, .inl (X.2.1, 60, .inl (S))), (mt, .inl (X.2.1, 26, .inl (T)))]) (wc' := []) (wn := [(mo, .inr (3, [.ref mp, .ref ms, .ref mt, .int (nI q), .int al, .ref mq, .long wd, .int wS, .int wo, .int fw])), (mp, .inl (X.2.1, 12, .inl (M))), (ms, .inl (X.2.1, 60, .inl (S))), (mt, .inl (X.2.1, 26, .inl (T)))]) (r_S C (As := [.int (nI sl), .int 0, .int 1]) (rest := []) (kX3_in l X (nI sl) 0 1 ) (va_cwS 3 C.ts gX3_restore_X3_in rfl rfl rfl (by decide +kernel) ⟨Nat.le_of_ble_eq_true rfl, Nat.le_of_ble_eq_true rfl⟩) [] (by decide) rfl rfl (Nat.le_of_ble_eq_true rfl) rfl dX3_restore_3 ⟨Nat.zero_le _, Nat.zero_le _⟩) [] [0, 1, 2, 3] [0, 1, 2, 3] rfl rfl (by decide) (by decide) (by decide) rfl ?_
  refine s_bif_ne C (pc := 6) (tgt := 11) dX3_restore_6 (by decide) (fun c6 => ?_) (fun h => absurd (in01 hsl) h)
  refine s_aload_n C (pc := 11) dX3_restore_11 rfl 0 rfl ?_
  refine s_get C (pc := 12) (T := TX3) (N := 10) (fun _ h => (List.mem_cons_of_mem _ (List.mem_append_right _ h))) 0 rfl rfl 2 (by decide) (List.mem_of_getElem? (i := 1) rfl) rfl rfl dX3_restore_12 ?_
  refine s_bipush C (pc := 15) (v := 13) dX3_restore_15 (by decide) ?_
  refine s_iload_n C (pc := 17) dX3_restore_17 rfl 1 rfl ?_
  refine s_imul C (pc := 18) dX3_restore_18 ?_
  refine s_iald C (pc := 19) 3 rfl (13 * sl) (ix13 sl) (by omega) (by decide) dX3_restore_19 ?_
  refine s_if_ne C (pc := 20) (tgt := 26) dX3_restore_20 (by decide) (fun c20 => ?_) (fun h => absurd h (hs))
  refine s_aload_n C (pc := 26) dX3_restore_26 rfl 0 rfl ?_
  refine s_callv C (pc := 27) (wr := [(mt, .inl (X.2.1, 26, .inl (T)))]) (wc' := [(mo, .inr (3, [.ref mp, .ref ms, .ref mt, .int (nI (rcQ q)), .int al, .ref mq, .long wd, .int wS, .int wo, .int fw])), (mp, .inl (X.2.1, 12, .inl (M))), (ms, .inl (X.2.1, 60, .inl (rvS S M q)))]) (wn := [(mo, .inr (3, [.ref mp, .ref ms, .ref mt, .int (nI (rcQ q)), .int al, .ref mq, .long wd, .int wS, .int wo, .int fw])), (mp, .inl (X.2.1, 12, .inl (M))), (ms, .inl (X.2.1, 60, .inl (rvS S M q))), (mt, .inl (X.2.1, 26, .inl (T)))]) (r_V C (As := []) (rest := []) (kX3_records l X mo mp ms mt mq al wd wS wo fw M S q (by first | assumption | omega | decide)) (cwV 0 C.ts gX3_restore_X3_records rfl rfl rfl (by decide +kernel) ⟨Nat.le_of_ble_eq_true rfl, Nat.le_of_ble_eq_true rfl⟩) (q0 := 0) rfl rfl [0, 1, 2] (by decide) rfl rfl (Nat.le_of_ble_eq_true rfl) rfl dX3_restore_27 ⟨Nat.zero_le _, Nat.zero_le _⟩) [0, 1, 2] [3] [1, 2, 3, 0] rfl rfl (by decide) (by decide) (by decide) rfl ?_
  refine s_iconst C (pc := 30) (v := 0) dX3_restore_30 (by decide) ?_
  refine s_istore_n C (pc := 31) (ls' := [(2, .int 0), (0, .ref mo), (1, .int (nI sl))]) dX3_restore_31 rfl (by decide) rfl ?_
  have L32 : ∀ (n_ : Nat) (k : Nat), (k ≤ 12) → 13 ≤ k + n_ → g [(mo, .inr (3, [.ref mp, .ref ms, .ref mt, .int (nI (rcQ q)), .int al, .ref mq, .long wd, .int wS, .int wo, .int fw])), (mp, .inl (X.2.1, 12, .inl ((cpM M T (13 * sl + 1) k)))), (ms, .inl (X.2.1, 60, .inl (rvS S M q))), (mt, .inl (X.2.1, 26, .inl (T)))] 32 [(0, .ref mo), (1, .int (nI sl)), (2, .int (nI k))] [] := by
    intro n_
    induction n_ with
    | zero =>
      intro k hk hf
      exact absurd hf (by omega)
    | succ n_ ih32 =>
      intro k hk hf32
      refine s_iload_n C (pc := 32) dX3_restore_32 rfl 2 rfl ?_
      refine s_bipush C (pc := 33) (v := 12) dX3_restore_33 (by decide) ?_
      refine s_icmp_ge C (pc := 35) (tgt := 63) dX3_restore_35 (by decide) (fun c35 => ?_) (fun c35 => ?_)
      · skip
        have e35 := nat_le (a := 12) (b := k) (by omega) (by omega) c35
        have hs0 : 12 = k := by omega
        subst hs0
        refine s_aload_n C (pc := 63) dX3_restore_63 rfl 0 rfl ?_
        refine s_get C (pc := 64) (T := TX3) (N := 10) (fun _ h => (List.mem_cons_of_mem _ (List.mem_append_right _ h))) 0 rfl rfl 0 (by decide) (List.mem_of_getElem? (i := 2) rfl) rfl rfl dX3_restore_64 ?_
        refine s_iconst C (pc := 67) (v := 0) dX3_restore_67 (by decide) ?_
        refine s_iald C (pc := 68) 1 rfl 0 rfl (by decide) (by decide) dX3_restore_68 ?_
        exact s_iret C (pc := 69) hr hlk [0, 1, 2, 3] (by decide) (rfl) (rfl) dX3_restore_69
      · skip
        have e35 := nat_nle (a := 12) (b := k) (by omega) (by omega) c35
        refine s_aload_n C (pc := 38) dX3_restore_38 rfl 0 rfl ?_
        refine s_get C (pc := 39) (T := TX3) (N := 10) (fun _ h => (List.mem_cons_of_mem _ (List.mem_append_right _ h))) 0 rfl rfl 0 (by decide) (List.mem_of_getElem? (i := 2) rfl) rfl rfl dX3_restore_39 ?_
        refine s_iload_n C (pc := 42) dX3_restore_42 rfl 2 rfl ?_
        refine s_aload_n C (pc := 43) dX3_restore_43 rfl 0 rfl ?_
        refine s_get C (pc := 44) (T := TX3) (N := 10) (fun _ h => (List.mem_cons_of_mem _ (List.mem_append_right _ h))) 0 rfl rfl 2 (by decide) (List.mem_of_getElem? (i := 1) rfl) rfl rfl dX3_restore_44 ?_
        refine s_bipush C (pc := 47) (v := 13) dX3_restore_47 (by decide) ?_
        refine s_iload_n C (pc := 49) dX3_restore_49 rfl 1 rfl ?_
        refine s_imul C (pc := 50) dX3_restore_50 ?_
        refine s_iconst C (pc := 51) (v := 1) dX3_restore_51 (by decide) ?_
        refine s_iadd C (pc := 52) dX3_restore_52 ?_
        refine s_iload_n C (pc := 53) dX3_restore_53 rfl 2 rfl ?_
        refine s_iadd C (pc := 54) dX3_restore_54 ?_
        refine s_iald C (pc := 55) 3 rfl (13 * sl + 1 + k) (ix13b sl k) (by omega) (by decide) dX3_restore_55 ?_
        refine s_iast C (pc := 56) (ws' := [(mo, .inr (3, [.ref mp, .ref ms, .ref mt, .int (nI (rcQ q)), .int al, .ref mq, .long wd, .int wS, .int wo, .int fw])), (mp, .inl (X.2.1, 12, .inl (upd (cpM M T (13 * sl + 1) k) k (T (13 * sl + 1 + k))))), (ms, .inl (X.2.1, 60, .inl (rvS S M q))), (mt, .inl (X.2.1, 26, .inl (T)))]) 1 rfl k rfl (by omega) (by decide) rfl dX3_restore_56 ?_
        refine s_iinc C (pc := 57) (v := nI (k + 1)) (ls' := [(2, .int (nI (k + 1))), (0, .ref mo), (1, .int (nI sl))]) dX3_restore_57 2 rfl (nI_1 _) (by decide) rfl ?_
        refine s_goto C (pc := 60) (tgt := 32) dX3_restore_60 (by decide) ?_
        refine s_loc C (ls' := [(0, .ref mo), (1, .int (nI sl)), (2, .int (nI (k + 1)))]) [1, 2, 0] rfl ?_
        exact ih32 (k + 1) (by omega) (by omega)
  refine s_loc C (ls' := [(0, .ref mo), (1, .int (nI sl)), (2, .int 0)]) [1, 2, 0] rfl ?_
  exact L32 13 0 (Nat.zero_le _) (by omega)

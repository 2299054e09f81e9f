set_option maxHeartbeats 4000000 in
set_option maxRecDepth 100000 in
theorem kX3_isPart (l : Launch) (X : XT) (mo mp ms mt mq : Nat) (sts al : Int32) (wd : Int64) (wS wo fw : Int32) (M : Nat → Int32) (n : Nat) (P Q : Nat → Int32) (o f ll : Int32) (a b : Int32) (hM : MR M n P Q o f ll) : KI l yX3_isPart wsX3_isPart ({ frames := 1, cells := 0, slots := 0, locals := 22 }) X [.ref mo, .int a, .int b] [(mo, .inr (3, [.ref mp, .ref ms, .ref mt, .int sts, .int al, .ref mq, .long wd, .int wS, .int wo, .int fw])), (mp, .inl (X.2.1, 12, .inl (M)))] [(mo, .inr (3, [.ref mp, .ref ms, .ref mt, .int sts, .int al, .ref mq, .long wd, .int wS, .int wo, .int fw])), (mp, .inl (X.2.1, 12, .inl (M)))] (bI (fpP o a b)) := by
  refine k_ofI (cc := cX3_isPart) (own := RX3) (maxL := 3) (ret := (some .boolean)) (ls0 := [(0, .ref mo), (1, .int a), (2, .int b)]) (by decide) rfl rfl (Nat.le_of_ble_eq_true rfl) rfl ?_
  intro p e s m args below meth c A g C hr hlk
  refine s_iload_n C (pc := 0) dX3_isPart_0 rfl 1 rfl ?_
  refine s_aload_n C (pc := 1) dX3_isPart_1 rfl 0 rfl ?_
  refine s_get C (pc := 2) (T := TX3) (N := 10) (fun _ h => (List.mem_cons_of_mem _ (List.mem_append_right _ h))) 0 rfl rfl 0 (by decide) (List.mem_of_getElem? (i := 1) rfl) rfl rfl dX3_isPart_2 ?_
  refine s_iconst C (pc := 5) (v := 1) dX3_isPart_5 (by decide) ?_
  refine s_iald C (pc := 6) 1 rfl 1 rfl (by decide) (by decide) dX3_isPart_6 ?_
  refine s_top C (y := o) (hM.2.1) ?_
  refine s_ineg C (pc := 7) dX3_isPart_7 ?_
  refine s_aload_n C (pc := 8) dX3_isPart_8 rfl 0 rfl ?_
  refine s_get C (pc := 9) (T := TX3) (N := 10) (fun _ h => (List.mem_cons_of_mem _ (List.mem_append_right _ h))) 0 rfl rfl 0 (by decide) (List.mem_of_getElem? (i := 1) rfl) rfl rfl dX3_isPart_9 ?_
  refine s_iconst C (pc := 12) (v := 1) dX3_isPart_12 (by decide) ?_
  refine s_iald C (pc := 13) 1 rfl 1 rfl (by decide) (by decide) dX3_isPart_13 ?_
  refine s_top C (y := o) (hM.2.1) ?_
  refine s_calli C (pc := 14) (wr := [(mo, .inr (3, [.ref mp, .ref ms, .ref mt, .int sts, .int al, .ref mq, .long wd, .int wS, .int wo, .int fw])), (mp, .inl (X.2.1, 12, .inl (M)))]) (wc' := []) (wn := [(mo, .inr (3, [.ref mp, .ref ms, .ref mt, .int sts, .int al, .ref mq, .long wd, .int wS, .int wo, .int fw])), (mp, .inl (X.2.1, 12, .inl (M)))]) (r_S C (As := [.int a, .int (-o), .int o]) (rest := []) (kX3_in l X a (-o) o ) (va_cwS 3 C.ts gX3_isPart_X3_in rfl rfl rfl (by decide +kernel) ⟨Nat.le_of_ble_eq_true rfl, Nat.le_of_ble_eq_true rfl⟩) [] (by decide) rfl rfl (Nat.le_of_ble_eq_true rfl) rfl dX3_isPart_14 ⟨Nat.zero_le _, Nat.zero_le _⟩) [] [0, 1] [0, 1] rfl rfl (by decide) (by decide) (by decide) rfl ?_
  refine s_bif_eq C (pc := 17) (tgt := 52) dX3_isPart_17 (by decide) (fun c17 => ?_) (fun c17 => ?_)
  · skip
    refine s_iconst C (pc := 52) (v := 0) dX3_isPart_52 (by decide) ?_
    exact s_zret C (pc := 53) hr hlk [0, 1] (by decide) (rfl) rfl ((bI_neg (fun hh => c17 ⟨hh.1, hh.2.1⟩)).symm) dX3_isPart_53
  · skip
    refine s_iload_n C (pc := 20) dX3_isPart_20 rfl 2 rfl ?_
    refine s_aload_n C (pc := 21) dX3_isPart_21 rfl 0 rfl ?_
    refine s_get C (pc := 22) (T := TX3) (N := 10) (fun _ h => (List.mem_cons_of_mem _ (List.mem_append_right _ h))) 0 rfl rfl 0 (by decide) (List.mem_of_getElem? (i := 1) rfl) rfl rfl dX3_isPart_22 ?_
    refine s_iconst C (pc := 25) (v := 1) dX3_isPart_25 (by decide) ?_
    refine s_iald C (pc := 26) 1 rfl 1 rfl (by decide) (by decide) dX3_isPart_26 ?_
    refine s_top C (y := o) (hM.2.1) ?_
    refine s_ineg C (pc := 27) dX3_isPart_27 ?_
    refine s_aload_n C (pc := 28) dX3_isPart_28 rfl 0 rfl ?_
    refine s_get C (pc := 29) (T := TX3) (N := 10) (fun _ h => (List.mem_cons_of_mem _ (List.mem_append_right _ h))) 0 rfl rfl 0 (by decide) (List.mem_of_getElem? (i := 1) rfl) rfl rfl dX3_isPart_29 ?_
    refine s_iconst C (pc := 32) (v := 1) dX3_isPart_32 (by decide) ?_
    refine s_iald C (pc := 33) 1 rfl 1 rfl (by decide) (by decide) dX3_isPart_33 ?_
    refine s_top C (y := o) (hM.2.1) ?_
    refine s_calli C (pc := 34) (wr := [(mo, .inr (3, [.ref mp, .ref ms, .ref mt, .int sts, .int al, .ref mq, .long wd, .int wS, .int wo, .int fw])), (mp, .inl (X.2.1, 12, .inl (M)))]) (wc' := []) (wn := [(mo, .inr (3, [.ref mp, .ref ms, .ref mt, .int sts, .int al, .ref mq, .long wd, .int wS, .int wo, .int fw])), (mp, .inl (X.2.1, 12, .inl (M)))]) (r_S C (As := [.int b, .int (-o), .int o]) (rest := []) (kX3_in l X b (-o) o ) (va_cwS 3 C.ts gX3_isPart_X3_in rfl rfl rfl (by decide +kernel) ⟨Nat.le_of_ble_eq_true rfl, Nat.le_of_ble_eq_true rfl⟩) [] (by decide) rfl rfl (Nat.le_of_ble_eq_true rfl) rfl dX3_isPart_34 ⟨Nat.zero_le _, Nat.zero_le _⟩) [] [0, 1] [0, 1] rfl rfl (by decide) (by decide) (by decide) rfl ?_
    refine s_bif_eq C (pc := 37) (tgt := 52) dX3_isPart_37 (by decide) (fun c37 => ?_) (fun c37 => ?_)
    · skip
      refine s_iconst C (pc := 52) (v := 0) dX3_isPart_52 (by decide) ?_
      exact s_zret C (pc := 53) hr hlk [0, 1] (by decide) (rfl) rfl ((bI_neg (fun hh => c37 ⟨hh.2.2.1, hh.2.2.2.1⟩)).symm) dX3_isPart_53
    · skip
      refine s_iload_n C (pc := 40) dX3_isPart_40 rfl 1 rfl ?_
      refine s_if_ne C (pc := 41) (tgt := 48) dX3_isPart_41 (by decide) (fun c41 => ?_) (fun c41 => ?_)
      · skip
        refine s_iconst C (pc := 48) (v := 1) dX3_isPart_48 (by decide) ?_
        refine s_goto C (pc := 49) (tgt := 53) dX3_isPart_49 (by decide) ?_
        exact s_zret C (pc := 53) hr hlk [0, 1] (by decide) (rfl) rfl ((bI_pos ⟨c17.1, c17.2, c37.1, c37.2, Or.inl c41⟩).symm) dX3_isPart_53
      · skip
        refine s_iload_n C (pc := 44) dX3_isPart_44 rfl 2 rfl ?_
        refine s_if_eq C (pc := 45) (tgt := 52) dX3_isPart_45 (by decide) (fun c45 => ?_) (fun c45 => ?_)
        · skip
          refine s_iconst C (pc := 52) (v := 0) dX3_isPart_52 (by decide) ?_
          exact s_zret C (pc := 53) hr hlk [0, 1] (by decide) (rfl) rfl ((bI_neg (fun hh => hh.2.2.2.2.elim (fun z => z c41) (fun z => z c45))).symm) dX3_isPart_53
        · skip
          refine s_iconst C (pc := 48) (v := 1) dX3_isPart_48 (by decide) ?_
          refine s_goto C (pc := 49) (tgt := 53) dX3_isPart_49 (by decide) ?_
          exact s_zret C (pc := 53) hr hlk [0, 1] (by decide) (rfl) rfl ((bI_pos ⟨c17.1, c17.2, c37.1, c37.2, Or.inr c45⟩).symm) dX3_isPart_53

set_option maxHeartbeats 4000000 in
set_option maxRecDepth 100000 in
theorem kX3_isCombination (l : Launch) (X : XT) (mo mp ms mt mq : Nat) (sts al : Int32) (wd : Int64) (wS wo fw : Int32) (M : Nat → Int32) (n : Nat) (P Q : Nat → Int32) (o f ll : Int32) (i j a b1 c1 d1 : Int32) (hM : MR M n P Q o f ll) (hn : n ≤ 4) : KI l yX3_isCombination wsX3_isCombination ({ frames := 3, cells := 0, slots := 0, locals := 65 }) X [.ref mo, .int i, .int j, .int a, .int b1, .int c1, .int d1] [(mo, .inr (3, [.ref mp, .ref ms, .ref mt, .int sts, .int al, .ref mq, .long wd, .int wS, .int wo, .int fw])), (mp, .inl (X.2.1, 12, .inl (M)))] [(mo, .inr (3, [.ref mp, .ref ms, .ref mt, .int sts, .int al, .ref mq, .long wd, .int wS, .int wo, .int fw])), (mp, .inl (X.2.1, 12, .inl (M)))] (bI (hpP n i j ∧ fpP o a b1 ∧ fpP o c1 d1)) := by
  refine k_ofI (cc := cX3_isCombination) (own := RX3) (maxL := 7) (ret := (some .boolean)) (ls0 := [(0, .ref mo), (1, .int i), (2, .int j), (3, .int a), (4, .int b1), (5, .int c1), (6, .int d1)]) (by decide) rfl rfl (Nat.le_of_ble_eq_true rfl) rfl ?_
  intro p e s m args below meth c A g C hr hlk
  refine s_aload_n C (pc := 0) dX3_isCombination_0 rfl 0 rfl ?_
  refine s_iload_n C (pc := 1) dX3_isCombination_1 rfl 1 rfl ?_
  refine s_iload_n C (pc := 2) dX3_isCombination_2 rfl 2 rfl ?_
  refine s_calli C (pc := 3) (wr := []) (wc' := [(mo, .inr (3, [.ref mp, .ref ms, .ref mt, .int sts, .int al, .ref mq, .long wd, .int wS, .int wo, .int fw])), (mp, .inl (X.2.1, 12, .inl (M)))]) (wn := [(mo, .inr (3, [.ref mp, .ref ms, .ref mt, .int sts, .int al, .ref mq, .long wd, .int wS, .int wo, .int fw])), (mp, .inl (X.2.1, 12, .inl (M)))]) (r_V C (As := [.int i, .int j]) (rest := []) (kX3_isPair l X mo mp ms mt mq sts al wd wS wo fw M n P Q o f ll i j (by first | assumption | omega | decide) (by first | assumption | omega | decide)) (cwV 2 C.ts gX3_isCombination_X3_isPair rfl rfl rfl (by decide +kernel) ⟨Nat.le_of_ble_eq_true rfl, Nat.le_of_ble_eq_true rfl⟩) (q0 := 0) rfl rfl [0, 1] (by decide) rfl rfl (Nat.le_of_ble_eq_true rfl) rfl dX3_isCombination_3 ⟨Nat.zero_le _, Nat.zero_le _⟩) [0, 1] [] [0, 1] rfl rfl (by decide) (by decide) (by decide) rfl ?_
  refine s_bif_eq C (pc := 6) (tgt := 34) dX3_isCombination_6 (by decide) (fun c6 => ?_) (fun c6 => ?_)
  · skip
    refine s_iconst C (pc := 34) (v := 0) dX3_isCombination_34 (by decide) ?_
    exact s_zret C (pc := 35) hr hlk [0, 1] (by decide) (rfl) rfl ((bI_neg (fun hh => (c6) (hh.1))).symm) dX3_isCombination_35
  · skip
    refine s_aload_n C (pc := 9) dX3_isCombination_9 rfl 0 rfl ?_
    refine s_iload_n C (pc := 10) dX3_isCombination_10 rfl 3 rfl ?_
    refine s_iload C (pc := 11) dX3_isCombination_11 4 rfl ?_
    refine s_calli C (pc := 13) (wr := []) (wc' := [(mo, .inr (3, [.ref mp, .ref ms, .ref mt, .int sts, .int al, .ref mq, .long wd, .int wS, .int wo, .int fw])), (mp, .inl (X.2.1, 12, .inl (M)))]) (wn := [(mo, .inr (3, [.ref mp, .ref ms, .ref mt, .int sts, .int al, .ref mq, .long wd, .int wS, .int wo, .int fw])), (mp, .inl (X.2.1, 12, .inl (M)))]) (r_V C (As := [.int a, .int b1]) (rest := []) (kX3_isPart l X mo mp ms mt mq sts al wd wS wo fw M n P Q o f ll a b1 (by first | assumption | omega | decide)) (cwV 2 C.ts gX3_isCombination_X3_isPart rfl rfl rfl (by decide +kernel) ⟨Nat.le_of_ble_eq_true rfl, Nat.le_of_ble_eq_true rfl⟩) (q0 := 0) rfl rfl [0, 1] (by decide) rfl rfl (Nat.le_of_ble_eq_true rfl) rfl dX3_isCombination_13 ⟨Nat.zero_le _, Nat.zero_le _⟩) [0, 1] [] [0, 1] rfl rfl (by decide) (by decide) (by decide) rfl ?_
    refine s_bif_eq C (pc := 16) (tgt := 34) dX3_isCombination_16 (by decide) (fun c16 => ?_) (fun c16 => ?_)
    · skip
      refine s_iconst C (pc := 34) (v := 0) dX3_isCombination_34 (by decide) ?_
      exact s_zret C (pc := 35) hr hlk [0, 1] (by decide) (rfl) rfl ((bI_neg (fun hh => (c16) (hh.2.1))).symm) dX3_isCombination_35
    · skip
      refine s_aload_n C (pc := 19) dX3_isCombination_19 rfl 0 rfl ?_
      refine s_iload C (pc := 20) dX3_isCombination_20 5 rfl ?_
      refine s_iload C (pc := 22) dX3_isCombination_22 6 rfl ?_
      refine s_calli C (pc := 24) (wr := []) (wc' := [(mo, .inr (3, [.ref mp, .ref ms, .ref mt, .int sts, .int al, .ref mq, .long wd, .int wS, .int wo, .int fw])), (mp, .inl (X.2.1, 12, .inl (M)))]) (wn := [(mo, .inr (3, [.ref mp, .ref ms, .ref mt, .int sts, .int al, .ref mq, .long wd, .int wS, .int wo, .int fw])), (mp, .inl (X.2.1, 12, .inl (M)))]) (r_V C (As := [.int c1, .int d1]) (rest := []) (kX3_isPart l X mo mp ms mt mq sts al wd wS wo fw M n P Q o f ll c1 d1 (by first | assumption | omega | decide)) (cwV 2 C.ts gX3_isCombination_X3_isPart rfl rfl rfl (by decide +kernel) ⟨Nat.le_of_ble_eq_true rfl, Nat.le_of_ble_eq_true rfl⟩) (q0 := 0) rfl rfl [0, 1] (by decide) rfl rfl (Nat.le_of_ble_eq_true rfl) rfl dX3_isCombination_24 ⟨Nat.zero_le _, Nat.zero_le _⟩) [0, 1] [] [0, 1] rfl rfl (by decide) (by decide) (by decide) rfl ?_
      refine s_bif_eq C (pc := 27) (tgt := 34) dX3_isCombination_27 (by decide) (fun c27 => ?_) (fun c27 => ?_)
      · skip
        refine s_iconst C (pc := 34) (v := 0) dX3_isCombination_34 (by decide) ?_
        exact s_zret C (pc := 35) hr hlk [0, 1] (by decide) (rfl) rfl ((bI_neg (fun hh => (c27) (hh.2.2))).symm) dX3_isCombination_35
      · skip
        refine s_iconst C (pc := 30) (v := 1) dX3_isCombination_30 (by decide) ?_
        refine s_goto C (pc := 31) (tgt := 35) dX3_isCombination_31 (by decide) ?_
        exact s_zret C (pc := 35) hr hlk [0, 1] (by decide) (rfl) rfl ((bI_pos ⟨c6, c16, c27⟩).symm) dX3_isCombination_35

set_option maxHeartbeats 4000000 in
set_option maxRecDepth 100000 in
theorem kX3_pairSquare (l : Launch) (X : XT) (mo mp ms mt mq : Nat) (sts al : Int32) (wd : Int64) (wS wo fw : Int32) (M : Nat → Int32) (n : Nat) (P Q : Nat → Int32) (o f ll : Int32) (i j : Nat) (a b1 c1 d1 : Int32) (hM : MR M n P Q o f ll) (hi : i < n) (hj : j < n) (hn : n ≤ 4) : KL l yX3_pairSquare wsX3_pairSquare ({ frames := 2, cells := 0, slots := 0, locals := 42 }) X [.ref mo, .int (nI i), .int (nI j), .int a, .int b1, .int c1, .int d1] [(mo, .inr (3, [.ref mp, .ref ms, .ref mt, .int sts, .int al, .ref mq, .long wd, .int wS, .int wo, .int fw])), (mp, .inl (X.2.1, 12, .inl (M)))] [(mo, .inr (3, [.ref mp, .ref ms, .ref mt, .int sts, .int al, .ref mq, .long wd, .int wS, .int wo, .int fw])), (mp, .inl (X.2.1, 12, .inl (M)))] (psL P Q i j a b1 c1 d1) := by
  refine k_ofL (cc := cX3_pairSquare) (own := RX3) (maxL := 15) (ret := (some .long)) (ls0 := [(0, .ref mo), (1, .int (nI i)), (2, .int (nI j)), (3, .int a), (4, .int b1), (5, .int c1), (6, .int d1)]) (by decide) rfl rfl (Nat.le_of_ble_eq_true rfl) rfl ?_
  intro p e s m args below meth c A g C hr hlk
  refine s_aload_n C (pc := 0) dX3_pairSquare_0 rfl 0 rfl ?_
  refine s_iload_n C (pc := 1) dX3_pairSquare_1 rfl 1 rfl ?_
  refine s_calli C (pc := 2) (wr := []) (wc' := [(mo, .inr (3, [.ref mp, .ref ms, .ref mt, .int sts, .int al, .ref mq, .long wd, .int wS, .int wo, .int fw])), (mp, .inl (X.2.1, 12, .inl (M)))]) (wn := [(mo, .inr (3, [.ref mp, .ref ms, .ref mt, .int sts, .int al, .ref mq, .long wd, .int wS, .int wo, .int fw])), (mp, .inl (X.2.1, 12, .inl (M)))]) (r_V C (As := [.int (nI i)]) (rest := []) (kX3_areaOf l X mo mp ms mt mq sts al wd wS wo fw M n P Q o f ll i (by first | assumption | omega | decide) (by first | assumption | omega | decide) (by first | assumption | omega | decide)) (cwV 1 C.ts gX3_pairSquare_X3_areaOf rfl rfl rfl (by decide +kernel) ⟨Nat.le_of_ble_eq_true rfl, Nat.le_of_ble_eq_true rfl⟩) (q0 := 0) rfl rfl [0, 1] (by decide) rfl rfl (Nat.le_of_ble_eq_true rfl) rfl dX3_pairSquare_2 ⟨Nat.zero_le _, Nat.zero_le _⟩) [0, 1] [] [0, 1] rfl rfl (by decide) (by decide) (by decide) rfl ?_
  refine s_i2l C (pc := 5) dX3_pairSquare_5 ?_
  refine s_lstore C (pc := 6) (ls' := [(7, .long ((ar P Q i).toInt64)), (0, .ref mo), (1, .int (nI i)), (2, .int (nI j)), (3, .int a), (4, .int b1), (5, .int c1), (6, .int d1)]) dX3_pairSquare_6 (by decide) rfl ?_
  refine s_aload_n C (pc := 8) dX3_pairSquare_8 rfl 1 rfl ?_
  refine s_iload_n C (pc := 9) dX3_pairSquare_9 rfl 3 rfl ?_
  refine s_calli C (pc := 10) (wr := []) (wc' := [(mo, .inr (3, [.ref mp, .ref ms, .ref mt, .int sts, .int al, .ref mq, .long wd, .int wS, .int wo, .int fw])), (mp, .inl (X.2.1, 12, .inl (M)))]) (wn := [(mo, .inr (3, [.ref mp, .ref ms, .ref mt, .int sts, .int al, .ref mq, .long wd, .int wS, .int wo, .int fw])), (mp, .inl (X.2.1, 12, .inl (M)))]) (r_V C (As := [.int (nI j)]) (rest := []) (kX3_areaOf l X mo mp ms mt mq sts al wd wS wo fw M n P Q o f ll j (by first | assumption | omega | decide) (by first | assumption | omega | decide) (by first | assumption | omega | decide)) (cwV 1 C.ts gX3_pairSquare_X3_areaOf rfl rfl rfl (by decide +kernel) ⟨Nat.le_of_ble_eq_true rfl, Nat.le_of_ble_eq_true rfl⟩) (q0 := 0) rfl rfl [0, 1] (by decide) rfl rfl (Nat.le_of_ble_eq_true rfl) rfl dX3_pairSquare_10 ⟨Nat.zero_le _, Nat.zero_le _⟩) [0, 1] [] [0, 1] rfl rfl (by decide) (by decide) (by decide) rfl ?_
  refine s_i2l C (pc := 13) dX3_pairSquare_13 ?_
  refine s_lstore C (pc := 14) (ls' := [(9, .long ((ar P Q j).toInt64)), (7, .long ((ar P Q i).toInt64)), (0, .ref mo), (1, .int (nI i)), (2, .int (nI j)), (3, .int a), (4, .int b1), (5, .int c1), (6, .int d1)]) dX3_pairSquare_14 (by decide) rfl ?_
  refine s_iload_n C (pc := 16) dX3_pairSquare_16 rfl 5 rfl ?_
  refine s_aload_n C (pc := 17) dX3_pairSquare_17 rfl 2 rfl ?_
  refine s_iload_n C (pc := 18) dX3_pairSquare_18 rfl 3 rfl ?_
  refine s_calli C (pc := 19) (wr := []) (wc' := [(mo, .inr (3, [.ref mp, .ref ms, .ref mt, .int sts, .int al, .ref mq, .long wd, .int wS, .int wo, .int fw])), (mp, .inl (X.2.1, 12, .inl (M)))]) (wn := [(mo, .inr (3, [.ref mp, .ref ms, .ref mt, .int sts, .int al, .ref mq, .long wd, .int wS, .int wo, .int fw])), (mp, .inl (X.2.1, 12, .inl (M)))]) (r_V C (As := [.int (nI i)]) (rest := [.int a]) (kX3_firstOf l X mo mp ms mt mq sts al wd wS wo fw M n P Q o f ll i (by first | assumption | omega | decide) (by first | assumption | omega | decide) (by first | assumption | omega | decide)) (cwV 1 C.ts gX3_pairSquare_X3_firstOf rfl rfl rfl (by decide +kernel) ⟨Nat.le_of_ble_eq_true rfl, Nat.le_of_ble_eq_true rfl⟩) (q0 := 0) rfl rfl [0, 1] (by decide) rfl rfl (Nat.le_of_ble_eq_true rfl) rfl dX3_pairSquare_19 ⟨Nat.zero_le _, Nat.zero_le _⟩) [0, 1] [] [0, 1] rfl rfl (by decide) (by decide) (by decide) rfl ?_
  refine s_imul C (pc := 22) dX3_pairSquare_22 ?_
  refine s_iload C (pc := 23) dX3_pairSquare_23 6 rfl ?_
  refine s_aload_n C (pc := 25) dX3_pairSquare_25 rfl 2 rfl ?_
  refine s_iload_n C (pc := 26) dX3_pairSquare_26 rfl 3 rfl ?_
  refine s_calli C (pc := 27) (wr := []) (wc' := [(mo, .inr (3, [.ref mp, .ref ms, .ref mt, .int sts, .int al, .ref mq, .long wd, .int wS, .int wo, .int fw])), (mp, .inl (X.2.1, 12, .inl (M)))]) (wn := [(mo, .inr (3, [.ref mp, .ref ms, .ref mt, .int sts, .int al, .ref mq, .long wd, .int wS, .int wo, .int fw])), (mp, .inl (X.2.1, 12, .inl (M)))]) (r_V C (As := [.int (nI i)]) (rest := [.int b1, .int (a * (P i))]) (kX3_secondOf l X mo mp ms mt mq sts al wd wS wo fw M n P Q o f ll i (by first | assumption | omega | decide) (by first | assumption | omega | decide) (by first | assumption | omega | decide)) (cwV 1 C.ts gX3_pairSquare_X3_secondOf rfl rfl rfl (by decide +kernel) ⟨Nat.le_of_ble_eq_true rfl, Nat.le_of_ble_eq_true rfl⟩) (q0 := 0) rfl rfl [0, 1] (by decide) rfl rfl (Nat.le_of_ble_eq_true rfl) rfl dX3_pairSquare_27 ⟨Nat.zero_le _, Nat.zero_le _⟩) [0, 1] [] [0, 1] rfl rfl (by decide) (by decide) (by decide) rfl ?_
  refine s_imul C (pc := 30) dX3_pairSquare_30 ?_
  refine s_isub C (pc := 31) dX3_pairSquare_31 ?_
  refine s_i2l C (pc := 32) dX3_pairSquare_32 ?_
  refine s_lload C (pc := 33) dX3_pairSquare_33 0 rfl ?_
  refine s_lmul C (pc := 35) dX3_pairSquare_35 ?_
  refine s_iload C (pc := 36) dX3_pairSquare_36 7 rfl ?_
  refine s_aload_n C (pc := 38) dX3_pairSquare_38 rfl 2 rfl ?_
  refine s_iload_n C (pc := 39) dX3_pairSquare_39 rfl 4 rfl ?_
  refine s_calli C (pc := 40) (wr := []) (wc' := [(mo, .inr (3, [.ref mp, .ref ms, .ref mt, .int sts, .int al, .ref mq, .long wd, .int wS, .int wo, .int fw])), (mp, .inl (X.2.1, 12, .inl (M)))]) (wn := [(mo, .inr (3, [.ref mp, .ref ms, .ref mt, .int sts, .int al, .ref mq, .long wd, .int wS, .int wo, .int fw])), (mp, .inl (X.2.1, 12, .inl (M)))]) (r_V C (As := [.int (nI j)]) (rest := [.int c1, .long ((((a * (P i)) - (b1 * (Q i))).toInt64) * ((ar P Q j).toInt64))]) (kX3_firstOf l X mo mp ms mt mq sts al wd wS wo fw M n P Q o f ll j (by first | assumption | omega | decide) (by first | assumption | omega | decide) (by first | assumption | omega | decide)) (cwV 1 C.ts gX3_pairSquare_X3_firstOf rfl rfl rfl (by decide +kernel) ⟨Nat.le_of_ble_eq_true rfl, Nat.le_of_ble_eq_true rfl⟩) (q0 := 0) rfl rfl [0, 1] (by decide) rfl rfl (Nat.le_of_ble_eq_true rfl) rfl dX3_pairSquare_40 ⟨Nat.zero_le _, Nat.zero_le _⟩) [0, 1] [] [0, 1] rfl rfl (by decide) (by decide) (by decide) rfl ?_
  refine s_imul C (pc := 43) dX3_pairSquare_43 ?_
  refine s_iload C (pc := 44) dX3_pairSquare_44 8 rfl ?_
  refine s_aload_n C (pc := 46) dX3_pairSquare_46 rfl 2 rfl ?_
  refine s_iload_n C (pc := 47) dX3_pairSquare_47 rfl 4 rfl ?_
  refine s_calli C (pc := 48) (wr := []) (wc' := [(mo, .inr (3, [.ref mp, .ref ms, .ref mt, .int sts, .int al, .ref mq, .long wd, .int wS, .int wo, .int fw])), (mp, .inl (X.2.1, 12, .inl (M)))]) (wn := [(mo, .inr (3, [.ref mp, .ref ms, .ref mt, .int sts, .int al, .ref mq, .long wd, .int wS, .int wo, .int fw])), (mp, .inl (X.2.1, 12, .inl (M)))]) (r_V C (As := [.int (nI j)]) (rest := [.int d1, .int (c1 * (P j)), .long ((((a * (P i)) - (b1 * (Q i))).toInt64) * ((ar P Q j).toInt64))]) (kX3_secondOf l X mo mp ms mt mq sts al wd wS wo fw M n P Q o f ll j (by first | assumption | omega | decide) (by first | assumption | omega | decide) (by first | assumption | omega | decide)) (cwV 1 C.ts gX3_pairSquare_X3_secondOf rfl rfl rfl (by decide +kernel) ⟨Nat.le_of_ble_eq_true rfl, Nat.le_of_ble_eq_true rfl⟩) (q0 := 0) rfl rfl [0, 1] (by decide) rfl rfl (Nat.le_of_ble_eq_true rfl) rfl dX3_pairSquare_48 ⟨Nat.zero_le _, Nat.zero_le _⟩) [0, 1] [] [0, 1] rfl rfl (by decide) (by decide) (by decide) rfl ?_
  refine s_imul C (pc := 51) dX3_pairSquare_51 ?_
  refine s_isub C (pc := 52) dX3_pairSquare_52 ?_
  refine s_i2l C (pc := 53) dX3_pairSquare_53 ?_
  refine s_lload C (pc := 54) dX3_pairSquare_54 1 rfl ?_
  refine s_lmul C (pc := 56) dX3_pairSquare_56 ?_
  refine s_lsub C (pc := 57) dX3_pairSquare_57 ?_
  refine s_lstore C (pc := 58) (ls' := [(11, .long (((((a * (P i)) - (b1 * (Q i))).toInt64) * ((ar P Q j).toInt64)) - ((((c1 * (P j)) - (d1 * (Q j))).toInt64) * ((ar P Q i).toInt64)))), (9, .long ((ar P Q j).toInt64)), (7, .long ((ar P Q i).toInt64)), (0, .ref mo), (1, .int (nI i)), (2, .int (nI j)), (3, .int a), (4, .int b1), (5, .int c1), (6, .int d1)]) dX3_pairSquare_58 (by decide) rfl ?_
  refine s_iload_n C (pc := 60) dX3_pairSquare_60 rfl 6 rfl ?_
  refine s_aload_n C (pc := 61) dX3_pairSquare_61 rfl 3 rfl ?_
  refine s_iload_n C (pc := 62) dX3_pairSquare_62 rfl 4 rfl ?_
  refine s_calli C (pc := 63) (wr := []) (wc' := [(mo, .inr (3, [.ref mp, .ref ms, .ref mt, .int sts, .int al, .ref mq, .long wd, .int wS, .int wo, .int fw])), (mp, .inl (X.2.1, 12, .inl (M)))]) (wn := [(mo, .inr (3, [.ref mp, .ref ms, .ref mt, .int sts, .int al, .ref mq, .long wd, .int wS, .int wo, .int fw])), (mp, .inl (X.2.1, 12, .inl (M)))]) (r_V C (As := [.int (nI i)]) (rest := [.int a]) (kX3_secondOf l X mo mp ms mt mq sts al wd wS wo fw M n P Q o f ll i (by first | assumption | omega | decide) (by first | assumption | omega | decide) (by first | assumption | omega | decide)) (cwV 1 C.ts gX3_pairSquare_X3_secondOf rfl rfl rfl (by decide +kernel) ⟨Nat.le_of_ble_eq_true rfl, Nat.le_of_ble_eq_true rfl⟩) (q0 := 0) rfl rfl [0, 1] (by decide) rfl rfl (Nat.le_of_ble_eq_true rfl) rfl dX3_pairSquare_63 ⟨Nat.zero_le _, Nat.zero_le _⟩) [0, 1] [] [0, 1] rfl rfl (by decide) (by decide) (by decide) rfl ?_
  refine s_imul C (pc := 66) dX3_pairSquare_66 ?_
  refine s_iload C (pc := 67) dX3_pairSquare_67 7 rfl ?_
  refine s_aload_n C (pc := 69) dX3_pairSquare_69 rfl 3 rfl ?_
  refine s_iload_n C (pc := 70) dX3_pairSquare_70 rfl 4 rfl ?_
  refine s_calli C (pc := 71) (wr := []) (wc' := [(mo, .inr (3, [.ref mp, .ref ms, .ref mt, .int sts, .int al, .ref mq, .long wd, .int wS, .int wo, .int fw])), (mp, .inl (X.2.1, 12, .inl (M)))]) (wn := [(mo, .inr (3, [.ref mp, .ref ms, .ref mt, .int sts, .int al, .ref mq, .long wd, .int wS, .int wo, .int fw])), (mp, .inl (X.2.1, 12, .inl (M)))]) (r_V C (As := [.int (nI i)]) (rest := [.int b1, .int (a * (Q i))]) (kX3_firstOf l X mo mp ms mt mq sts al wd wS wo fw M n P Q o f ll i (by first | assumption | omega | decide) (by first | assumption | omega | decide) (by first | assumption | omega | decide)) (cwV 1 C.ts gX3_pairSquare_X3_firstOf rfl rfl rfl (by decide +kernel) ⟨Nat.le_of_ble_eq_true rfl, Nat.le_of_ble_eq_true rfl⟩) (q0 := 0) rfl rfl [0, 1] (by decide) rfl rfl (Nat.le_of_ble_eq_true rfl) rfl dX3_pairSquare_71 ⟨Nat.zero_le _, Nat.zero_le _⟩) [0, 1] [] [0, 1] rfl rfl (by decide) (by decide) (by decide) rfl ?_
  refine s_imul C (pc := 74) dX3_pairSquare_74 ?_
  refine s_iadd C (pc := 75) dX3_pairSquare_75 ?_
  refine s_i2l C (pc := 76) dX3_pairSquare_76 ?_
  refine s_lload C (pc := 77) dX3_pairSquare_77 1 rfl ?_
  refine s_lmul C (pc := 79) dX3_pairSquare_79 ?_
  refine s_iload C (pc := 80) dX3_pairSquare_80 8 rfl ?_
  refine s_aload_n C (pc := 82) dX3_pairSquare_82 rfl 3 rfl ?_
  refine s_iload_n C (pc := 83) dX3_pairSquare_83 rfl 5 rfl ?_
  refine s_calli C (pc := 84) (wr := []) (wc' := [(mo, .inr (3, [.ref mp, .ref ms, .ref mt, .int sts, .int al, .ref mq, .long wd, .int wS, .int wo, .int fw])), (mp, .inl (X.2.1, 12, .inl (M)))]) (wn := [(mo, .inr (3, [.ref mp, .ref ms, .ref mt, .int sts, .int al, .ref mq, .long wd, .int wS, .int wo, .int fw])), (mp, .inl (X.2.1, 12, .inl (M)))]) (r_V C (As := [.int (nI j)]) (rest := [.int c1, .long ((((a * (Q i)) + (b1 * (P i))).toInt64) * ((ar P Q j).toInt64))]) (kX3_secondOf l X mo mp ms mt mq sts al wd wS wo fw M n P Q o f ll j (by first | assumption | omega | decide) (by first | assumption | omega | decide) (by first | assumption | omega | decide)) (cwV 1 C.ts gX3_pairSquare_X3_secondOf rfl rfl rfl (by decide +kernel) ⟨Nat.le_of_ble_eq_true rfl, Nat.le_of_ble_eq_true rfl⟩) (q0 := 0) rfl rfl [0, 1] (by decide) rfl rfl (Nat.le_of_ble_eq_true rfl) rfl dX3_pairSquare_84 ⟨Nat.zero_le _, Nat.zero_le _⟩) [0, 1] [] [0, 1] rfl rfl (by decide) (by decide) (by decide) rfl ?_
  refine s_imul C (pc := 87) dX3_pairSquare_87 ?_
  refine s_iload C (pc := 88) dX3_pairSquare_88 9 rfl ?_
  refine s_aload_n C (pc := 90) dX3_pairSquare_90 rfl 3 rfl ?_
  refine s_iload_n C (pc := 91) dX3_pairSquare_91 rfl 5 rfl ?_
  refine s_calli C (pc := 92) (wr := []) (wc' := [(mo, .inr (3, [.ref mp, .ref ms, .ref mt, .int sts, .int al, .ref mq, .long wd, .int wS, .int wo, .int fw])), (mp, .inl (X.2.1, 12, .inl (M)))]) (wn := [(mo, .inr (3, [.ref mp, .ref ms, .ref mt, .int sts, .int al, .ref mq, .long wd, .int wS, .int wo, .int fw])), (mp, .inl (X.2.1, 12, .inl (M)))]) (r_V C (As := [.int (nI j)]) (rest := [.int d1, .int (c1 * (Q j)), .long ((((a * (Q i)) + (b1 * (P i))).toInt64) * ((ar P Q j).toInt64))]) (kX3_firstOf l X mo mp ms mt mq sts al wd wS wo fw M n P Q o f ll j (by first | assumption | omega | decide) (by first | assumption | omega | decide) (by first | assumption | omega | decide)) (cwV 1 C.ts gX3_pairSquare_X3_firstOf rfl rfl rfl (by decide +kernel) ⟨Nat.le_of_ble_eq_true rfl, Nat.le_of_ble_eq_true rfl⟩) (q0 := 0) rfl rfl [0, 1] (by decide) rfl rfl (Nat.le_of_ble_eq_true rfl) rfl dX3_pairSquare_92 ⟨Nat.zero_le _, Nat.zero_le _⟩) [0, 1] [] [0, 1] rfl rfl (by decide) (by decide) (by decide) rfl ?_
  refine s_imul C (pc := 95) dX3_pairSquare_95 ?_
  refine s_iadd C (pc := 96) dX3_pairSquare_96 ?_
  refine s_i2l C (pc := 97) dX3_pairSquare_97 ?_
  refine s_lload C (pc := 98) dX3_pairSquare_98 2 rfl ?_
  refine s_lmul C (pc := 100) dX3_pairSquare_100 ?_
  refine s_lsub C (pc := 101) dX3_pairSquare_101 ?_
  refine s_lstore C (pc := 102) (ls' := [(13, .long (((((a * (Q i)) + (b1 * (P i))).toInt64) * ((ar P Q j).toInt64)) - ((((c1 * (Q j)) + (d1 * (P j))).toInt64) * ((ar P Q i).toInt64)))), (11, .long (((((a * (P i)) - (b1 * (Q i))).toInt64) * ((ar P Q j).toInt64)) - ((((c1 * (P j)) - (d1 * (Q j))).toInt64) * ((ar P Q i).toInt64)))), (9, .long ((ar P Q j).toInt64)), (7, .long ((ar P Q i).toInt64)), (0, .ref mo), (1, .int (nI i)), (2, .int (nI j)), (3, .int a), (4, .int b1), (5, .int c1), (6, .int d1)]) dX3_pairSquare_102 (by decide) rfl ?_
  refine s_lload C (pc := 104) dX3_pairSquare_104 1 rfl ?_
  refine s_lload C (pc := 106) dX3_pairSquare_106 1 rfl ?_
  refine s_lmul C (pc := 108) dX3_pairSquare_108 ?_
  refine s_lload C (pc := 109) dX3_pairSquare_109 0 rfl ?_
  refine s_lload C (pc := 111) dX3_pairSquare_111 0 rfl ?_
  refine s_lmul C (pc := 113) dX3_pairSquare_113 ?_
  refine s_ladd C (pc := 114) dX3_pairSquare_114 ?_
  exact s_lret C (pc := 115) hr hlk [0, 1] (by decide) (rfl) (rfl) dX3_pairSquare_115

set_option maxHeartbeats 4000000 in
set_option maxRecDepth 100000 in
theorem kX3_pairBase (l : Launch) (X : XT) (mo mp ms mt mq : Nat) (sts al : Int32) (wd : Int64) (wS wo fw : Int32) (M : Nat → Int32) (n : Nat) (P Q : Nat → Int32) (o f ll : Int32) (i j : Nat) (hM : MR M n P Q o f ll) (hi : i < n) (hj : j < n) (hn : n ≤ 4) : KL l yX3_pairBase wsX3_pairBase ({ frames := 2, cells := 0, slots := 0, locals := 42 }) X [.ref mo, .int (nI i), .int (nI j)] [(mo, .inr (3, [.ref mp, .ref ms, .ref mt, .int sts, .int al, .ref mq, .long wd, .int wS, .int wo, .int fw])), (mp, .inl (X.2.1, 12, .inl (M)))] [(mo, .inr (3, [.ref mp, .ref ms, .ref mt, .int sts, .int al, .ref mq, .long wd, .int wS, .int wo, .int fw])), (mp, .inl (X.2.1, 12, .inl (M)))] (bsL P Q i j) := by
  refine k_ofL (cc := cX3_pairBase) (own := RX3) (maxL := 5) (ret := (some .long)) (ls0 := [(0, .ref mo), (1, .int (nI i)), (2, .int (nI j))]) (by decide) rfl rfl (Nat.le_of_ble_eq_true rfl) rfl ?_
  intro p e s m args below meth c A g C hr hlk
  refine s_aload_n C (pc := 0) dX3_pairBase_0 rfl 0 rfl ?_
  refine s_iload_n C (pc := 1) dX3_pairBase_1 rfl 1 rfl ?_
  refine s_calli C (pc := 2) (wr := []) (wc' := [(mo, .inr (3, [.ref mp, .ref ms, .ref mt, .int sts, .int al, .ref mq, .long wd, .int wS, .int wo, .int fw])), (mp, .inl (X.2.1, 12, .inl (M)))]) (wn := [(mo, .inr (3, [.ref mp, .ref ms, .ref mt, .int sts, .int al, .ref mq, .long wd, .int wS, .int wo, .int fw])), (mp, .inl (X.2.1, 12, .inl (M)))]) (r_V C (As := [.int (nI i)]) (rest := []) (kX3_areaOf l X mo mp ms mt mq sts al wd wS wo fw M n P Q o f ll i (by first | assumption | omega | decide) (by first | assumption | omega | decide) (by first | assumption | omega | decide)) (cwV 1 C.ts gX3_pairBase_X3_areaOf rfl rfl rfl (by decide +kernel) ⟨Nat.le_of_ble_eq_true rfl, Nat.le_of_ble_eq_true rfl⟩) (q0 := 0) rfl rfl [0, 1] (by decide) rfl rfl (Nat.le_of_ble_eq_true rfl) rfl dX3_pairBase_2 ⟨Nat.zero_le _, Nat.zero_le _⟩) [0, 1] [] [0, 1] rfl rfl (by decide) (by decide) (by decide) rfl ?_
  refine s_i2l C (pc := 5) dX3_pairBase_5 ?_
  refine s_aload_n C (pc := 6) dX3_pairBase_6 rfl 0 rfl ?_
  refine s_iload_n C (pc := 7) dX3_pairBase_7 rfl 2 rfl ?_
  refine s_calli C (pc := 8) (wr := []) (wc' := [(mo, .inr (3, [.ref mp, .ref ms, .ref mt, .int sts, .int al, .ref mq, .long wd, .int wS, .int wo, .int fw])), (mp, .inl (X.2.1, 12, .inl (M)))]) (wn := [(mo, .inr (3, [.ref mp, .ref ms, .ref mt, .int sts, .int al, .ref mq, .long wd, .int wS, .int wo, .int fw])), (mp, .inl (X.2.1, 12, .inl (M)))]) (r_V C (As := [.int (nI j)]) (rest := [.long ((ar P Q i).toInt64)]) (kX3_areaOf l X mo mp ms mt mq sts al wd wS wo fw M n P Q o f ll j (by first | assumption | omega | decide) (by first | assumption | omega | decide) (by first | assumption | omega | decide)) (cwV 1 C.ts gX3_pairBase_X3_areaOf rfl rfl rfl (by decide +kernel) ⟨Nat.le_of_ble_eq_true rfl, Nat.le_of_ble_eq_true rfl⟩) (q0 := 0) rfl rfl [0, 1] (by decide) rfl rfl (Nat.le_of_ble_eq_true rfl) rfl dX3_pairBase_8 ⟨Nat.zero_le _, Nat.zero_le _⟩) [0, 1] [] [0, 1] rfl rfl (by decide) (by decide) (by decide) rfl ?_
  refine s_i2l C (pc := 11) dX3_pairBase_11 ?_
  refine s_lmul C (pc := 12) dX3_pairBase_12 ?_
  refine s_lstore_n C (pc := 13) (ls' := [(3, .long (((ar P Q i).toInt64) * ((ar P Q j).toInt64))), (0, .ref mo), (1, .int (nI i)), (2, .int (nI j))]) dX3_pairBase_13 rfl (by decide) rfl ?_
  refine s_lload_n C (pc := 14) dX3_pairBase_14 rfl 0 rfl ?_
  refine s_lload_n C (pc := 15) dX3_pairBase_15 rfl 0 rfl ?_
  refine s_lmul C (pc := 16) dX3_pairBase_16 ?_
  exact s_lret C (pc := 17) hr hlk [0, 1] (by decide) (rfl) (rfl) dX3_pairBase_17

set_option maxHeartbeats 4000000 in
set_option maxRecDepth 100000 in
theorem kX3_part (l : Launch) (X : XT) (mo mp ms mt mq : Nat) (sts al : Int32) (wd : Int64) (wS wo fw : Int32) (M : Nat → Int32) (n : Nat) (P Q : Nat → Int32) (o f ll : Int32) (k : Nat) (x si : Int32) (hM : MR M n P Q o f ll) (hk : k < n) (hn : n ≤ 4) : KI l yX3_part wsX3_part ({ frames := 1, cells := 0, slots := 0, locals := 21 }) X [.ref mo, .int (nI k), .int x, .int si] [(mo, .inr (3, [.ref mp, .ref ms, .ref mt, .int sts, .int al, .ref mq, .long wd, .int wS, .int wo, .int fw])), (mp, .inl (X.2.1, 12, .inl (M)))] [(mo, .inr (3, [.ref mp, .ref ms, .ref mt, .int sts, .int al, .ref mq, .long wd, .int wS, .int wo, .int fw])), (mp, .inl (X.2.1, 12, .inl (M)))] (ptI x si (P k) (Q k)) := by
  refine k_ofI (cc := cX3_part) (own := RX3) (maxL := 5) (ret := (some .int)) (ls0 := [(0, .ref mo), (1, .int (nI k)), (2, .int x), (3, .int si)]) (by decide) rfl rfl (Nat.le_of_ble_eq_true rfl) rfl ?_
  intro p e s m args below meth c A g C hr hlk
  refine s_iload_n C (pc := 0) dX3_part_0 rfl 2 rfl ?_
  refine s_iconst C (pc := 1) (v := 2) dX3_part_1 (by decide) ?_
  refine s_irem C (pc := 2) dX3_part_2 (by decide) ?_
  refine s_if_ne C (pc := 3) (tgt := 26) dX3_part_3 (by decide) (fun c3 => ?_) (fun c3 => ?_)
  · skip
    refine s_iload_n C (pc := 26) dX3_part_26 rfl 3 rfl ?_
    refine s_if_eq C (pc := 27) (tgt := 38) dX3_part_27 (by decide) (fun c27 => ?_) (fun c27 => ?_)
    · skip
      refine s_aload_n C (pc := 38) dX3_part_38 rfl 0 rfl ?_
      refine s_iload_n C (pc := 39) dX3_part_39 rfl 1 rfl ?_
      refine s_calli C (pc := 40) (wr := []) (wc' := [(mo, .inr (3, [.ref mp, .ref ms, .ref mt, .int sts, .int al, .ref mq, .long wd, .int wS, .int wo, .int fw])), (mp, .inl (X.2.1, 12, .inl (M)))]) (wn := [(mo, .inr (3, [.ref mp, .ref ms, .ref mt, .int sts, .int al, .ref mq, .long wd, .int wS, .int wo, .int fw])), (mp, .inl (X.2.1, 12, .inl (M)))]) (r_V C (As := [.int (nI k)]) (rest := []) (kX3_secondOf l X mo mp ms mt mq sts al wd wS wo fw M n P Q o f ll k (by first | assumption | omega | decide) (by first | assumption | omega | decide) (by first | assumption | omega | decide)) (cwV 1 C.ts gX3_part_X3_secondOf rfl rfl rfl (by decide +kernel) ⟨Nat.le_of_ble_eq_true rfl, Nat.le_of_ble_eq_true rfl⟩) (q0 := 0) rfl rfl [0, 1] (by decide) rfl rfl (Nat.le_of_ble_eq_true rfl) rfl dX3_part_40 ⟨Nat.zero_le _, Nat.zero_le _⟩) [0, 1] [] [0, 1] rfl rfl (by decide) (by decide) (by decide) rfl ?_
      refine s_ineg C (pc := 43) dX3_part_43 ?_
      refine s_istore C (pc := 44) (ls' := [(4, .int (-(Q k))), (0, .ref mo), (1, .int (nI k)), (2, .int x), (3, .int si)]) dX3_part_44 (by decide) rfl ?_
      refine s_iload_n C (pc := 46) dX3_part_46 rfl 3 rfl ?_
      refine s_iconst C (pc := 47) (v := 2) dX3_part_47 (by decide) ?_
      refine s_icmp_ge C (pc := 48) (tgt := 56) dX3_part_48 (by decide) (fun c48 => ?_) (fun c48 => ?_)
      · skip
        refine s_iload C (pc := 56) dX3_part_56 0 rfl ?_
        refine s_ineg C (pc := 58) dX3_part_58 ?_
        exact s_iret C (pc := 59) hr hlk [0, 1] (by decide) (rfl) ((by unfold ptI ptV; rw [if_neg (Int32.not_lt.mpr c48), if_neg c3, if_pos c27])) dX3_part_59
      · skip
        refine s_iload C (pc := 51) dX3_part_51 0 rfl ?_
        refine s_goto C (pc := 53) (tgt := 59) dX3_part_53 (by decide) ?_
        exact s_iret C (pc := 59) hr hlk [0, 1] (by decide) (rfl) ((by unfold ptI ptV; rw [if_pos (Int32.not_le.mp c48), if_neg c3, if_pos c27])) dX3_part_59
    · skip
      refine s_aload_n C (pc := 30) dX3_part_30 rfl 0 rfl ?_
      refine s_iload_n C (pc := 31) dX3_part_31 rfl 1 rfl ?_
      refine s_calli C (pc := 32) (wr := []) (wc' := [(mo, .inr (3, [.ref mp, .ref ms, .ref mt, .int sts, .int al, .ref mq, .long wd, .int wS, .int wo, .int fw])), (mp, .inl (X.2.1, 12, .inl (M)))]) (wn := [(mo, .inr (3, [.ref mp, .ref ms, .ref mt, .int sts, .int al, .ref mq, .long wd, .int wS, .int wo, .int fw])), (mp, .inl (X.2.1, 12, .inl (M)))]) (r_V C (As := [.int (nI k)]) (rest := []) (kX3_firstOf l X mo mp ms mt mq sts al wd wS wo fw M n P Q o f ll k (by first | assumption | omega | decide) (by first | assumption | omega | decide) (by first | assumption | omega | decide)) (cwV 1 C.ts gX3_part_X3_firstOf rfl rfl rfl (by decide +kernel) ⟨Nat.le_of_ble_eq_true rfl, Nat.le_of_ble_eq_true rfl⟩) (q0 := 0) rfl rfl [0, 1] (by decide) rfl rfl (Nat.le_of_ble_eq_true rfl) rfl dX3_part_32 ⟨Nat.zero_le _, Nat.zero_le _⟩) [0, 1] [] [0, 1] rfl rfl (by decide) (by decide) (by decide) rfl ?_
      refine s_goto C (pc := 35) (tgt := 44) dX3_part_35 (by decide) ?_
      refine s_istore C (pc := 44) (ls' := [(4, .int (P k)), (0, .ref mo), (1, .int (nI k)), (2, .int x), (3, .int si)]) dX3_part_44 (by decide) rfl ?_
      refine s_iload_n C (pc := 46) dX3_part_46 rfl 3 rfl ?_
      refine s_iconst C (pc := 47) (v := 2) dX3_part_47 (by decide) ?_
      refine s_icmp_ge C (pc := 48) (tgt := 56) dX3_part_48 (by decide) (fun c48 => ?_) (fun c48 => ?_)
      · skip
        refine s_iload C (pc := 56) dX3_part_56 0 rfl ?_
        refine s_ineg C (pc := 58) dX3_part_58 ?_
        exact s_iret C (pc := 59) hr hlk [0, 1] (by decide) (rfl) ((by unfold ptI ptV; rw [if_neg (Int32.not_lt.mpr c48), if_neg c3, if_neg c27])) dX3_part_59
      · skip
        refine s_iload C (pc := 51) dX3_part_51 0 rfl ?_
        refine s_goto C (pc := 53) (tgt := 59) dX3_part_53 (by decide) ?_
        exact s_iret C (pc := 59) hr hlk [0, 1] (by decide) (rfl) ((by unfold ptI ptV; rw [if_pos (Int32.not_le.mp c48), if_neg c3, if_neg c27])) dX3_part_59
  · skip
    refine s_iload_n C (pc := 6) dX3_part_6 rfl 3 rfl ?_
    refine s_if_eq C (pc := 7) (tgt := 18) dX3_part_7 (by decide) (fun c7 => ?_) (fun c7 => ?_)
    · skip
      refine s_aload_n C (pc := 18) dX3_part_18 rfl 0 rfl ?_
      refine s_iload_n C (pc := 19) dX3_part_19 rfl 1 rfl ?_
      refine s_calli C (pc := 20) (wr := []) (wc' := [(mo, .inr (3, [.ref mp, .ref ms, .ref mt, .int sts, .int al, .ref mq, .long wd, .int wS, .int wo, .int fw])), (mp, .inl (X.2.1, 12, .inl (M)))]) (wn := [(mo, .inr (3, [.ref mp, .ref ms, .ref mt, .int sts, .int al, .ref mq, .long wd, .int wS, .int wo, .int fw])), (mp, .inl (X.2.1, 12, .inl (M)))]) (r_V C (As := [.int (nI k)]) (rest := []) (kX3_firstOf l X mo mp ms mt mq sts al wd wS wo fw M n P Q o f ll k (by first | assumption | omega | decide) (by first | assumption | omega | decide) (by first | assumption | omega | decide)) (cwV 1 C.ts gX3_part_X3_firstOf rfl rfl rfl (by decide +kernel) ⟨Nat.le_of_ble_eq_true rfl, Nat.le_of_ble_eq_true rfl⟩) (q0 := 0) rfl rfl [0, 1] (by decide) rfl rfl (Nat.le_of_ble_eq_true rfl) rfl dX3_part_20 ⟨Nat.zero_le _, Nat.zero_le _⟩) [0, 1] [] [0, 1] rfl rfl (by decide) (by decide) (by decide) rfl ?_
      refine s_goto C (pc := 23) (tgt := 44) dX3_part_23 (by decide) ?_
      refine s_istore C (pc := 44) (ls' := [(4, .int (P k)), (0, .ref mo), (1, .int (nI k)), (2, .int x), (3, .int si)]) dX3_part_44 (by decide) rfl ?_
      refine s_iload_n C (pc := 46) dX3_part_46 rfl 3 rfl ?_
      refine s_iconst C (pc := 47) (v := 2) dX3_part_47 (by decide) ?_
      refine s_icmp_ge C (pc := 48) (tgt := 56) dX3_part_48 (by decide) (fun c48 => ?_) (fun c48 => ?_)
      · skip
        refine s_iload C (pc := 56) dX3_part_56 0 rfl ?_
        refine s_ineg C (pc := 58) dX3_part_58 ?_
        exact s_iret C (pc := 59) hr hlk [0, 1] (by decide) (rfl) ((by unfold ptI ptV; rw [if_neg (Int32.not_lt.mpr c48), if_pos c3, if_pos c7])) dX3_part_59
      · skip
        refine s_iload C (pc := 51) dX3_part_51 0 rfl ?_
        refine s_goto C (pc := 53) (tgt := 59) dX3_part_53 (by decide) ?_
        exact s_iret C (pc := 59) hr hlk [0, 1] (by decide) (rfl) ((by unfold ptI ptV; rw [if_pos (Int32.not_le.mp c48), if_pos c3, if_pos c7])) dX3_part_59
    · skip
      refine s_aload_n C (pc := 10) dX3_part_10 rfl 0 rfl ?_
      refine s_iload_n C (pc := 11) dX3_part_11 rfl 1 rfl ?_
      refine s_calli C (pc := 12) (wr := []) (wc' := [(mo, .inr (3, [.ref mp, .ref ms, .ref mt, .int sts, .int al, .ref mq, .long wd, .int wS, .int wo, .int fw])), (mp, .inl (X.2.1, 12, .inl (M)))]) (wn := [(mo, .inr (3, [.ref mp, .ref ms, .ref mt, .int sts, .int al, .ref mq, .long wd, .int wS, .int wo, .int fw])), (mp, .inl (X.2.1, 12, .inl (M)))]) (r_V C (As := [.int (nI k)]) (rest := []) (kX3_secondOf l X mo mp ms mt mq sts al wd wS wo fw M n P Q o f ll k (by first | assumption | omega | decide) (by first | assumption | omega | decide) (by first | assumption | omega | decide)) (cwV 1 C.ts gX3_part_X3_secondOf rfl rfl rfl (by decide +kernel) ⟨Nat.le_of_ble_eq_true rfl, Nat.le_of_ble_eq_true rfl⟩) (q0 := 0) rfl rfl [0, 1] (by decide) rfl rfl (Nat.le_of_ble_eq_true rfl) rfl dX3_part_12 ⟨Nat.zero_le _, Nat.zero_le _⟩) [0, 1] [] [0, 1] rfl rfl (by decide) (by decide) (by decide) rfl ?_
      refine s_goto C (pc := 15) (tgt := 44) dX3_part_15 (by decide) ?_
      refine s_istore C (pc := 44) (ls' := [(4, .int (Q k)), (0, .ref mo), (1, .int (nI k)), (2, .int x), (3, .int si)]) dX3_part_44 (by decide) rfl ?_
      refine s_iload_n C (pc := 46) dX3_part_46 rfl 3 rfl ?_
      refine s_iconst C (pc := 47) (v := 2) dX3_part_47 (by decide) ?_
      refine s_icmp_ge C (pc := 48) (tgt := 56) dX3_part_48 (by decide) (fun c48 => ?_) (fun c48 => ?_)
      · skip
        refine s_iload C (pc := 56) dX3_part_56 0 rfl ?_
        refine s_ineg C (pc := 58) dX3_part_58 ?_
        exact s_iret C (pc := 59) hr hlk [0, 1] (by decide) (rfl) ((by unfold ptI ptV; rw [if_neg (Int32.not_lt.mpr c48), if_pos c3, if_neg c7])) dX3_part_59
      · skip
        refine s_iload C (pc := 51) dX3_part_51 0 rfl ?_
        refine s_goto C (pc := 53) (tgt := 59) dX3_part_53 (by decide) ?_
        exact s_iret C (pc := 59) hr hlk [0, 1] (by decide) (rfl) ((by unfold ptI ptV; rw [if_pos (Int32.not_le.mp c48), if_pos c3, if_neg c7])) dX3_part_59

set_option maxHeartbeats 4000000 in
set_option maxRecDepth 100000 in
theorem kX3_tripleSquare (l : Launch) (X : XT) (mo mp ms mt mq : Nat) (sts al : Int32) (wd : Int64) (wS wo fw : Int32) (M : Nat → Int32) (n : Nat) (P Q : Nat → Int32) (o f ll : Int32) (i j k : Nat) (x : Int32) (hM : MR M n P Q o f ll) (hi : i < n) (hj : j < n) (hk : k < n) (hn : n ≤ 4) : KL l yX3_tripleSquare wsX3_tripleSquare ({ frames := 2, cells := 0, slots := 0, locals := 45 }) X [.ref mo, .int (nI i), .int (nI j), .int (nI k), .int x] [(mo, .inr (3, [.ref mp, .ref ms, .ref mt, .int sts, .int al, .ref mq, .long wd, .int wS, .int wo, .int fw])), (mp, .inl (X.2.1, 12, .inl (M)))] [(mo, .inr (3, [.ref mp, .ref ms, .ref mt, .int sts, .int al, .ref mq, .long wd, .int wS, .int wo, .int fw])), (mp, .inl (X.2.1, 12, .inl (M)))] (tsL P Q i j k x) := by
  refine k_ofL (cc := cX3_tripleSquare) (own := RX3) (maxL := 15) (ret := (some .long)) (ls0 := [(0, .ref mo), (1, .int (nI i)), (2, .int (nI j)), (3, .int (nI k)), (4, .int x)]) (by decide) rfl rfl (Nat.le_of_ble_eq_true rfl) rfl ?_
  intro p e s m args below meth c A g C hr hlk
  refine s_aload_n C (pc := 0) dX3_tripleSquare_0 rfl 0 rfl ?_
  refine s_iload_n C (pc := 1) dX3_tripleSquare_1 rfl 2 rfl ?_
  refine s_calli C (pc := 2) (wr := []) (wc' := [(mo, .inr (3, [.ref mp, .ref ms, .ref mt, .int sts, .int al, .ref mq, .long wd, .int wS, .int wo, .int fw])), (mp, .inl (X.2.1, 12, .inl (M)))]) (wn := [(mo, .inr (3, [.ref mp, .ref ms, .ref mt, .int sts, .int al, .ref mq, .long wd, .int wS, .int wo, .int fw])), (mp, .inl (X.2.1, 12, .inl (M)))]) (r_V C (As := [.int (nI j)]) (rest := []) (kX3_areaOf l X mo mp ms mt mq sts al wd wS wo fw M n P Q o f ll j (by first | assumption | omega | decide) (by first | assumption | omega | decide) (by first | assumption | omega | decide)) (cwV 1 C.ts gX3_tripleSquare_X3_areaOf rfl rfl rfl (by decide +kernel) ⟨Nat.le_of_ble_eq_true rfl, Nat.le_of_ble_eq_true rfl⟩) (q0 := 0) rfl rfl [0, 1] (by decide) rfl rfl (Nat.le_of_ble_eq_true rfl) rfl dX3_tripleSquare_2 ⟨Nat.zero_le _, Nat.zero_le _⟩) [0, 1] [] [0, 1] rfl rfl (by decide) (by decide) (by decide) rfl ?_
  refine s_i2l C (pc := 5) dX3_tripleSquare_5 ?_
  refine s_aload_n C (pc := 6) dX3_tripleSquare_6 rfl 0 rfl ?_
  refine s_iload_n C (pc := 7) dX3_tripleSquare_7 rfl 3 rfl ?_
  refine s_calli C (pc := 8) (wr := []) (wc' := [(mo, .inr (3, [.ref mp, .ref ms, .ref mt, .int sts, .int al, .ref mq, .long wd, .int wS, .int wo, .int fw])), (mp, .inl (X.2.1, 12, .inl (M)))]) (wn := [(mo, .inr (3, [.ref mp, .ref ms, .ref mt, .int sts, .int al, .ref mq, .long wd, .int wS, .int wo, .int fw])), (mp, .inl (X.2.1, 12, .inl (M)))]) (r_V C (As := [.int (nI k)]) (rest := [.long ((ar P Q j).toInt64)]) (kX3_areaOf l X mo mp ms mt mq sts al wd wS wo fw M n P Q o f ll k (by first | assumption | omega | decide) (by first | assumption | omega | decide) (by first | assumption | omega | decide)) (cwV 1 C.ts gX3_tripleSquare_X3_areaOf rfl rfl rfl (by decide +kernel) ⟨Nat.le_of_ble_eq_true rfl, Nat.le_of_ble_eq_true rfl⟩) (q0 := 0) rfl rfl [0, 1] (by decide) rfl rfl (Nat.le_of_ble_eq_true rfl) rfl dX3_tripleSquare_8 ⟨Nat.zero_le _, Nat.zero_le _⟩) [0, 1] [] [0, 1] rfl rfl (by decide) (by decide) (by decide) rfl ?_
  refine s_i2l C (pc := 11) dX3_tripleSquare_11 ?_
  refine s_lmul C (pc := 12) dX3_tripleSquare_12 ?_
  refine s_lstore C (pc := 13) (ls' := [(5, .long (((ar P Q j).toInt64) * ((ar P Q k).toInt64))), (0, .ref mo), (1, .int (nI i)), (2, .int (nI j)), (3, .int (nI k)), (4, .int x)]) dX3_tripleSquare_13 (by decide) rfl ?_
  refine s_aload_n C (pc := 15) dX3_tripleSquare_15 rfl 1 rfl ?_
  refine s_iload_n C (pc := 16) dX3_tripleSquare_16 rfl 2 rfl ?_
  refine s_calli C (pc := 17) (wr := []) (wc' := [(mo, .inr (3, [.ref mp, .ref ms, .ref mt, .int sts, .int al, .ref mq, .long wd, .int wS, .int wo, .int fw])), (mp, .inl (X.2.1, 12, .inl (M)))]) (wn := [(mo, .inr (3, [.ref mp, .ref ms, .ref mt, .int sts, .int al, .ref mq, .long wd, .int wS, .int wo, .int fw])), (mp, .inl (X.2.1, 12, .inl (M)))]) (r_V C (As := [.int (nI i)]) (rest := []) (kX3_areaOf l X mo mp ms mt mq sts al wd wS wo fw M n P Q o f ll i (by first | assumption | omega | decide) (by first | assumption | omega | decide) (by first | assumption | omega | decide)) (cwV 1 C.ts gX3_tripleSquare_X3_areaOf rfl rfl rfl (by decide +kernel) ⟨Nat.le_of_ble_eq_true rfl, Nat.le_of_ble_eq_true rfl⟩) (q0 := 0) rfl rfl [0, 1] (by decide) rfl rfl (Nat.le_of_ble_eq_true rfl) rfl dX3_tripleSquare_17 ⟨Nat.zero_le _, Nat.zero_le _⟩) [0, 1] [] [0, 1] rfl rfl (by decide) (by decide) (by decide) rfl ?_
  refine s_i2l C (pc := 20) dX3_tripleSquare_20 ?_
  refine s_aload_n C (pc := 21) dX3_tripleSquare_21 rfl 1 rfl ?_
  refine s_iload_n C (pc := 22) dX3_tripleSquare_22 rfl 4 rfl ?_
  refine s_calli C (pc := 23) (wr := []) (wc' := [(mo, .inr (3, [.ref mp, .ref ms, .ref mt, .int sts, .int al, .ref mq, .long wd, .int wS, .int wo, .int fw])), (mp, .inl (X.2.1, 12, .inl (M)))]) (wn := [(mo, .inr (3, [.ref mp, .ref ms, .ref mt, .int sts, .int al, .ref mq, .long wd, .int wS, .int wo, .int fw])), (mp, .inl (X.2.1, 12, .inl (M)))]) (r_V C (As := [.int (nI k)]) (rest := [.long ((ar P Q i).toInt64)]) (kX3_areaOf l X mo mp ms mt mq sts al wd wS wo fw M n P Q o f ll k (by first | assumption | omega | decide) (by first | assumption | omega | decide) (by first | assumption | omega | decide)) (cwV 1 C.ts gX3_tripleSquare_X3_areaOf rfl rfl rfl (by decide +kernel) ⟨Nat.le_of_ble_eq_true rfl, Nat.le_of_ble_eq_true rfl⟩) (q0 := 0) rfl rfl [0, 1] (by decide) rfl rfl (Nat.le_of_ble_eq_true rfl) rfl dX3_tripleSquare_23 ⟨Nat.zero_le _, Nat.zero_le _⟩) [0, 1] [] [0, 1] rfl rfl (by decide) (by decide) (by decide) rfl ?_
  refine s_i2l C (pc := 26) dX3_tripleSquare_26 ?_
  refine s_lmul C (pc := 27) dX3_tripleSquare_27 ?_
  refine s_lstore C (pc := 28) (ls' := [(7, .long (((ar P Q i).toInt64) * ((ar P Q k).toInt64))), (5, .long (((ar P Q j).toInt64) * ((ar P Q k).toInt64))), (0, .ref mo), (1, .int (nI i)), (2, .int (nI j)), (3, .int (nI k)), (4, .int x)]) dX3_tripleSquare_28 (by decide) rfl ?_
  refine s_aload_n C (pc := 30) dX3_tripleSquare_30 rfl 2 rfl ?_
  refine s_iload_n C (pc := 31) dX3_tripleSquare_31 rfl 3 rfl ?_
  refine s_calli C (pc := 32) (wr := []) (wc' := [(mo, .inr (3, [.ref mp, .ref ms, .ref mt, .int sts, .int al, .ref mq, .long wd, .int wS, .int wo, .int fw])), (mp, .inl (X.2.1, 12, .inl (M)))]) (wn := [(mo, .inr (3, [.ref mp, .ref ms, .ref mt, .int sts, .int al, .ref mq, .long wd, .int wS, .int wo, .int fw])), (mp, .inl (X.2.1, 12, .inl (M)))]) (r_V C (As := [.int (nI i)]) (rest := []) (kX3_areaOf l X mo mp ms mt mq sts al wd wS wo fw M n P Q o f ll i (by first | assumption | omega | decide) (by first | assumption | omega | decide) (by first | assumption | omega | decide)) (cwV 1 C.ts gX3_tripleSquare_X3_areaOf rfl rfl rfl (by decide +kernel) ⟨Nat.le_of_ble_eq_true rfl, Nat.le_of_ble_eq_true rfl⟩) (q0 := 0) rfl rfl [0, 1] (by decide) rfl rfl (Nat.le_of_ble_eq_true rfl) rfl dX3_tripleSquare_32 ⟨Nat.zero_le _, Nat.zero_le _⟩) [0, 1] [] [0, 1] rfl rfl (by decide) (by decide) (by decide) rfl ?_
  refine s_i2l C (pc := 35) dX3_tripleSquare_35 ?_
  refine s_aload_n C (pc := 36) dX3_tripleSquare_36 rfl 2 rfl ?_
  refine s_iload_n C (pc := 37) dX3_tripleSquare_37 rfl 4 rfl ?_
  refine s_calli C (pc := 38) (wr := []) (wc' := [(mo, .inr (3, [.ref mp, .ref ms, .ref mt, .int sts, .int al, .ref mq, .long wd, .int wS, .int wo, .int fw])), (mp, .inl (X.2.1, 12, .inl (M)))]) (wn := [(mo, .inr (3, [.ref mp, .ref ms, .ref mt, .int sts, .int al, .ref mq, .long wd, .int wS, .int wo, .int fw])), (mp, .inl (X.2.1, 12, .inl (M)))]) (r_V C (As := [.int (nI j)]) (rest := [.long ((ar P Q i).toInt64)]) (kX3_areaOf l X mo mp ms mt mq sts al wd wS wo fw M n P Q o f ll j (by first | assumption | omega | decide) (by first | assumption | omega | decide) (by first | assumption | omega | decide)) (cwV 1 C.ts gX3_tripleSquare_X3_areaOf rfl rfl rfl (by decide +kernel) ⟨Nat.le_of_ble_eq_true rfl, Nat.le_of_ble_eq_true rfl⟩) (q0 := 0) rfl rfl [0, 1] (by decide) rfl rfl (Nat.le_of_ble_eq_true rfl) rfl dX3_tripleSquare_38 ⟨Nat.zero_le _, Nat.zero_le _⟩) [0, 1] [] [0, 1] rfl rfl (by decide) (by decide) (by decide) rfl ?_
  refine s_i2l C (pc := 41) dX3_tripleSquare_41 ?_
  refine s_lmul C (pc := 42) dX3_tripleSquare_42 ?_
  refine s_lstore C (pc := 43) (ls' := [(9, .long (((ar P Q i).toInt64) * ((ar P Q j).toInt64))), (7, .long (((ar P Q i).toInt64) * ((ar P Q k).toInt64))), (5, .long (((ar P Q j).toInt64) * ((ar P Q k).toInt64))), (0, .ref mo), (1, .int (nI i)), (2, .int (nI j)), (3, .int (nI k)), (4, .int x)]) dX3_tripleSquare_43 (by decide) rfl ?_
  refine s_aload_n C (pc := 45) dX3_tripleSquare_45 rfl 3 rfl ?_
  refine s_iload_n C (pc := 46) dX3_tripleSquare_46 rfl 4 rfl ?_
  refine s_iload C (pc := 47) dX3_tripleSquare_47 7 rfl ?_
  refine s_bipush C (pc := 49) (v := 16) dX3_tripleSquare_49 (by decide) ?_
  refine s_idiv C (pc := 51) dX3_tripleSquare_51 (by decide) ?_
  refine s_iconst C (pc := 52) (v := 0) dX3_tripleSquare_52 (by decide) ?_
  refine s_calli C (pc := 53) (wr := []) (wc' := [(mo, .inr (3, [.ref mp, .ref ms, .ref mt, .int sts, .int al, .ref mq, .long wd, .int wS, .int wo, .int fw])), (mp, .inl (X.2.1, 12, .inl (M)))]) (wn := [(mo, .inr (3, [.ref mp, .ref ms, .ref mt, .int sts, .int al, .ref mq, .long wd, .int wS, .int wo, .int fw])), (mp, .inl (X.2.1, 12, .inl (M)))]) (r_V C (As := [.int (nI i), .int (x / 16), .int 0]) (rest := []) (kX3_part l X mo mp ms mt mq sts al wd wS wo fw M n P Q o f ll i (x / 16) 0 (by first | assumption | omega | decide) (by first | assumption | omega | decide) (by first | assumption | omega | decide)) (cwV 3 C.ts gX3_tripleSquare_X3_part rfl rfl rfl (by decide +kernel) ⟨Nat.le_of_ble_eq_true rfl, Nat.le_of_ble_eq_true rfl⟩) (q0 := 0) rfl rfl [0, 1] (by decide) rfl rfl (Nat.le_of_ble_eq_true rfl) rfl dX3_tripleSquare_53 ⟨Nat.zero_le _, Nat.zero_le _⟩) [0, 1] [] [0, 1] rfl rfl (by decide) (by decide) (by decide) rfl ?_
  refine s_i2l C (pc := 56) dX3_tripleSquare_56 ?_
  refine s_lload C (pc := 57) dX3_tripleSquare_57 2 rfl ?_
  refine s_lmul C (pc := 59) dX3_tripleSquare_59 ?_
  refine s_aload_n C (pc := 60) dX3_tripleSquare_60 rfl 3 rfl ?_
  refine s_iload_n C (pc := 61) dX3_tripleSquare_61 rfl 5 rfl ?_
  refine s_iload C (pc := 62) dX3_tripleSquare_62 7 rfl ?_
  refine s_iconst C (pc := 64) (v := 4) dX3_tripleSquare_64 (by decide) ?_
  refine s_idiv C (pc := 65) dX3_tripleSquare_65 (by decide) ?_
  refine s_iconst C (pc := 66) (v := 4) dX3_tripleSquare_66 (by decide) ?_
  refine s_irem C (pc := 67) dX3_tripleSquare_67 (by decide) ?_
  refine s_iconst C (pc := 68) (v := 0) dX3_tripleSquare_68 (by decide) ?_
  refine s_calli C (pc := 69) (wr := []) (wc' := [(mo, .inr (3, [.ref mp, .ref ms, .ref mt, .int sts, .int al, .ref mq, .long wd, .int wS, .int wo, .int fw])), (mp, .inl (X.2.1, 12, .inl (M)))]) (wn := [(mo, .inr (3, [.ref mp, .ref ms, .ref mt, .int sts, .int al, .ref mq, .long wd, .int wS, .int wo, .int fw])), (mp, .inl (X.2.1, 12, .inl (M)))]) (r_V C (As := [.int (nI j), .int ((x / 4) - (x / 4) / 4 * 4), .int 0]) (rest := [.long (((ptI (x / 16) 0 (P i) (Q i)).toInt64) * (((ar P Q j).toInt64) * ((ar P Q k).toInt64)))]) (kX3_part l X mo mp ms mt mq sts al wd wS wo fw M n P Q o f ll j ((x / 4) - (x / 4) / 4 * 4) 0 (by first | assumption | omega | decide) (by first | assumption | omega | decide) (by first | assumption | omega | decide)) (cwV 3 C.ts gX3_tripleSquare_X3_part rfl rfl rfl (by decide +kernel) ⟨Nat.le_of_ble_eq_true rfl, Nat.le_of_ble_eq_true rfl⟩) (q0 := 0) rfl rfl [0, 1] (by decide) rfl rfl (Nat.le_of_ble_eq_true rfl) rfl dX3_tripleSquare_69 ⟨Nat.zero_le _, Nat.zero_le _⟩) [0, 1] [] [0, 1] rfl rfl (by decide) (by decide) (by decide) rfl ?_
  refine s_i2l C (pc := 72) dX3_tripleSquare_72 ?_
  refine s_lload C (pc := 73) dX3_tripleSquare_73 1 rfl ?_
  refine s_lmul C (pc := 75) dX3_tripleSquare_75 ?_
  refine s_ladd C (pc := 76) dX3_tripleSquare_76 ?_
  refine s_aload_n C (pc := 77) dX3_tripleSquare_77 rfl 3 rfl ?_
  refine s_iload_n C (pc := 78) dX3_tripleSquare_78 rfl 6 rfl ?_
  refine s_iload C (pc := 79) dX3_tripleSquare_79 7 rfl ?_
  refine s_iconst C (pc := 81) (v := 4) dX3_tripleSquare_81 (by decide) ?_
  refine s_irem C (pc := 82) dX3_tripleSquare_82 (by decide) ?_
  refine s_iconst C (pc := 83) (v := 0) dX3_tripleSquare_83 (by decide) ?_
  refine s_calli C (pc := 84) (wr := []) (wc' := [(mo, .inr (3, [.ref mp, .ref ms, .ref mt, .int sts, .int al, .ref mq, .long wd, .int wS, .int wo, .int fw])), (mp, .inl (X.2.1, 12, .inl (M)))]) (wn := [(mo, .inr (3, [.ref mp, .ref ms, .ref mt, .int sts, .int al, .ref mq, .long wd, .int wS, .int wo, .int fw])), (mp, .inl (X.2.1, 12, .inl (M)))]) (r_V C (As := [.int (nI k), .int (x - x / 4 * 4), .int 0]) (rest := [.long ((((ptI (x / 16) 0 (P i) (Q i)).toInt64) * (((ar P Q j).toInt64) * ((ar P Q k).toInt64))) + (((ptI ((x / 4) - (x / 4) / 4 * 4) 0 (P j) (Q j)).toInt64) * (((ar P Q i).toInt64) * ((ar P Q k).toInt64))))]) (kX3_part l X mo mp ms mt mq sts al wd wS wo fw M n P Q o f ll k (x - x / 4 * 4) 0 (by first | assumption | omega | decide) (by first | assumption | omega | decide) (by first | assumption | omega | decide)) (cwV 3 C.ts gX3_tripleSquare_X3_part rfl rfl rfl (by decide +kernel) ⟨Nat.le_of_ble_eq_true rfl, Nat.le_of_ble_eq_true rfl⟩) (q0 := 0) rfl rfl [0, 1] (by decide) rfl rfl (Nat.le_of_ble_eq_true rfl) rfl dX3_tripleSquare_84 ⟨Nat.zero_le _, Nat.zero_le _⟩) [0, 1] [] [0, 1] rfl rfl (by decide) (by decide) (by decide) rfl ?_
  refine s_i2l C (pc := 87) dX3_tripleSquare_87 ?_
  refine s_lload C (pc := 88) dX3_tripleSquare_88 0 rfl ?_
  refine s_lmul C (pc := 90) dX3_tripleSquare_90 ?_
  refine s_ladd C (pc := 91) dX3_tripleSquare_91 ?_
  refine s_lstore C (pc := 92) (ls' := [(11, .long (((((ptI (x / 16) 0 (P i) (Q i)).toInt64) * (((ar P Q j).toInt64) * ((ar P Q k).toInt64))) + (((ptI ((x / 4) - (x / 4) / 4 * 4) 0 (P j) (Q j)).toInt64) * (((ar P Q i).toInt64) * ((ar P Q k).toInt64)))) + (((ptI (x - x / 4 * 4) 0 (P k) (Q k)).toInt64) * (((ar P Q i).toInt64) * ((ar P Q j).toInt64))))), (9, .long (((ar P Q i).toInt64) * ((ar P Q j).toInt64))), (7, .long (((ar P Q i).toInt64) * ((ar P Q k).toInt64))), (5, .long (((ar P Q j).toInt64) * ((ar P Q k).toInt64))), (0, .ref mo), (1, .int (nI i)), (2, .int (nI j)), (3, .int (nI k)), (4, .int x)]) dX3_tripleSquare_92 (by decide) rfl ?_
  refine s_aload_n C (pc := 94) dX3_tripleSquare_94 rfl 4 rfl ?_
  refine s_iload_n C (pc := 95) dX3_tripleSquare_95 rfl 5 rfl ?_
  refine s_iload C (pc := 96) dX3_tripleSquare_96 8 rfl ?_
  refine s_bipush C (pc := 98) (v := 16) dX3_tripleSquare_98 (by decide) ?_
  refine s_idiv C (pc := 100) dX3_tripleSquare_100 (by decide) ?_
  refine s_iconst C (pc := 101) (v := 1) dX3_tripleSquare_101 (by decide) ?_
  refine s_calli C (pc := 102) (wr := []) (wc' := [(mo, .inr (3, [.ref mp, .ref ms, .ref mt, .int sts, .int al, .ref mq, .long wd, .int wS, .int wo, .int fw])), (mp, .inl (X.2.1, 12, .inl (M)))]) (wn := [(mo, .inr (3, [.ref mp, .ref ms, .ref mt, .int sts, .int al, .ref mq, .long wd, .int wS, .int wo, .int fw])), (mp, .inl (X.2.1, 12, .inl (M)))]) (r_V C (As := [.int (nI i), .int (x / 16), .int 1]) (rest := []) (kX3_part l X mo mp ms mt mq sts al wd wS wo fw M n P Q o f ll i (x / 16) 1 (by first | assumption | omega | decide) (by first | assumption | omega | decide) (by first | assumption | omega | decide)) (cwV 3 C.ts gX3_tripleSquare_X3_part rfl rfl rfl (by decide +kernel) ⟨Nat.le_of_ble_eq_true rfl, Nat.le_of_ble_eq_true rfl⟩) (q0 := 0) rfl rfl [0, 1] (by decide) rfl rfl (Nat.le_of_ble_eq_true rfl) rfl dX3_tripleSquare_102 ⟨Nat.zero_le _, Nat.zero_le _⟩) [0, 1] [] [0, 1] rfl rfl (by decide) (by decide) (by decide) rfl ?_
  refine s_i2l C (pc := 105) dX3_tripleSquare_105 ?_
  refine s_lload C (pc := 106) dX3_tripleSquare_106 3 rfl ?_
  refine s_lmul C (pc := 108) dX3_tripleSquare_108 ?_
  refine s_aload_n C (pc := 109) dX3_tripleSquare_109 rfl 4 rfl ?_
  refine s_iload_n C (pc := 110) dX3_tripleSquare_110 rfl 6 rfl ?_
  refine s_iload C (pc := 111) dX3_tripleSquare_111 8 rfl ?_
  refine s_iconst C (pc := 113) (v := 4) dX3_tripleSquare_113 (by decide) ?_
  refine s_idiv C (pc := 114) dX3_tripleSquare_114 (by decide) ?_
  refine s_iconst C (pc := 115) (v := 4) dX3_tripleSquare_115 (by decide) ?_
  refine s_irem C (pc := 116) dX3_tripleSquare_116 (by decide) ?_
  refine s_iconst C (pc := 117) (v := 1) dX3_tripleSquare_117 (by decide) ?_
  refine s_calli C (pc := 118) (wr := []) (wc' := [(mo, .inr (3, [.ref mp, .ref ms, .ref mt, .int sts, .int al, .ref mq, .long wd, .int wS, .int wo, .int fw])), (mp, .inl (X.2.1, 12, .inl (M)))]) (wn := [(mo, .inr (3, [.ref mp, .ref ms, .ref mt, .int sts, .int al, .ref mq, .long wd, .int wS, .int wo, .int fw])), (mp, .inl (X.2.1, 12, .inl (M)))]) (r_V C (As := [.int (nI j), .int ((x / 4) - (x / 4) / 4 * 4), .int 1]) (rest := [.long (((ptI (x / 16) 1 (P i) (Q i)).toInt64) * (((ar P Q j).toInt64) * ((ar P Q k).toInt64)))]) (kX3_part l X mo mp ms mt mq sts al wd wS wo fw M n P Q o f ll j ((x / 4) - (x / 4) / 4 * 4) 1 (by first | assumption | omega | decide) (by first | assumption | omega | decide) (by first | assumption | omega | decide)) (cwV 3 C.ts gX3_tripleSquare_X3_part rfl rfl rfl (by decide +kernel) ⟨Nat.le_of_ble_eq_true rfl, Nat.le_of_ble_eq_true rfl⟩) (q0 := 0) rfl rfl [0, 1] (by decide) rfl rfl (Nat.le_of_ble_eq_true rfl) rfl dX3_tripleSquare_118 ⟨Nat.zero_le _, Nat.zero_le _⟩) [0, 1] [] [0, 1] rfl rfl (by decide) (by decide) (by decide) rfl ?_
  refine s_i2l C (pc := 121) dX3_tripleSquare_121 ?_
  refine s_lload C (pc := 122) dX3_tripleSquare_122 2 rfl ?_
  refine s_lmul C (pc := 124) dX3_tripleSquare_124 ?_
  refine s_ladd C (pc := 125) dX3_tripleSquare_125 ?_
  refine s_aload_n C (pc := 126) dX3_tripleSquare_126 rfl 4 rfl ?_
  refine s_iload_n C (pc := 127) dX3_tripleSquare_127 rfl 7 rfl ?_
  refine s_iload C (pc := 128) dX3_tripleSquare_128 8 rfl ?_
  refine s_iconst C (pc := 130) (v := 4) dX3_tripleSquare_130 (by decide) ?_
  refine s_irem C (pc := 131) dX3_tripleSquare_131 (by decide) ?_
  refine s_iconst C (pc := 132) (v := 1) dX3_tripleSquare_132 (by decide) ?_
  refine s_calli C (pc := 133) (wr := []) (wc' := [(mo, .inr (3, [.ref mp, .ref ms, .ref mt, .int sts, .int al, .ref mq, .long wd, .int wS, .int wo, .int fw])), (mp, .inl (X.2.1, 12, .inl (M)))]) (wn := [(mo, .inr (3, [.ref mp, .ref ms, .ref mt, .int sts, .int al, .ref mq, .long wd, .int wS, .int wo, .int fw])), (mp, .inl (X.2.1, 12, .inl (M)))]) (r_V C (As := [.int (nI k), .int (x - x / 4 * 4), .int 1]) (rest := [.long ((((ptI (x / 16) 1 (P i) (Q i)).toInt64) * (((ar P Q j).toInt64) * ((ar P Q k).toInt64))) + (((ptI ((x / 4) - (x / 4) / 4 * 4) 1 (P j) (Q j)).toInt64) * (((ar P Q i).toInt64) * ((ar P Q k).toInt64))))]) (kX3_part l X mo mp ms mt mq sts al wd wS wo fw M n P Q o f ll k (x - x / 4 * 4) 1 (by first | assumption | omega | decide) (by first | assumption | omega | decide) (by first | assumption | omega | decide)) (cwV 3 C.ts gX3_tripleSquare_X3_part rfl rfl rfl (by decide +kernel) ⟨Nat.le_of_ble_eq_true rfl, Nat.le_of_ble_eq_true rfl⟩) (q0 := 0) rfl rfl [0, 1] (by decide) rfl rfl (Nat.le_of_ble_eq_true rfl) rfl dX3_tripleSquare_133 ⟨Nat.zero_le _, Nat.zero_le _⟩) [0, 1] [] [0, 1] rfl rfl (by decide) (by decide) (by decide) rfl ?_
  refine s_i2l C (pc := 136) dX3_tripleSquare_136 ?_
  refine s_lload C (pc := 137) dX3_tripleSquare_137 1 rfl ?_
  refine s_lmul C (pc := 139) dX3_tripleSquare_139 ?_
  refine s_ladd C (pc := 140) dX3_tripleSquare_140 ?_
  refine s_lstore C (pc := 141) (ls' := [(13, .long (((((ptI (x / 16) 1 (P i) (Q i)).toInt64) * (((ar P Q j).toInt64) * ((ar P Q k).toInt64))) + (((ptI ((x / 4) - (x / 4) / 4 * 4) 1 (P j) (Q j)).toInt64) * (((ar P Q i).toInt64) * ((ar P Q k).toInt64)))) + (((ptI (x - x / 4 * 4) 1 (P k) (Q k)).toInt64) * (((ar P Q i).toInt64) * ((ar P Q j).toInt64))))), (11, .long (((((ptI (x / 16) 0 (P i) (Q i)).toInt64) * (((ar P Q j).toInt64) * ((ar P Q k).toInt64))) + (((ptI ((x / 4) - (x / 4) / 4 * 4) 0 (P j) (Q j)).toInt64) * (((ar P Q i).toInt64) * ((ar P Q k).toInt64)))) + (((ptI (x - x / 4 * 4) 0 (P k) (Q k)).toInt64) * (((ar P Q i).toInt64) * ((ar P Q j).toInt64))))), (9, .long (((ar P Q i).toInt64) * ((ar P Q j).toInt64))), (7, .long (((ar P Q i).toInt64) * ((ar P Q k).toInt64))), (5, .long (((ar P Q j).toInt64) * ((ar P Q k).toInt64))), (0, .ref mo), (1, .int (nI i)), (2, .int (nI j)), (3, .int (nI k)), (4, .int x)]) dX3_tripleSquare_141 (by decide) rfl ?_
  refine s_lload C (pc := 143) dX3_tripleSquare_143 1 rfl ?_
  refine s_lload C (pc := 145) dX3_tripleSquare_145 1 rfl ?_
  refine s_lmul C (pc := 147) dX3_tripleSquare_147 ?_
  refine s_lload C (pc := 148) dX3_tripleSquare_148 0 rfl ?_
  refine s_lload C (pc := 150) dX3_tripleSquare_150 0 rfl ?_
  refine s_lmul C (pc := 152) dX3_tripleSquare_152 ?_
  refine s_ladd C (pc := 153) dX3_tripleSquare_153 ?_
  exact s_lret C (pc := 154) hr hlk [0, 1] (by decide) (rfl) (rfl) dX3_tripleSquare_154

set_option maxHeartbeats 4000000 in
set_option maxRecDepth 100000 in
theorem kX3_tripleBase (l : Launch) (X : XT) (mo mp ms mt mq : Nat) (sts al : Int32) (wd : Int64) (wS wo fw : Int32) (M : Nat → Int32) (n : Nat) (P Q : Nat → Int32) (o f ll : Int32) (i j k : Nat) (hM : MR M n P Q o f ll) (hi : i < n) (hj : j < n) (hk : k < n) (hn : n ≤ 4) : KL l yX3_tripleBase wsX3_tripleBase ({ frames := 2, cells := 0, slots := 0, locals := 42 }) X [.ref mo, .int (nI i), .int (nI j), .int (nI k)] [(mo, .inr (3, [.ref mp, .ref ms, .ref mt, .int sts, .int al, .ref mq, .long wd, .int wS, .int wo, .int fw])), (mp, .inl (X.2.1, 12, .inl (M)))] [(mo, .inr (3, [.ref mp, .ref ms, .ref mt, .int sts, .int al, .ref mq, .long wd, .int wS, .int wo, .int fw])), (mp, .inl (X.2.1, 12, .inl (M)))] (btL P Q i j k) := by
  refine k_ofL (cc := cX3_tripleBase) (own := RX3) (maxL := 6) (ret := (some .long)) (ls0 := [(0, .ref mo), (1, .int (nI i)), (2, .int (nI j)), (3, .int (nI k))]) (by decide) rfl rfl (Nat.le_of_ble_eq_true rfl) rfl ?_
  intro p e s m args below meth c A g C hr hlk
  refine s_aload_n C (pc := 0) dX3_tripleBase_0 rfl 0 rfl ?_
  refine s_iload_n C (pc := 1) dX3_tripleBase_1 rfl 1 rfl ?_
  refine s_calli C (pc := 2) (wr := []) (wc' := [(mo, .inr (3, [.ref mp, .ref ms, .ref mt, .int sts, .int al, .ref mq, .long wd, .int wS, .int wo, .int fw])), (mp, .inl (X.2.1, 12, .inl (M)))]) (wn := [(mo, .inr (3, [.ref mp, .ref ms, .ref mt, .int sts, .int al, .ref mq, .long wd, .int wS, .int wo, .int fw])), (mp, .inl (X.2.1, 12, .inl (M)))]) (r_V C (As := [.int (nI i)]) (rest := []) (kX3_areaOf l X mo mp ms mt mq sts al wd wS wo fw M n P Q o f ll i (by first | assumption | omega | decide) (by first | assumption | omega | decide) (by first | assumption | omega | decide)) (cwV 1 C.ts gX3_tripleBase_X3_areaOf rfl rfl rfl (by decide +kernel) ⟨Nat.le_of_ble_eq_true rfl, Nat.le_of_ble_eq_true rfl⟩) (q0 := 0) rfl rfl [0, 1] (by decide) rfl rfl (Nat.le_of_ble_eq_true rfl) rfl dX3_tripleBase_2 ⟨Nat.zero_le _, Nat.zero_le _⟩) [0, 1] [] [0, 1] rfl rfl (by decide) (by decide) (by decide) rfl ?_
  refine s_i2l C (pc := 5) dX3_tripleBase_5 ?_
  refine s_aload_n C (pc := 6) dX3_tripleBase_6 rfl 0 rfl ?_
  refine s_iload_n C (pc := 7) dX3_tripleBase_7 rfl 2 rfl ?_
  refine s_calli C (pc := 8) (wr := []) (wc' := [(mo, .inr (3, [.ref mp, .ref ms, .ref mt, .int sts, .int al, .ref mq, .long wd, .int wS, .int wo, .int fw])), (mp, .inl (X.2.1, 12, .inl (M)))]) (wn := [(mo, .inr (3, [.ref mp, .ref ms, .ref mt, .int sts, .int al, .ref mq, .long wd, .int wS, .int wo, .int fw])), (mp, .inl (X.2.1, 12, .inl (M)))]) (r_V C (As := [.int (nI j)]) (rest := [.long ((ar P Q i).toInt64)]) (kX3_areaOf l X mo mp ms mt mq sts al wd wS wo fw M n P Q o f ll j (by first | assumption | omega | decide) (by first | assumption | omega | decide) (by first | assumption | omega | decide)) (cwV 1 C.ts gX3_tripleBase_X3_areaOf rfl rfl rfl (by decide +kernel) ⟨Nat.le_of_ble_eq_true rfl, Nat.le_of_ble_eq_true rfl⟩) (q0 := 0) rfl rfl [0, 1] (by decide) rfl rfl (Nat.le_of_ble_eq_true rfl) rfl dX3_tripleBase_8 ⟨Nat.zero_le _, Nat.zero_le _⟩) [0, 1] [] [0, 1] rfl rfl (by decide) (by decide) (by decide) rfl ?_
  refine s_i2l C (pc := 11) dX3_tripleBase_11 ?_
  refine s_lmul C (pc := 12) dX3_tripleBase_12 ?_
  refine s_aload_n C (pc := 13) dX3_tripleBase_13 rfl 0 rfl ?_
  refine s_iload_n C (pc := 14) dX3_tripleBase_14 rfl 3 rfl ?_
  refine s_calli C (pc := 15) (wr := []) (wc' := [(mo, .inr (3, [.ref mp, .ref ms, .ref mt, .int sts, .int al, .ref mq, .long wd, .int wS, .int wo, .int fw])), (mp, .inl (X.2.1, 12, .inl (M)))]) (wn := [(mo, .inr (3, [.ref mp, .ref ms, .ref mt, .int sts, .int al, .ref mq, .long wd, .int wS, .int wo, .int fw])), (mp, .inl (X.2.1, 12, .inl (M)))]) (r_V C (As := [.int (nI k)]) (rest := [.long (((ar P Q i).toInt64) * ((ar P Q j).toInt64))]) (kX3_areaOf l X mo mp ms mt mq sts al wd wS wo fw M n P Q o f ll k (by first | assumption | omega | decide) (by first | assumption | omega | decide) (by first | assumption | omega | decide)) (cwV 1 C.ts gX3_tripleBase_X3_areaOf rfl rfl rfl (by decide +kernel) ⟨Nat.le_of_ble_eq_true rfl, Nat.le_of_ble_eq_true rfl⟩) (q0 := 0) rfl rfl [0, 1] (by decide) rfl rfl (Nat.le_of_ble_eq_true rfl) rfl dX3_tripleBase_15 ⟨Nat.zero_le _, Nat.zero_le _⟩) [0, 1] [] [0, 1] rfl rfl (by decide) (by decide) (by decide) rfl ?_
  refine s_i2l C (pc := 18) dX3_tripleBase_18 ?_
  refine s_lmul C (pc := 19) dX3_tripleBase_19 ?_
  refine s_lstore C (pc := 20) (ls' := [(4, .long ((((ar P Q i).toInt64) * ((ar P Q j).toInt64)) * ((ar P Q k).toInt64))), (0, .ref mo), (1, .int (nI i)), (2, .int (nI j)), (3, .int (nI k))]) dX3_tripleBase_20 (by decide) rfl ?_
  refine s_lload C (pc := 22) dX3_tripleBase_22 0 rfl ?_
  refine s_lload C (pc := 24) dX3_tripleBase_24 0 rfl ?_
  refine s_lmul C (pc := 26) dX3_tripleBase_26 ?_
  exact s_lret C (pc := 27) hr hlk [0, 1] (by decide) (rfl) (rfl) dX3_tripleBase_27

set_option maxHeartbeats 4000000 in
set_option maxRecDepth 100000 in
theorem kX3_kindOf (l : Launch) (X : XT) (mo mp ms mt mq : Nat) (sts al : Int32) (wd : Int64) (wS wo fw : Int32) (M : Nat → Int32) (n : Nat) (P Q : Nat → Int32) (o f ll : Int32) (x y : Int64) (hM : MR M n P Q o f ll) : KI l yX3_kindOf wsX3_kindOf ({ frames := 0, cells := 0, slots := 0, locals := 0 }) X [.ref mo, .long x, .long y] [(mo, .inr (3, [.ref mp, .ref ms, .ref mt, .int sts, .int al, .ref mq, .long wd, .int wS, .int wo, .int fw])), (mp, .inl (X.2.1, 12, .inl (M)))] [(mo, .inr (3, [.ref mp, .ref ms, .ref mt, .int sts, .int al, .ref mq, .long wd, .int wS, .int wo, .int fw])), (mp, .inl (X.2.1, 12, .inl (M)))] (kdM f ll x y) := by
  refine k_ofI (cc := cX3_kindOf) (own := RX3) (maxL := 9) (ret := (some .int)) (ls0 := [(0, .ref mo), (1, .long x), (3, .long y)]) (by decide) rfl rfl (Nat.le_of_ble_eq_true rfl) rfl ?_
  intro p e s m args below meth c A g C hr hlk
  refine s_lload_n C (pc := 0) dX3_kindOf_0 rfl 1 rfl ?_
  refine s_lconst C (pc := 1) (v := 0) dX3_kindOf_1 (by decide) ?_
  refine s_lcmp_ne C (pc := 2) (tgt := 8) dX3_kindOf_2 dX3_kindOf_3 (by decide) (fun c2 => ?_) (fun c2 => ?_)
  · skip
    refine s_aload_n C (pc := 8) dX3_kindOf_8 rfl 0 rfl ?_
    refine s_get C (pc := 9) (T := TX3) (N := 10) (fun _ h => (List.mem_cons_of_mem _ (List.mem_append_right _ h))) 0 rfl rfl 0 (by decide) (List.mem_of_getElem? (i := 1) rfl) rfl rfl dX3_kindOf_9 ?_
    refine s_iconst C (pc := 12) (v := 2) dX3_kindOf_12 (by decide) ?_
    refine s_iald C (pc := 13) 1 rfl 2 rfl (by decide) (by decide) dX3_kindOf_13 ?_
    refine s_top C (y := f) (hM.2.2.1) ?_
    refine s_i2l C (pc := 14) dX3_kindOf_14 ?_
    refine s_aload_n C (pc := 15) dX3_kindOf_15 rfl 0 rfl ?_
    refine s_get C (pc := 16) (T := TX3) (N := 10) (fun _ h => (List.mem_cons_of_mem _ (List.mem_append_right _ h))) 0 rfl rfl 0 (by decide) (List.mem_of_getElem? (i := 1) rfl) rfl rfl dX3_kindOf_16 ?_
    refine s_iconst C (pc := 19) (v := 2) dX3_kindOf_19 (by decide) ?_
    refine s_iald C (pc := 20) 1 rfl 2 rfl (by decide) (by decide) dX3_kindOf_20 ?_
    refine s_top C (y := f) (hM.2.2.1) ?_
    refine s_i2l C (pc := 21) dX3_kindOf_21 ?_
    refine s_lmul C (pc := 22) dX3_kindOf_22 ?_
    refine s_lstore C (pc := 23) (ls' := [(5, .long (f.toInt64 * f.toInt64)), (0, .ref mo), (1, .long x), (3, .long y)]) dX3_kindOf_23 (by decide) rfl ?_
    refine s_aload_n C (pc := 25) dX3_kindOf_25 rfl 1 rfl ?_
    refine s_get C (pc := 26) (T := TX3) (N := 10) (fun _ h => (List.mem_cons_of_mem _ (List.mem_append_right _ h))) 0 rfl rfl 0 (by decide) (List.mem_of_getElem? (i := 1) rfl) rfl rfl dX3_kindOf_26 ?_
    refine s_iconst C (pc := 29) (v := 3) dX3_kindOf_29 (by decide) ?_
    refine s_iald C (pc := 30) 1 rfl 3 rfl (by decide) (by decide) dX3_kindOf_30 ?_
    refine s_top C (y := ll) (hM.2.2.2.1) ?_
    refine s_i2l C (pc := 31) dX3_kindOf_31 ?_
    refine s_aload_n C (pc := 32) dX3_kindOf_32 rfl 1 rfl ?_
    refine s_get C (pc := 33) (T := TX3) (N := 10) (fun _ h => (List.mem_cons_of_mem _ (List.mem_append_right _ h))) 0 rfl rfl 0 (by decide) (List.mem_of_getElem? (i := 1) rfl) rfl rfl dX3_kindOf_33 ?_
    refine s_iconst C (pc := 36) (v := 3) dX3_kindOf_36 (by decide) ?_
    refine s_iald C (pc := 37) 1 rfl 3 rfl (by decide) (by decide) dX3_kindOf_37 ?_
    refine s_top C (y := ll) (hM.2.2.2.1) ?_
    refine s_i2l C (pc := 38) dX3_kindOf_38 ?_
    refine s_lmul C (pc := 39) dX3_kindOf_39 ?_
    refine s_lstore C (pc := 40) (ls' := [(7, .long (ll.toInt64 * ll.toInt64)), (5, .long (f.toInt64 * f.toInt64)), (0, .ref mo), (1, .long x), (3, .long y)]) dX3_kindOf_40 (by decide) rfl ?_
    refine s_lload C (pc := 42) dX3_kindOf_42 1 rfl ?_
    refine s_lload_n C (pc := 44) dX3_kindOf_44 rfl 4 rfl ?_
    refine s_lload_n C (pc := 45) dX3_kindOf_45 rfl 3 rfl ?_
    refine s_ldiv C (pc := 46) dX3_kindOf_46 c2 ?_
    refine s_lload_n C (pc := 47) dX3_kindOf_47 rfl 4 rfl ?_
    refine s_lload_n C (pc := 48) dX3_kindOf_48 rfl 3 rfl ?_
    refine s_lrem C (pc := 49) dX3_kindOf_49 c2 ?_
    refine s_lconst C (pc := 50) (v := 0) dX3_kindOf_50 (by decide) ?_
    refine s_lcmp_le C (pc := 51) (tgt := 59) dX3_kindOf_51 dX3_kindOf_52 (by decide) (fun c51 => ?_) (fun c51 => ?_)
    · skip
      refine s_lconst C (pc := 59) (v := 0) dX3_kindOf_59 (by decide) ?_
      refine s_ladd C (pc := 60) dX3_kindOf_60 ?_
      refine s_lcmp_lt C (pc := 61) (tgt := 67) dX3_kindOf_61 dX3_kindOf_62 (by decide) (fun c61 => ?_) (fun c61 => ?_)
      · skip
        refine s_lload C (pc := 67) dX3_kindOf_67 0 rfl ?_
        refine s_lload_n C (pc := 69) dX3_kindOf_69 rfl 4 rfl ?_
        refine s_lload_n C (pc := 70) dX3_kindOf_70 rfl 3 rfl ?_
        refine s_ldiv C (pc := 71) dX3_kindOf_71 c2 ?_
        refine s_lcmp_gt C (pc := 72) (tgt := 80) dX3_kindOf_72 dX3_kindOf_73 (by decide) (fun c72 => ?_) (fun c72 => ?_)
        · skip
          refine s_iconst C (pc := 80) (v := 3) dX3_kindOf_80 (by decide) ?_
          exact s_iret C (pc := 81) hr hlk [0, 1] (by decide) (rfl) ((by unfold kdM; rw [if_neg c2, if_neg (Int64.not_lt.mpr c51), if_pos c61, if_pos c72])) dX3_kindOf_81
        · skip
          refine s_iconst C (pc := 76) (v := 2) dX3_kindOf_76 (by decide) ?_
          refine s_goto C (pc := 77) (tgt := 81) dX3_kindOf_77 (by decide) ?_
          exact s_iret C (pc := 81) hr hlk [0, 1] (by decide) (rfl) ((by unfold kdM; rw [if_neg c2, if_neg (Int64.not_lt.mpr c51), if_pos c61, if_neg c72])) dX3_kindOf_81
      · skip
        refine s_iconst C (pc := 65) (v := 1) dX3_kindOf_65 (by decide) ?_
        exact s_iret C (pc := 66) hr hlk [0, 1] (by decide) (rfl) ((by unfold kdM; rw [if_neg c2, if_neg (Int64.not_lt.mpr c51), if_neg c61])) dX3_kindOf_66
    · skip
      refine s_lconst C (pc := 55) (v := 1) dX3_kindOf_55 (by decide) ?_
      refine s_goto C (pc := 56) (tgt := 60) dX3_kindOf_56 (by decide) ?_
      refine s_ladd C (pc := 60) dX3_kindOf_60 ?_
      refine s_lcmp_lt C (pc := 61) (tgt := 67) dX3_kindOf_61 dX3_kindOf_62 (by decide) (fun c61 => ?_) (fun c61 => ?_)
      · skip
        refine s_lload C (pc := 67) dX3_kindOf_67 0 rfl ?_
        refine s_lload_n C (pc := 69) dX3_kindOf_69 rfl 4 rfl ?_
        refine s_lload_n C (pc := 70) dX3_kindOf_70 rfl 3 rfl ?_
        refine s_ldiv C (pc := 71) dX3_kindOf_71 c2 ?_
        refine s_lcmp_gt C (pc := 72) (tgt := 80) dX3_kindOf_72 dX3_kindOf_73 (by decide) (fun c72 => ?_) (fun c72 => ?_)
        · skip
          refine s_iconst C (pc := 80) (v := 3) dX3_kindOf_80 (by decide) ?_
          exact s_iret C (pc := 81) hr hlk [0, 1] (by decide) (rfl) ((by unfold kdM; rw [if_neg c2, if_pos (Int64.not_le.mp c51), if_pos c61, if_pos c72])) dX3_kindOf_81
        · skip
          refine s_iconst C (pc := 76) (v := 2) dX3_kindOf_76 (by decide) ?_
          refine s_goto C (pc := 77) (tgt := 81) dX3_kindOf_77 (by decide) ?_
          exact s_iret C (pc := 81) hr hlk [0, 1] (by decide) (rfl) ((by unfold kdM; rw [if_neg c2, if_pos (Int64.not_le.mp c51), if_pos c61, if_neg c72])) dX3_kindOf_81
      · skip
        refine s_iconst C (pc := 65) (v := 1) dX3_kindOf_65 (by decide) ?_
        exact s_iret C (pc := 66) hr hlk [0, 1] (by decide) (rfl) ((by unfold kdM; rw [if_neg c2, if_pos (Int64.not_le.mp c51), if_neg c61])) dX3_kindOf_66
  · skip
    refine s_iconst C (pc := 6) (v := 0) dX3_kindOf_6 (by decide) ?_
    exact s_iret C (pc := 7) hr hlk [0, 1] (by decide) (rfl) ((by unfold kdM; rw [if_pos c2])) dX3_kindOf_7

set_option maxHeartbeats 4000000 in
set_option maxRecDepth 100000 in
theorem kX3_periodOf (l : Launch) (X : XT) (x y : Int64) (q : Nat) (hx : ¬ x = 0) (hq : y / x = lN q) (hq2 : q < 360000000000000000) : KI l yX3_periodOf wsX3_periodOf ({ frames := 0, cells := 0, slots := 0, locals := 0 }) X [.long x, .long y] [] [] (nI (isq q)) := by
  refine k_ofI (cc := cX3_periodOf) (own := RX3) (maxL := 13) (ret := (some .int)) (ls0 := [(0, .long x), (2, .long y)]) (by decide) rfl rfl (Nat.le_of_ble_eq_true rfl) rfl ?_
  intro p e s m args below meth c A g C hr hlk
  refine s_lload_n C (pc := 0) dX3_periodOf_0 rfl 1 rfl ?_
  refine s_lload_n C (pc := 1) dX3_periodOf_1 rfl 0 rfl ?_
  refine s_ldiv C (pc := 2) dX3_periodOf_2 hx ?_
  refine s_topl C (y := lN q) (hq) ?_
  refine s_lstore C (pc := 3) (ls' := [(4, .long (lN q)), (0, .long x), (2, .long y)]) dX3_periodOf_3 (by decide) rfl ?_
  refine s_lconst C (pc := 5) (v := 0) dX3_periodOf_5 (by decide) ?_
  refine s_lstore C (pc := 6) (ls' := [(6, .long 0), (4, .long (lN q)), (0, .long x), (2, .long y)]) dX3_periodOf_6 (by decide) rfl ?_
  refine s_ldc2 C (pc := 8) (v := 600000000) (List.mem_of_getElem? (i := 1) rfl) dX3_periodOf_8 ?_
  refine s_lstore C (pc := 11) (ls' := [(8, .long 600000000), (6, .long 0), (4, .long (lN q)), (0, .long x), (2, .long y)]) dX3_periodOf_11 (by decide) rfl ?_
  have L13 : ∀ (n_ : Nat) (lo hi0 : Nat), (lo ≤ hi0) → (hi0 ≤ 600000000) → (lo * lo ≤ q) → (q < (hi0 + 1) * (hi0 + 1)) → hi0 < lo + n_ → g [] 13 [(4, .long (lN q)), (6, .long (lN lo)), (8, .long (lN hi0))] [] := by
    intro n_
    induction n_ with
    | zero =>
      intro lo hi0 h1 h2 h3 h4 hf
      exact absurd hf (by omega)
    | succ n_ ih13 =>
      intro lo hi0 h1 h2 h3 h4 hf13
      refine s_lload C (pc := 13) dX3_periodOf_13 1 rfl ?_
      refine s_lload C (pc := 15) dX3_periodOf_15 2 rfl ?_
      refine s_lcmp_ge C (pc := 17) (tgt := 85) dX3_periodOf_17 dX3_periodOf_18 (by decide) (fun c17 => ?_) (fun c17 => ?_)
      · skip
        have e17 : hi0 ≤ lo := (pk_lLE (by omega) (by omega)).mp c17
        have e18 : hi0 = lo := by omega
        subst e18
        refine s_lload C (pc := 85) dX3_periodOf_85 1 rfl ?_
        refine s_l2i C (pc := 87) dX3_periodOf_87 ?_
        exact s_iret C (pc := 88) hr hlk [] (by decide) (rfl) ((lN_i _).trans (congrArg nI (isq_of h3 h4).symm)) dX3_periodOf_88
      · skip
        have e17 : lo < hi0 := Nat.lt_of_not_le (fun z => c17 ((pk_lLE (by omega) (by omega)).mpr z))
        obtain ⟨md, hmd⟩ : ∃ md, md = (lo + hi0 + 1) / 2 := ⟨_, rfl⟩
        have hm1 : lo < md ∧ md ≤ hi0 := by omega
        have hm2 : md * md ≤ 600000000 * 600000000 := Nat.mul_le_mul (by omega) (by omega)
        refine s_lload C (pc := 21) dX3_periodOf_21 1 rfl ?_
        refine s_lload C (pc := 23) dX3_periodOf_23 2 rfl ?_
        refine s_ladd C (pc := 25) dX3_periodOf_25 ?_
        refine s_topl C (y := lN (lo + hi0)) (lN_add lo hi0) ?_
        refine s_lconst C (pc := 26) (v := 1) dX3_periodOf_26 (by decide) ?_
        refine s_ladd C (pc := 27) dX3_periodOf_27 ?_
        refine s_topl C (y := lN (lo + hi0 + 1)) (lN_1 _) ?_
        refine s_ldc2 C (pc := 28) (v := 2) (List.mem_of_getElem? (i := 2) rfl) dX3_periodOf_28 ?_
        refine s_ldiv C (pc := 31) dX3_periodOf_31 (by decide) ?_
        refine s_topl C (y := lN md) ((pk_lDiv (a := lo + hi0 + 1) (b := 2) (by omega) (by omega) (by omega)).trans (by rw [hmd])) ?_
        refine s_lstore C (pc := 32) (ls' := [(10, .long (lN md)), (4, .long (lN q)), (6, .long (lN lo)), (8, .long (lN hi0))]) dX3_periodOf_32 (by decide) rfl ?_
        refine s_lload C (pc := 34) dX3_periodOf_34 0 rfl ?_
        refine s_lload C (pc := 36) dX3_periodOf_36 0 rfl ?_
        refine s_lmul C (pc := 38) dX3_periodOf_38 ?_
        refine s_topl C (y := lN (md * md)) (lN_mul _ _) ?_
        refine s_lload C (pc := 39) dX3_periodOf_39 1 rfl ?_
        refine s_lcmp_gt C (pc := 41) (tgt := 49) dX3_periodOf_41 dX3_periodOf_42 (by decide) (fun c41 => ?_) (fun c41 => ?_)
        · skip
          refine s_iconst C (pc := 49) (v := 0) dX3_periodOf_49 (by decide) ?_
          refine s_istore C (pc := 50) (ls' := [(12, .int 0), (10, .long (lN md)), (4, .long (lN q)), (6, .long (lN lo)), (8, .long (lN hi0))]) dX3_periodOf_50 (by decide) rfl ?_
          refine s_iload C (pc := 52) dX3_periodOf_52 0 rfl ?_
          refine s_if_eq C (pc := 54) (tgt := 62) dX3_periodOf_54 (by decide) (fun c54 => ?_) (fun h => absurd (by decide) h)
          refine s_lload C (pc := 62) dX3_periodOf_62 3 rfl ?_
          refine s_lstore C (pc := 64) (ls' := [(6, .long (lN lo)), (12, .int 0), (10, .long (lN md)), (4, .long (lN q)), (8, .long (lN hi0))]) dX3_periodOf_64 (by decide) rfl ?_
          refine s_iload C (pc := 66) dX3_periodOf_66 1 rfl ?_
          refine s_if_eq C (pc := 68) (tgt := 76) dX3_periodOf_68 (by decide) (fun c68 => ?_) (fun h => absurd (by decide) h)
          refine s_lload C (pc := 76) dX3_periodOf_76 2 rfl ?_
          refine s_lconst C (pc := 78) (v := 1) dX3_periodOf_78 (by decide) ?_
          refine s_lsub C (pc := 79) dX3_periodOf_79 ?_
          refine s_topl C (y := lN (md - 1)) (lN_sub (a := md) (b := 1) (by omega)) ?_
          refine s_lstore C (pc := 80) (ls' := [(8, .long (lN (md - 1))), (6, .long (lN lo)), (12, .int 0), (10, .long (lN md)), (4, .long (lN q))]) dX3_periodOf_80 (by decide) rfl ?_
          refine s_goto C (pc := 82) (tgt := 13) dX3_periodOf_82 (by decide) ?_
          refine s_loc C (ls' := [(4, .long (lN q)), (6, .long (lN lo)), (8, .long (lN (md - 1)))]) [4, 1, 0] rfl ?_
          exact ih13 lo (md - 1) (by omega) (by omega) h3 (by rw [show md - 1 + 1 = md by omega]; exact (pk_lLT (a := q) (b := md * md) (by omega) (by omega)).mp c41) (by omega)
        · skip
          refine s_iconst C (pc := 45) (v := 1) dX3_periodOf_45 (by decide) ?_
          refine s_goto C (pc := 46) (tgt := 50) dX3_periodOf_46 (by decide) ?_
          refine s_istore C (pc := 50) (ls' := [(12, .int 1), (10, .long (lN md)), (4, .long (lN q)), (6, .long (lN lo)), (8, .long (lN hi0))]) dX3_periodOf_50 (by decide) rfl ?_
          refine s_iload C (pc := 52) dX3_periodOf_52 0 rfl ?_
          refine s_if_eq C (pc := 54) (tgt := 62) dX3_periodOf_54 (by decide) (fun h => absurd h (by decide)) (fun c54 => ?_)
          refine s_lload C (pc := 57) dX3_periodOf_57 1 rfl ?_
          refine s_goto C (pc := 59) (tgt := 64) dX3_periodOf_59 (by decide) ?_
          refine s_lstore C (pc := 64) (ls' := [(6, .long (lN md)), (12, .int 1), (10, .long (lN md)), (4, .long (lN q)), (8, .long (lN hi0))]) dX3_periodOf_64 (by decide) rfl ?_
          refine s_iload C (pc := 66) dX3_periodOf_66 1 rfl ?_
          refine s_if_eq C (pc := 68) (tgt := 76) dX3_periodOf_68 (by decide) (fun h => absurd h (by decide)) (fun c68 => ?_)
          refine s_lload C (pc := 71) dX3_periodOf_71 4 rfl ?_
          refine s_goto C (pc := 73) (tgt := 80) dX3_periodOf_73 (by decide) ?_
          refine s_lstore C (pc := 80) (ls' := [(8, .long (lN hi0)), (6, .long (lN md)), (12, .int 1), (10, .long (lN md)), (4, .long (lN q))]) dX3_periodOf_80 (by decide) rfl ?_
          refine s_goto C (pc := 82) (tgt := 13) dX3_periodOf_82 (by decide) ?_
          refine s_loc C (ls' := [(4, .long (lN q)), (6, .long (lN md)), (8, .long (lN hi0))]) [4, 1, 0] rfl ?_
          exact ih13 md hi0 (by omega) h2 (by have h9 := (pk_lLE (a := md * md) (b := q) (by omega) (by omega)).mp (Int64.not_lt.mp c41); exact h9) h4 (by omega)
  refine s_loc C (ls' := [(4, .long (lN q)), (6, .long 0), (8, .long 600000000)]) [2, 1, 0] rfl ?_
  exact L13 600000001 0 600000000 (by omega) (Nat.le_refl _) (by omega) (by omega) (by omega)

set_option maxHeartbeats 4000000 in
set_option maxRecDepth 100000 in
theorem kX3_ofKind (l : Launch) (X : XT) (mo mp ms mt mq : Nat) (sts al : Int32) (wd : Int64) (wS wo fw : Int32) (M : Nat → Int32) (n : Nat) (P Q : Nat → Int32) (w : Nat) (f ll : Int32) (i j : Nat) (kd : Int32) (hM : MR M n P Q (nI w) f ll) (hi : i < n) (hj : j < n) (hn : n ≤ 4) (hw : w = 1 ∨ w = 2) : KI l yX3_ofKind wsX3_ofKind ({ frames := 3, cells := 0, slots := 0, locals := 76 }) X [.ref mo, .int (nI i), .int (nI j), .int kd] [(mo, .inr (3, [.ref mp, .ref ms, .ref mt, .int sts, .int al, .ref mq, .long wd, .int wS, .int wo, .int fw])), (mp, .inl (X.2.1, 12, .inl (M)))] [(mo, .inr (3, [.ref mp, .ref ms, .ref mt, .int sts, .int al, .ref mq, .long ((okF P Q w f ll i j kd (wd4 w)).2), .int wS, .int wo, .int fw])), (mp, .inl (X.2.1, 12, .inl (M)))] ((okF P Q w f ll i j kd (wd4 w)).1) := by
  have hwd := wd4_le hw
  refine k_ofI (cc := cX3_ofKind) (own := RX3) (maxL := 17) (ret := (some .int)) (ls0 := [(0, .ref mo), (1, .int (nI i)), (2, .int (nI j)), (3, .int kd)]) (by decide) rfl rfl (Nat.le_of_ble_eq_true rfl) rfl ?_
  intro p e s m args below meth c A g C hr hlk
  refine s_iconst C (pc := 0) (v := 0) dX3_ofKind_0 (by decide) ?_
  refine s_istore C (pc := 1) (ls' := [(4, .int 0), (0, .ref mo), (1, .int (nI i)), (2, .int (nI j)), (3, .int kd)]) dX3_ofKind_1 (by decide) rfl ?_
  refine s_aload_n C (pc := 3) dX3_ofKind_3 rfl 1 rfl ?_
  refine s_lconst C (pc := 4) (v := 0) dX3_ofKind_4 (by decide) ?_
  refine s_put C (pc := 5) (T := TX3) (N := 10) (ws' := [(mo, .inr (3, [.ref mp, .ref ms, .ref mt, .int sts, .int al, .ref mq, .long 0, .int wS, .int wo, .int fw])), (mp, .inl (X.2.1, 12, .inl (M)))]) (fun _ h => (List.mem_cons_of_mem _ (List.mem_append_right _ h))) 0 rfl rfl tyX3 tyX3_ok nmX3 6 (by decide) (List.mem_of_getElem? (i := 1) rfl) rfl rfl rfl rfl (Nat.le_of_ble_eq_true rfl) rfl dX3_ofKind_5 ?_
  refine s_aload_n C (pc := 8) dX3_ofKind_8 rfl 1 rfl ?_
  refine s_iload_n C (pc := 9) dX3_ofKind_9 rfl 2 rfl ?_
  refine s_iload_n C (pc := 10) dX3_ofKind_10 rfl 3 rfl ?_
  refine s_calll C (pc := 11) (wr := []) (wc' := [(mo, .inr (3, [.ref mp, .ref ms, .ref mt, .int sts, .int al, .ref mq, .long 0, .int wS, .int wo, .int fw])), (mp, .inl (X.2.1, 12, .inl (M)))]) (wn := [(mo, .inr (3, [.ref mp, .ref ms, .ref mt, .int sts, .int al, .ref mq, .long 0, .int wS, .int wo, .int fw])), (mp, .inl (X.2.1, 12, .inl (M)))]) (r_V C (As := [.int (nI i), .int (nI j)]) (rest := []) (kX3_pairBase l X mo mp ms mt mq sts al 0 wS wo fw M n P Q (nI w) f ll i j (by first | assumption | omega | decide) (by first | assumption | omega | decide) (by first | assumption | omega | decide) (by first | assumption | omega | decide)) (cwV 2 C.ts gX3_ofKind_X3_pairBase rfl rfl rfl (by decide +kernel) ⟨Nat.le_of_ble_eq_true rfl, Nat.le_of_ble_eq_true rfl⟩) (q0 := 0) rfl rfl [0, 1] (by decide) rfl rfl (Nat.le_of_ble_eq_true rfl) rfl dX3_ofKind_11 ⟨Nat.zero_le _, Nat.zero_le _⟩) [0, 1] [] [0, 1] rfl rfl (by decide) (by decide) (by decide) rfl ?_
  refine s_lstore C (pc := 14) (ls' := [(5, .long (bsL P Q i j)), (4, .int 0), (0, .ref mo), (1, .int (nI i)), (2, .int (nI j)), (3, .int kd)]) dX3_ofKind_14 (by decide) rfl ?_
  refine s_aload_n C (pc := 16) dX3_ofKind_16 rfl 2 rfl ?_
  refine s_get C (pc := 17) (T := TX3) (N := 10) (fun _ h => (List.mem_cons_of_mem _ (List.mem_append_right _ h))) 0 rfl rfl 0 (by decide) (List.mem_of_getElem? (i := 2) rfl) rfl rfl dX3_ofKind_17 ?_
  refine s_iconst C (pc := 20) (v := 1) dX3_ofKind_20 (by decide) ?_
  refine s_iald C (pc := 21) 1 rfl 1 rfl (by decide) (by decide) dX3_ofKind_21 ?_
  refine s_top C (y := nI w) (hM.2.1) ?_
  refine s_istore C (pc := 22) (ls' := [(7, .int (nI w)), (5, .long (bsL P Q i j)), (4, .int 0), (0, .ref mo), (1, .int (nI i)), (2, .int (nI j)), (3, .int kd)]) dX3_ofKind_22 (by decide) rfl ?_
  refine s_iconst C (pc := 24) (v := 2) dX3_ofKind_24 (by decide) ?_
  refine s_iload C (pc := 25) dX3_ofKind_25 0 rfl ?_
  refine s_imul C (pc := 27) dX3_ofKind_27 ?_
  refine s_iconst C (pc := 28) (v := 1) dX3_ofKind_28 (by decide) ?_
  refine s_iadd C (pc := 29) dX3_ofKind_29 ?_
  refine s_top C (y := wdI w) (rfl) ?_
  refine s_istore C (pc := 30) (ls' := [(8, .int (wdI w)), (7, .int (nI w)), (5, .long (bsL P Q i j)), (4, .int 0), (0, .ref mo), (1, .int (nI i)), (2, .int (nI j)), (3, .int kd)]) dX3_ofKind_30 (by decide) rfl ?_
  refine s_iconst C (pc := 32) (v := 0) dX3_ofKind_32 (by decide) ?_
  refine s_istore C (pc := 33) (ls' := [(9, .int 0), (8, .int (wdI w)), (7, .int (nI w)), (5, .long (bsL P Q i j)), (4, .int 0), (0, .ref mo), (1, .int (nI i)), (2, .int (nI j)), (3, .int kd)]) dX3_ofKind_33 (by decide) rfl ?_
  have L35 : ∀ (n_ : Nat) (x : Nat), (x ≤ wd4 w) → wd4 w + 1 ≤ x + n_ → g [(mo, .inr (3, [.ref mp, .ref ms, .ref mt, .int sts, .int al, .ref mq, .long ((okF P Q w f ll i j kd x).2), .int wS, .int wo, .int fw])), (mp, .inl (X.2.1, 12, .inl (M)))] 35 [(0, .ref mo), (1, .int (nI i)), (2, .int (nI j)), (3, .int kd), (4, .int ((okF P Q w f ll i j kd x).1)), (5, .long (bsL P Q i j)), (7, .int (nI w)), (8, .int (wdI w)), (9, .int (nI x))] [] := by
    intro n_
    induction n_ with
    | zero =>
      intro x hx hf
      exact absurd hf (by omega)
    | succ n_ ih35 =>
      intro x hx hf35
      refine s_iload C (pc := 35) dX3_ofKind_35 8 rfl ?_
      refine s_iload C (pc := 37) dX3_ofKind_37 7 rfl ?_
      refine s_iload C (pc := 39) dX3_ofKind_39 7 rfl ?_
      refine s_imul C (pc := 41) dX3_ofKind_41 ?_
      refine s_iload C (pc := 42) dX3_ofKind_42 7 rfl ?_
      refine s_imul C (pc := 44) dX3_ofKind_44 ?_
      refine s_iload C (pc := 45) dX3_ofKind_45 7 rfl ?_
      refine s_imul C (pc := 47) dX3_ofKind_47 ?_
      refine s_top C (y := nI (wd4 w)) (wd4_eq hw) ?_
      refine s_icmp_ge C (pc := 48) (tgt := 221) dX3_ofKind_48 (by decide) (fun c48 => ?_) (fun c48 => ?_)
      · skip
        have e48 := nat_le (a := (wd4 w)) (b := x) (by omega) (by omega) c48
        have hs0 : wd4 w = x := by omega
        subst hs0
        refine s_iload C (pc := 221) dX3_ofKind_221 4 rfl ?_
        exact s_iret C (pc := 223) hr hlk [0, 1] (by decide) (rfl) (rfl) dX3_ofKind_223
      · skip
        have e48 := nat_nle (a := (wd4 w)) (b := x) (by omega) (by omega) c48
        refine s_iload C (pc := 51) dX3_ofKind_51 8 rfl ?_
        refine s_iload C (pc := 53) dX3_ofKind_53 7 rfl ?_
        refine s_iload C (pc := 55) dX3_ofKind_55 7 rfl ?_
        refine s_imul C (pc := 57) dX3_ofKind_57 ?_
        refine s_iload C (pc := 58) dX3_ofKind_58 7 rfl ?_
        refine s_imul C (pc := 60) dX3_ofKind_60 ?_
        refine s_idiv C (pc := 61) dX3_ofKind_61 (wd_ne hw).2.2 ?_
        refine s_iload C (pc := 62) dX3_ofKind_62 6 rfl ?_
        refine s_isub C (pc := 64) dX3_ofKind_64 ?_
        refine s_top C (y := cdA w (nI x)) (rfl) ?_
        refine s_istore C (pc := 65) (ls' := [(10, .int (cdA w (nI x))), (0, .ref mo), (1, .int (nI i)), (2, .int (nI j)), (3, .int kd), (4, .int ((okF P Q w f ll i j kd x).1)), (5, .long (bsL P Q i j)), (7, .int (nI w)), (8, .int (wdI w)), (9, .int (nI x))]) dX3_ofKind_65 (by decide) rfl ?_
        refine s_iload C (pc := 67) dX3_ofKind_67 9 rfl ?_
        refine s_iload C (pc := 69) dX3_ofKind_69 8 rfl ?_
        refine s_iload C (pc := 71) dX3_ofKind_71 8 rfl ?_
        refine s_imul C (pc := 73) dX3_ofKind_73 ?_
        refine s_idiv C (pc := 74) dX3_ofKind_74 (wd_ne hw).2.1 ?_
        refine s_iload C (pc := 75) dX3_ofKind_75 8 rfl ?_
        refine s_irem C (pc := 77) dX3_ofKind_77 (wd_ne hw).1 ?_
        refine s_iload C (pc := 78) dX3_ofKind_78 7 rfl ?_
        refine s_isub C (pc := 80) dX3_ofKind_80 ?_
        refine s_top C (y := cdB w (nI x)) (rfl) ?_
        refine s_istore C (pc := 81) (ls' := [(11, .int (cdB w (nI x))), (10, .int (cdA w (nI x))), (0, .ref mo), (1, .int (nI i)), (2, .int (nI j)), (3, .int kd), (4, .int ((okF P Q w f ll i j kd x).1)), (5, .long (bsL P Q i j)), (7, .int (nI w)), (8, .int (wdI w)), (9, .int (nI x))]) dX3_ofKind_81 (by decide) rfl ?_
        refine s_iload C (pc := 83) dX3_ofKind_83 10 rfl ?_
        refine s_iload C (pc := 85) dX3_ofKind_85 9 rfl ?_
        refine s_idiv C (pc := 87) dX3_ofKind_87 (wd_ne hw).1 ?_
        refine s_iload C (pc := 88) dX3_ofKind_88 9 rfl ?_
        refine s_irem C (pc := 90) dX3_ofKind_90 (wd_ne hw).1 ?_
        refine s_iload C (pc := 91) dX3_ofKind_91 8 rfl ?_
        refine s_isub C (pc := 93) dX3_ofKind_93 ?_
        refine s_top C (y := cdC w (nI x)) (rfl) ?_
        refine s_istore C (pc := 94) (ls' := [(12, .int (cdC w (nI x))), (11, .int (cdB w (nI x))), (10, .int (cdA w (nI x))), (0, .ref mo), (1, .int (nI i)), (2, .int (nI j)), (3, .int kd), (4, .int ((okF P Q w f ll i j kd x).1)), (5, .long (bsL P Q i j)), (7, .int (nI w)), (8, .int (wdI w)), (9, .int (nI x))]) dX3_ofKind_94 (by decide) rfl ?_
        refine s_iload C (pc := 96) dX3_ofKind_96 11 rfl ?_
        refine s_iload C (pc := 98) dX3_ofKind_98 10 rfl ?_
        refine s_irem C (pc := 100) dX3_ofKind_100 (wd_ne hw).1 ?_
        refine s_iload C (pc := 101) dX3_ofKind_101 9 rfl ?_
        refine s_isub C (pc := 103) dX3_ofKind_103 ?_
        refine s_top C (y := cdD w (nI x)) (rfl) ?_
        refine s_istore C (pc := 104) (ls' := [(13, .int (cdD w (nI x))), (12, .int (cdC w (nI x))), (11, .int (cdB w (nI x))), (10, .int (cdA w (nI x))), (0, .ref mo), (1, .int (nI i)), (2, .int (nI j)), (3, .int kd), (4, .int ((okF P Q w f ll i j kd x).1)), (5, .long (bsL P Q i j)), (7, .int (nI w)), (8, .int (wdI w)), (9, .int (nI x))]) dX3_ofKind_104 (by decide) rfl ?_
        refine s_iload C (pc := 106) dX3_ofKind_106 3 rfl ?_
        refine s_if_ne C (pc := 108) (tgt := 116) dX3_ofKind_108 (by decide) (fun c108 => ?_) (fun c108 => ?_)
        · skip
          refine s_iload C (pc := 116) dX3_ofKind_116 1 rfl ?_
          refine s_if_ne C (pc := 118) (tgt := 126) dX3_ofKind_118 (by decide) (fun c118 => ?_) (fun c118 => ?_)
          · skip
            refine s_aload_n C (pc := 126) dX3_ofKind_126 rfl 4 rfl ?_
            refine s_iload_n C (pc := 127) dX3_ofKind_127 rfl 5 rfl ?_
            refine s_iload_n C (pc := 128) dX3_ofKind_128 rfl 6 rfl ?_
            refine s_iload C (pc := 129) dX3_ofKind_129 3 rfl ?_
            refine s_iload C (pc := 131) dX3_ofKind_131 2 rfl ?_
            refine s_iload C (pc := 133) dX3_ofKind_133 1 rfl ?_
            refine s_iload C (pc := 135) dX3_ofKind_135 0 rfl ?_
            refine s_calll C (pc := 137) (wr := []) (wc' := [(mo, .inr (3, [.ref mp, .ref ms, .ref mt, .int sts, .int al, .ref mq, .long ((okF P Q w f ll i j kd x).2), .int wS, .int wo, .int fw])), (mp, .inl (X.2.1, 12, .inl (M)))]) (wn := [(mo, .inr (3, [.ref mp, .ref ms, .ref mt, .int sts, .int al, .ref mq, .long ((okF P Q w f ll i j kd x).2), .int wS, .int wo, .int fw])), (mp, .inl (X.2.1, 12, .inl (M)))]) (r_V C (As := [.int (nI i), .int (nI j), .int (cdA w (nI x)), .int (cdB w (nI x)), .int (cdC w (nI x)), .int (cdD w (nI x))]) (rest := []) (kX3_pairSquare l X mo mp ms mt mq sts al ((okF P Q w f ll i j kd x).2) wS wo fw M n P Q (nI w) f ll i j (cdA w (nI x)) (cdB w (nI x)) (cdC w (nI x)) (cdD w (nI x)) (by first | assumption | omega | decide) (by first | assumption | omega | decide) (by first | assumption | omega | decide) (by first | assumption | omega | decide)) (cwV 6 C.ts gX3_ofKind_X3_pairSquare rfl rfl rfl (by decide +kernel) ⟨Nat.le_of_ble_eq_true rfl, Nat.le_of_ble_eq_true rfl⟩) (q0 := 0) rfl rfl [0, 1] (by decide) rfl rfl (Nat.le_of_ble_eq_true rfl) rfl dX3_ofKind_137 ⟨Nat.zero_le _, Nat.zero_le _⟩) [0, 1] [] [0, 1] rfl rfl (by decide) (by decide) (by decide) rfl ?_
            refine s_lstore C (pc := 140) (ls' := [(14, .long (psL P Q i j (cdA w (nI x)) (cdB w (nI x)) (cdC w (nI x)) (cdD w (nI x)))), (13, .int (cdD w (nI x))), (12, .int (cdC w (nI x))), (11, .int (cdB w (nI x))), (10, .int (cdA w (nI x))), (0, .ref mo), (1, .int (nI i)), (2, .int (nI j)), (3, .int kd), (4, .int ((okF P Q w f ll i j kd x).1)), (5, .long (bsL P Q i j)), (7, .int (nI w)), (8, .int (wdI w)), (9, .int (nI x))]) dX3_ofKind_140 (by decide) rfl ?_
            refine s_aload_n C (pc := 142) dX3_ofKind_142 rfl 5 rfl ?_
            refine s_lload C (pc := 143) dX3_ofKind_143 0 rfl ?_
            refine s_lload C (pc := 145) dX3_ofKind_145 10 rfl ?_
            refine s_calli C (pc := 147) (wr := []) (wc' := [(mo, .inr (3, [.ref mp, .ref ms, .ref mt, .int sts, .int al, .ref mq, .long ((okF P Q w f ll i j kd x).2), .int wS, .int wo, .int fw])), (mp, .inl (X.2.1, 12, .inl (M)))]) (wn := [(mo, .inr (3, [.ref mp, .ref ms, .ref mt, .int sts, .int al, .ref mq, .long ((okF P Q w f ll i j kd x).2), .int wS, .int wo, .int fw])), (mp, .inl (X.2.1, 12, .inl (M)))]) (r_V C (As := [.long (psL P Q i j (cdA w (nI x)) (cdB w (nI x)) (cdC w (nI x)) (cdD w (nI x))), .long (bsL P Q i j)]) (rest := []) (kX3_kindOf l X mo mp ms mt mq sts al ((okF P Q w f ll i j kd x).2) wS wo fw M n P Q (nI w) f ll (psL P Q i j (cdA w (nI x)) (cdB w (nI x)) (cdC w (nI x)) (cdD w (nI x))) (bsL P Q i j) (by first | assumption | omega | decide)) (cwV 2 C.ts gX3_ofKind_X3_kindOf rfl rfl rfl (by decide +kernel) ⟨Nat.le_of_ble_eq_true rfl, Nat.le_of_ble_eq_true rfl⟩) (q0 := 0) rfl rfl [0, 1] (by decide) rfl rfl (Nat.le_of_ble_eq_true rfl) rfl dX3_ofKind_147 ⟨Nat.zero_le _, Nat.zero_le _⟩) [0, 1] [] [0, 1] rfl rfl (by decide) (by decide) (by decide) rfl ?_
            refine s_iload_n C (pc := 150) dX3_ofKind_150 rfl 8 rfl ?_
            refine s_icmp_ne C (pc := 151) (tgt := 158) dX3_ofKind_151 (by decide) (fun c151 => ?_) (fun c151 => ?_)
            · skip
              refine s_iconst C (pc := 158) (v := 0) dX3_ofKind_158 (by decide) ?_
              refine s_istore C (pc := 159) (ls' := [(16, .int 0), (14, .long (psL P Q i j (cdA w (nI x)) (cdB w (nI x)) (cdC w (nI x)) (cdD w (nI x)))), (13, .int (cdD w (nI x))), (12, .int (cdC w (nI x))), (11, .int (cdB w (nI x))), (10, .int (cdA w (nI x))), (0, .ref mo), (1, .int (nI i)), (2, .int (nI j)), (3, .int kd), (4, .int ((okF P Q w f ll i j kd x).1)), (5, .long (bsL P Q i j)), (7, .int (nI w)), (8, .int (wdI w)), (9, .int (nI x))]) dX3_ofKind_159 (by decide) rfl ?_
              refine s_iload C (pc := 161) dX3_ofKind_161 10 rfl ?_
              refine s_iload C (pc := 163) dX3_ofKind_163 0 rfl ?_
              refine s_if_eq C (pc := 165) (tgt := 172) dX3_ofKind_165 (by decide) (fun c165 => ?_) (fun h => absurd (by decide) h)
              refine s_iconst C (pc := 172) (v := 0) dX3_ofKind_172 (by decide) ?_
              refine s_iadd C (pc := 173) dX3_ofKind_173 ?_
              refine s_top C (y := (okF P Q w f ll i j kd x).1) (Int32.add_zero _) ?_
              refine s_istore C (pc := 174) (ls' := [(4, .int ((okF P Q w f ll i j kd x).1)), (16, .int 0), (14, .long (psL P Q i j (cdA w (nI x)) (cdB w (nI x)) (cdC w (nI x)) (cdD w (nI x)))), (13, .int (cdD w (nI x))), (12, .int (cdC w (nI x))), (11, .int (cdB w (nI x))), (10, .int (cdA w (nI x))), (0, .ref mo), (1, .int (nI i)), (2, .int (nI j)), (3, .int kd), (5, .long (bsL P Q i j)), (7, .int (nI w)), (8, .int (wdI w)), (9, .int (nI x))]) dX3_ofKind_174 (by decide) rfl ?_
              refine s_aload_n C (pc := 176) dX3_ofKind_176 rfl 7 rfl ?_
              refine s_iload C (pc := 177) dX3_ofKind_177 1 rfl ?_
              refine s_if_eq C (pc := 179) (tgt := 208) dX3_ofKind_179 (by decide) (fun c179 => ?_) (fun h => absurd (by decide) h)
              refine s_aload_n C (pc := 208) dX3_ofKind_208 rfl 7 rfl ?_
              refine s_get C (pc := 209) (T := TX3) (N := 10) (fun _ h => (List.mem_cons_of_mem _ (List.mem_append_right _ h))) 0 rfl rfl 6 (by decide) (List.mem_of_getElem? (i := 1) rfl) rfl rfl dX3_ofKind_209 ?_
              refine s_put C (pc := 212) (T := TX3) (N := 10) (ws' := [(mo, .inr (3, [.ref mp, .ref ms, .ref mt, .int sts, .int al, .ref mq, .long ((okF P Q w f ll i j kd x).2), .int wS, .int wo, .int fw])), (mp, .inl (X.2.1, 12, .inl (M)))]) (fun _ h => (List.mem_cons_of_mem _ (List.mem_append_right _ h))) 0 rfl rfl tyX3 tyX3_ok nmX3 6 (by decide) (List.mem_of_getElem? (i := 1) rfl) rfl rfl rfl rfl (Nat.le_of_ble_eq_true rfl) rfl dX3_ofKind_212 ?_
              refine s_iinc C (pc := 215) (v := nI (x + 1)) (ls' := [(9, .int (nI (x + 1))), (4, .int ((okF P Q w f ll i j kd x).1)), (16, .int 0), (14, .long (psL P Q i j (cdA w (nI x)) (cdB w (nI x)) (cdC w (nI x)) (cdD w (nI x)))), (13, .int (cdD w (nI x))), (12, .int (cdC w (nI x))), (11, .int (cdB w (nI x))), (10, .int (cdA w (nI x))), (0, .ref mo), (1, .int (nI i)), (2, .int (nI j)), (3, .int kd), (5, .long (bsL P Q i j)), (7, .int (nI w)), (8, .int (wdI w))]) dX3_ofKind_215 14 rfl (nI_1 _) (by decide) rfl ?_
              refine s_goto C (pc := 218) (tgt := 35) dX3_ofKind_218 (by decide) ?_
              refine s_loc C (ls' := [(0, .ref mo), (1, .int (nI i)), (2, .int (nI j)), (3, .int kd), (4, .int ((okF P Q w f ll i j kd x).1)), (5, .long (bsL P Q i j)), (7, .int (nI w)), (8, .int (wdI w)), (9, .int (nI (x + 1)))]) [8, 9, 10, 11, 1, 12, 13, 14, 0] rfl ?_
              have hb := ih35 (x + 1) (by omega) (by omega)
              rw [show okF P Q w f ll i j kd (x + 1) = okF P Q w f ll i j kd x from (if_pos (Or.inl c108)).trans ((if_pos (Or.inl c118)).trans (if_neg c151))] at hb
              exact hb
            · skip
              refine s_iconst C (pc := 154) (v := 1) dX3_ofKind_154 (by decide) ?_
              refine s_goto C (pc := 155) (tgt := 159) dX3_ofKind_155 (by decide) ?_
              refine s_istore C (pc := 159) (ls' := [(16, .int 1), (14, .long (psL P Q i j (cdA w (nI x)) (cdB w (nI x)) (cdC w (nI x)) (cdD w (nI x)))), (13, .int (cdD w (nI x))), (12, .int (cdC w (nI x))), (11, .int (cdB w (nI x))), (10, .int (cdA w (nI x))), (0, .ref mo), (1, .int (nI i)), (2, .int (nI j)), (3, .int kd), (4, .int ((okF P Q w f ll i j kd x).1)), (5, .long (bsL P Q i j)), (7, .int (nI w)), (8, .int (wdI w)), (9, .int (nI x))]) dX3_ofKind_159 (by decide) rfl ?_
              refine s_iload C (pc := 161) dX3_ofKind_161 10 rfl ?_
              refine s_iload C (pc := 163) dX3_ofKind_163 0 rfl ?_
              refine s_if_eq C (pc := 165) (tgt := 172) dX3_ofKind_165 (by decide) (fun h => absurd h (by decide)) (fun c165 => ?_)
              refine s_iconst C (pc := 168) (v := 1) dX3_ofKind_168 (by decide) ?_
              refine s_goto C (pc := 169) (tgt := 173) dX3_ofKind_169 (by decide) ?_
              refine s_iadd C (pc := 173) dX3_ofKind_173 ?_
              refine s_istore C (pc := 174) (ls' := [(4, .int (((okF P Q w f ll i j kd x).1) + 1)), (16, .int 1), (14, .long (psL P Q i j (cdA w (nI x)) (cdB w (nI x)) (cdC w (nI x)) (cdD w (nI x)))), (13, .int (cdD w (nI x))), (12, .int (cdC w (nI x))), (11, .int (cdB w (nI x))), (10, .int (cdA w (nI x))), (0, .ref mo), (1, .int (nI i)), (2, .int (nI j)), (3, .int kd), (5, .long (bsL P Q i j)), (7, .int (nI w)), (8, .int (wdI w)), (9, .int (nI x))]) dX3_ofKind_174 (by decide) rfl ?_
              refine s_aload_n C (pc := 176) dX3_ofKind_176 rfl 7 rfl ?_
              refine s_iload C (pc := 177) dX3_ofKind_177 1 rfl ?_
              refine s_if_eq C (pc := 179) (tgt := 208) dX3_ofKind_179 (by decide) (fun h => absurd h (by decide)) (fun c179 => ?_)
              refine s_iload_n C (pc := 182) dX3_ofKind_182 rfl 10 rfl ?_
              refine s_iconst C (pc := 183) (v := 3) dX3_ofKind_183 (by decide) ?_
              refine s_icmp_ne C (pc := 184) (tgt := 208) dX3_ofKind_184 (by decide) (fun c184 => ?_) (fun c184 => ?_)
              · skip
                refine s_aload_n C (pc := 208) dX3_ofKind_208 rfl 7 rfl ?_
                refine s_get C (pc := 209) (T := TX3) (N := 10) (fun _ h => (List.mem_cons_of_mem _ (List.mem_append_right _ h))) 0 rfl rfl 6 (by decide) (List.mem_of_getElem? (i := 1) rfl) rfl rfl dX3_ofKind_209 ?_
                refine s_put C (pc := 212) (T := TX3) (N := 10) (ws' := [(mo, .inr (3, [.ref mp, .ref ms, .ref mt, .int sts, .int al, .ref mq, .long ((okF P Q w f ll i j kd x).2), .int wS, .int wo, .int fw])), (mp, .inl (X.2.1, 12, .inl (M)))]) (fun _ h => (List.mem_cons_of_mem _ (List.mem_append_right _ h))) 0 rfl rfl tyX3 tyX3_ok nmX3 6 (by decide) (List.mem_of_getElem? (i := 1) rfl) rfl rfl rfl rfl (Nat.le_of_ble_eq_true rfl) rfl dX3_ofKind_212 ?_
                refine s_iinc C (pc := 215) (v := nI (x + 1)) (ls' := [(9, .int (nI (x + 1))), (4, .int (((okF P Q w f ll i j kd x).1) + 1)), (16, .int 1), (14, .long (psL P Q i j (cdA w (nI x)) (cdB w (nI x)) (cdC w (nI x)) (cdD w (nI x)))), (13, .int (cdD w (nI x))), (12, .int (cdC w (nI x))), (11, .int (cdB w (nI x))), (10, .int (cdA w (nI x))), (0, .ref mo), (1, .int (nI i)), (2, .int (nI j)), (3, .int kd), (5, .long (bsL P Q i j)), (7, .int (nI w)), (8, .int (wdI w))]) dX3_ofKind_215 14 rfl (nI_1 _) (by decide) rfl ?_
                refine s_goto C (pc := 218) (tgt := 35) dX3_ofKind_218 (by decide) ?_
                refine s_loc C (ls' := [(0, .ref mo), (1, .int (nI i)), (2, .int (nI j)), (3, .int kd), (4, .int (((okF P Q w f ll i j kd x).1) + 1)), (5, .long (bsL P Q i j)), (7, .int (nI w)), (8, .int (wdI w)), (9, .int (nI (x + 1)))]) [8, 9, 10, 11, 1, 12, 13, 14, 0] rfl ?_
                have hb := ih35 (x + 1) (by omega) (by omega)
                rw [show okF P Q w f ll i j kd (x + 1) = ((okF P Q w f ll i j kd x).1 + 1, (okF P Q w f ll i j kd x).2) from (if_pos (Or.inl c108)).trans ((if_pos (Or.inl c118)).trans ((if_pos c151).trans (by rw [if_neg c184])))] at hb
                exact hb
              · skip
                refine s_lload C (pc := 187) dX3_ofKind_187 11 rfl ?_
                refine s_lload C (pc := 189) dX3_ofKind_189 2 rfl ?_
                refine s_ldiv C (pc := 191) dX3_ofKind_191 (kdM_ne (v := kd) (by rw [c184]; decide) c151) ?_
                refine s_aload_n C (pc := 192) dX3_ofKind_192 rfl 7 rfl ?_
                refine s_get C (pc := 193) (T := TX3) (N := 10) (fun _ h => (List.mem_cons_of_mem _ (List.mem_append_right _ h))) 0 rfl rfl 6 (by decide) (List.mem_of_getElem? (i := 1) rfl) rfl rfl dX3_ofKind_193 ?_
                refine s_lcmp_le C (pc := 196) (tgt := 208) dX3_ofKind_196 dX3_ofKind_197 (by decide) (fun c196 => ?_) (fun c196 => ?_)
                · skip
                  refine s_aload_n C (pc := 208) dX3_ofKind_208 rfl 7 rfl ?_
                  refine s_get C (pc := 209) (T := TX3) (N := 10) (fun _ h => (List.mem_cons_of_mem _ (List.mem_append_right _ h))) 0 rfl rfl 6 (by decide) (List.mem_of_getElem? (i := 1) rfl) rfl rfl dX3_ofKind_209 ?_
                  refine s_put C (pc := 212) (T := TX3) (N := 10) (ws' := [(mo, .inr (3, [.ref mp, .ref ms, .ref mt, .int sts, .int al, .ref mq, .long ((okF P Q w f ll i j kd x).2), .int wS, .int wo, .int fw])), (mp, .inl (X.2.1, 12, .inl (M)))]) (fun _ h => (List.mem_cons_of_mem _ (List.mem_append_right _ h))) 0 rfl rfl tyX3 tyX3_ok nmX3 6 (by decide) (List.mem_of_getElem? (i := 1) rfl) rfl rfl rfl rfl (Nat.le_of_ble_eq_true rfl) rfl dX3_ofKind_212 ?_
                  refine s_iinc C (pc := 215) (v := nI (x + 1)) (ls' := [(9, .int (nI (x + 1))), (4, .int (((okF P Q w f ll i j kd x).1) + 1)), (16, .int 1), (14, .long (psL P Q i j (cdA w (nI x)) (cdB w (nI x)) (cdC w (nI x)) (cdD w (nI x)))), (13, .int (cdD w (nI x))), (12, .int (cdC w (nI x))), (11, .int (cdB w (nI x))), (10, .int (cdA w (nI x))), (0, .ref mo), (1, .int (nI i)), (2, .int (nI j)), (3, .int kd), (5, .long (bsL P Q i j)), (7, .int (nI w)), (8, .int (wdI w))]) dX3_ofKind_215 14 rfl (nI_1 _) (by decide) rfl ?_
                  refine s_goto C (pc := 218) (tgt := 35) dX3_ofKind_218 (by decide) ?_
                  refine s_loc C (ls' := [(0, .ref mo), (1, .int (nI i)), (2, .int (nI j)), (3, .int kd), (4, .int (((okF P Q w f ll i j kd x).1) + 1)), (5, .long (bsL P Q i j)), (7, .int (nI w)), (8, .int (wdI w)), (9, .int (nI (x + 1)))]) [8, 9, 10, 11, 1, 12, 13, 14, 0] rfl ?_
                  have hb := ih35 (x + 1) (by omega) (by omega)
                  rw [show okF P Q w f ll i j kd (x + 1) = ((okF P Q w f ll i j kd x).1 + 1, (okF P Q w f ll i j kd x).2) from (if_pos (Or.inl c108)).trans ((if_pos (Or.inl c118)).trans ((if_pos c151).trans (by rw [if_pos c184, if_pos c196])))] at hb
                  exact hb
                · skip
                  refine s_lload C (pc := 200) dX3_ofKind_200 11 rfl ?_
                  refine s_lload C (pc := 202) dX3_ofKind_202 2 rfl ?_
                  refine s_ldiv C (pc := 204) dX3_ofKind_204 (kdM_ne (v := kd) (by rw [c184]; decide) c151) ?_
                  refine s_goto C (pc := 205) (tgt := 212) dX3_ofKind_205 (by decide) ?_
                  refine s_put C (pc := 212) (T := TX3) (N := 10) (ws' := [(mo, .inr (3, [.ref mp, .ref ms, .ref mt, .int sts, .int al, .ref mq, .long ((bsL P Q i j) / (psL P Q i j (cdA w (nI x)) (cdB w (nI x)) (cdC w (nI x)) (cdD w (nI x)))), .int wS, .int wo, .int fw])), (mp, .inl (X.2.1, 12, .inl (M)))]) (fun _ h => (List.mem_cons_of_mem _ (List.mem_append_right _ h))) 0 rfl rfl tyX3 tyX3_ok nmX3 6 (by decide) (List.mem_of_getElem? (i := 1) rfl) rfl rfl rfl rfl (Nat.le_of_ble_eq_true rfl) rfl dX3_ofKind_212 ?_
                  refine s_iinc C (pc := 215) (v := nI (x + 1)) (ls' := [(9, .int (nI (x + 1))), (4, .int (((okF P Q w f ll i j kd x).1) + 1)), (16, .int 1), (14, .long (psL P Q i j (cdA w (nI x)) (cdB w (nI x)) (cdC w (nI x)) (cdD w (nI x)))), (13, .int (cdD w (nI x))), (12, .int (cdC w (nI x))), (11, .int (cdB w (nI x))), (10, .int (cdA w (nI x))), (0, .ref mo), (1, .int (nI i)), (2, .int (nI j)), (3, .int kd), (5, .long (bsL P Q i j)), (7, .int (nI w)), (8, .int (wdI w))]) dX3_ofKind_215 14 rfl (nI_1 _) (by decide) rfl ?_
                  refine s_goto C (pc := 218) (tgt := 35) dX3_ofKind_218 (by decide) ?_
                  refine s_loc C (ls' := [(0, .ref mo), (1, .int (nI i)), (2, .int (nI j)), (3, .int kd), (4, .int (((okF P Q w f ll i j kd x).1) + 1)), (5, .long (bsL P Q i j)), (7, .int (nI w)), (8, .int (wdI w)), (9, .int (nI (x + 1)))]) [8, 9, 10, 11, 1, 12, 13, 14, 0] rfl ?_
                  have hb := ih35 (x + 1) (by omega) (by omega)
                  rw [show okF P Q w f ll i j kd (x + 1) = ((okF P Q w f ll i j kd x).1 + 1, bsL P Q i j / psL P Q i j (cdA w (nI x)) (cdB w (nI x)) (cdC w (nI x)) (cdD w (nI x))) from (if_pos (Or.inl c108)).trans ((if_pos (Or.inl c118)).trans ((if_pos c151).trans (by rw [if_pos c184, if_neg c196])))] at hb
                  exact hb
          · skip
            refine s_iload C (pc := 121) dX3_ofKind_121 0 rfl ?_
            refine s_if_eq C (pc := 123) (tgt := 215) dX3_ofKind_123 (by decide) (fun c123 => ?_) (fun c123 => ?_)
            · skip
              refine s_iinc C (pc := 215) (v := nI (x + 1)) (ls' := [(9, .int (nI (x + 1))), (13, .int (cdD w (nI x))), (12, .int (cdC w (nI x))), (11, .int (cdB w (nI x))), (10, .int (cdA w (nI x))), (0, .ref mo), (1, .int (nI i)), (2, .int (nI j)), (3, .int kd), (4, .int ((okF P Q w f ll i j kd x).1)), (5, .long (bsL P Q i j)), (7, .int (nI w)), (8, .int (wdI w))]) dX3_ofKind_215 12 rfl (nI_1 _) (by decide) rfl ?_
              refine s_goto C (pc := 218) (tgt := 35) dX3_ofKind_218 (by decide) ?_
              refine s_loc C (ls' := [(0, .ref mo), (1, .int (nI i)), (2, .int (nI j)), (3, .int kd), (4, .int ((okF P Q w f ll i j kd x).1)), (5, .long (bsL P Q i j)), (7, .int (nI w)), (8, .int (wdI w)), (9, .int (nI (x + 1)))]) [5, 6, 7, 8, 9, 10, 11, 12, 0] rfl ?_
              have hb := ih35 (x + 1) (by omega) (by omega)
              rw [show okF P Q w f ll i j kd (x + 1) = okF P Q w f ll i j kd x from (if_pos (Or.inl c108)).trans (if_neg (fun hh => hh.elim (fun z => z c118) (fun z => z c123)))] at hb
              exact hb
            · skip
              refine s_aload_n C (pc := 126) dX3_ofKind_126 rfl 4 rfl ?_
              refine s_iload_n C (pc := 127) dX3_ofKind_127 rfl 5 rfl ?_
              refine s_iload_n C (pc := 128) dX3_ofKind_128 rfl 6 rfl ?_
              refine s_iload C (pc := 129) dX3_ofKind_129 3 rfl ?_
              refine s_iload C (pc := 131) dX3_ofKind_131 2 rfl ?_
              refine s_iload C (pc := 133) dX3_ofKind_133 1 rfl ?_
              refine s_iload C (pc := 135) dX3_ofKind_135 0 rfl ?_
              refine s_calll C (pc := 137) (wr := []) (wc' := [(mo, .inr (3, [.ref mp, .ref ms, .ref mt, .int sts, .int al, .ref mq, .long ((okF P Q w f ll i j kd x).2), .int wS, .int wo, .int fw])), (mp, .inl (X.2.1, 12, .inl (M)))]) (wn := [(mo, .inr (3, [.ref mp, .ref ms, .ref mt, .int sts, .int al, .ref mq, .long ((okF P Q w f ll i j kd x).2), .int wS, .int wo, .int fw])), (mp, .inl (X.2.1, 12, .inl (M)))]) (r_V C (As := [.int (nI i), .int (nI j), .int (cdA w (nI x)), .int (cdB w (nI x)), .int (cdC w (nI x)), .int (cdD w (nI x))]) (rest := []) (kX3_pairSquare l X mo mp ms mt mq sts al ((okF P Q w f ll i j kd x).2) wS wo fw M n P Q (nI w) f ll i j (cdA w (nI x)) (cdB w (nI x)) (cdC w (nI x)) (cdD w (nI x)) (by first | assumption | omega | decide) (by first | assumption | omega | decide) (by first | assumption | omega | decide) (by first | assumption | omega | decide)) (cwV 6 C.ts gX3_ofKind_X3_pairSquare rfl rfl rfl (by decide +kernel) ⟨Nat.le_of_ble_eq_true rfl, Nat.le_of_ble_eq_true rfl⟩) (q0 := 0) rfl rfl [0, 1] (by decide) rfl rfl (Nat.le_of_ble_eq_true rfl) rfl dX3_ofKind_137 ⟨Nat.zero_le _, Nat.zero_le _⟩) [0, 1] [] [0, 1] rfl rfl (by decide) (by decide) (by decide) rfl ?_
              refine s_lstore C (pc := 140) (ls' := [(14, .long (psL P Q i j (cdA w (nI x)) (cdB w (nI x)) (cdC w (nI x)) (cdD w (nI x)))), (13, .int (cdD w (nI x))), (12, .int (cdC w (nI x))), (11, .int (cdB w (nI x))), (10, .int (cdA w (nI x))), (0, .ref mo), (1, .int (nI i)), (2, .int (nI j)), (3, .int kd), (4, .int ((okF P Q w f ll i j kd x).1)), (5, .long (bsL P Q i j)), (7, .int (nI w)), (8, .int (wdI w)), (9, .int (nI x))]) dX3_ofKind_140 (by decide) rfl ?_
              refine s_aload_n C (pc := 142) dX3_ofKind_142 rfl 5 rfl ?_
              refine s_lload C (pc := 143) dX3_ofKind_143 0 rfl ?_
              refine s_lload C (pc := 145) dX3_ofKind_145 10 rfl ?_
              refine s_calli C (pc := 147) (wr := []) (wc' := [(mo, .inr (3, [.ref mp, .ref ms, .ref mt, .int sts, .int al, .ref mq, .long ((okF P Q w f ll i j kd x).2), .int wS, .int wo, .int fw])), (mp, .inl (X.2.1, 12, .inl (M)))]) (wn := [(mo, .inr (3, [.ref mp, .ref ms, .ref mt, .int sts, .int al, .ref mq, .long ((okF P Q w f ll i j kd x).2), .int wS, .int wo, .int fw])), (mp, .inl (X.2.1, 12, .inl (M)))]) (r_V C (As := [.long (psL P Q i j (cdA w (nI x)) (cdB w (nI x)) (cdC w (nI x)) (cdD w (nI x))), .long (bsL P Q i j)]) (rest := []) (kX3_kindOf l X mo mp ms mt mq sts al ((okF P Q w f ll i j kd x).2) wS wo fw M n P Q (nI w) f ll (psL P Q i j (cdA w (nI x)) (cdB w (nI x)) (cdC w (nI x)) (cdD w (nI x))) (bsL P Q i j) (by first | assumption | omega | decide)) (cwV 2 C.ts gX3_ofKind_X3_kindOf rfl rfl rfl (by decide +kernel) ⟨Nat.le_of_ble_eq_true rfl, Nat.le_of_ble_eq_true rfl⟩) (q0 := 0) rfl rfl [0, 1] (by decide) rfl rfl (Nat.le_of_ble_eq_true rfl) rfl dX3_ofKind_147 ⟨Nat.zero_le _, Nat.zero_le _⟩) [0, 1] [] [0, 1] rfl rfl (by decide) (by decide) (by decide) rfl ?_
              refine s_iload_n C (pc := 150) dX3_ofKind_150 rfl 8 rfl ?_
              refine s_icmp_ne C (pc := 151) (tgt := 158) dX3_ofKind_151 (by decide) (fun c151 => ?_) (fun c151 => ?_)
              · skip
                refine s_iconst C (pc := 158) (v := 0) dX3_ofKind_158 (by decide) ?_
                refine s_istore C (pc := 159) (ls' := [(16, .int 0), (14, .long (psL P Q i j (cdA w (nI x)) (cdB w (nI x)) (cdC w (nI x)) (cdD w (nI x)))), (13, .int (cdD w (nI x))), (12, .int (cdC w (nI x))), (11, .int (cdB w (nI x))), (10, .int (cdA w (nI x))), (0, .ref mo), (1, .int (nI i)), (2, .int (nI j)), (3, .int kd), (4, .int ((okF P Q w f ll i j kd x).1)), (5, .long (bsL P Q i j)), (7, .int (nI w)), (8, .int (wdI w)), (9, .int (nI x))]) dX3_ofKind_159 (by decide) rfl ?_
                refine s_iload C (pc := 161) dX3_ofKind_161 10 rfl ?_
                refine s_iload C (pc := 163) dX3_ofKind_163 0 rfl ?_
                refine s_if_eq C (pc := 165) (tgt := 172) dX3_ofKind_165 (by decide) (fun c165 => ?_) (fun h => absurd (by decide) h)
                refine s_iconst C (pc := 172) (v := 0) dX3_ofKind_172 (by decide) ?_
                refine s_iadd C (pc := 173) dX3_ofKind_173 ?_
                refine s_top C (y := (okF P Q w f ll i j kd x).1) (Int32.add_zero _) ?_
                refine s_istore C (pc := 174) (ls' := [(4, .int ((okF P Q w f ll i j kd x).1)), (16, .int 0), (14, .long (psL P Q i j (cdA w (nI x)) (cdB w (nI x)) (cdC w (nI x)) (cdD w (nI x)))), (13, .int (cdD w (nI x))), (12, .int (cdC w (nI x))), (11, .int (cdB w (nI x))), (10, .int (cdA w (nI x))), (0, .ref mo), (1, .int (nI i)), (2, .int (nI j)), (3, .int kd), (5, .long (bsL P Q i j)), (7, .int (nI w)), (8, .int (wdI w)), (9, .int (nI x))]) dX3_ofKind_174 (by decide) rfl ?_
                refine s_aload_n C (pc := 176) dX3_ofKind_176 rfl 7 rfl ?_
                refine s_iload C (pc := 177) dX3_ofKind_177 1 rfl ?_
                refine s_if_eq C (pc := 179) (tgt := 208) dX3_ofKind_179 (by decide) (fun c179 => ?_) (fun h => absurd (by decide) h)
                refine s_aload_n C (pc := 208) dX3_ofKind_208 rfl 7 rfl ?_
                refine s_get C (pc := 209) (T := TX3) (N := 10) (fun _ h => (List.mem_cons_of_mem _ (List.mem_append_right _ h))) 0 rfl rfl 6 (by decide) (List.mem_of_getElem? (i := 1) rfl) rfl rfl dX3_ofKind_209 ?_
                refine s_put C (pc := 212) (T := TX3) (N := 10) (ws' := [(mo, .inr (3, [.ref mp, .ref ms, .ref mt, .int sts, .int al, .ref mq, .long ((okF P Q w f ll i j kd x).2), .int wS, .int wo, .int fw])), (mp, .inl (X.2.1, 12, .inl (M)))]) (fun _ h => (List.mem_cons_of_mem _ (List.mem_append_right _ h))) 0 rfl rfl tyX3 tyX3_ok nmX3 6 (by decide) (List.mem_of_getElem? (i := 1) rfl) rfl rfl rfl rfl (Nat.le_of_ble_eq_true rfl) rfl dX3_ofKind_212 ?_
                refine s_iinc C (pc := 215) (v := nI (x + 1)) (ls' := [(9, .int (nI (x + 1))), (4, .int ((okF P Q w f ll i j kd x).1)), (16, .int 0), (14, .long (psL P Q i j (cdA w (nI x)) (cdB w (nI x)) (cdC w (nI x)) (cdD w (nI x)))), (13, .int (cdD w (nI x))), (12, .int (cdC w (nI x))), (11, .int (cdB w (nI x))), (10, .int (cdA w (nI x))), (0, .ref mo), (1, .int (nI i)), (2, .int (nI j)), (3, .int kd), (5, .long (bsL P Q i j)), (7, .int (nI w)), (8, .int (wdI w))]) dX3_ofKind_215 14 rfl (nI_1 _) (by decide) rfl ?_
                refine s_goto C (pc := 218) (tgt := 35) dX3_ofKind_218 (by decide) ?_
                refine s_loc C (ls' := [(0, .ref mo), (1, .int (nI i)), (2, .int (nI j)), (3, .int kd), (4, .int ((okF P Q w f ll i j kd x).1)), (5, .long (bsL P Q i j)), (7, .int (nI w)), (8, .int (wdI w)), (9, .int (nI (x + 1)))]) [8, 9, 10, 11, 1, 12, 13, 14, 0] rfl ?_
                have hb := ih35 (x + 1) (by omega) (by omega)
                rw [show okF P Q w f ll i j kd (x + 1) = okF P Q w f ll i j kd x from (if_pos (Or.inl c108)).trans ((if_pos (Or.inr c123)).trans (if_neg c151))] at hb
                exact hb
              · skip
                refine s_iconst C (pc := 154) (v := 1) dX3_ofKind_154 (by decide) ?_
                refine s_goto C (pc := 155) (tgt := 159) dX3_ofKind_155 (by decide) ?_
                refine s_istore C (pc := 159) (ls' := [(16, .int 1), (14, .long (psL P Q i j (cdA w (nI x)) (cdB w (nI x)) (cdC w (nI x)) (cdD w (nI x)))), (13, .int (cdD w (nI x))), (12, .int (cdC w (nI x))), (11, .int (cdB w (nI x))), (10, .int (cdA w (nI x))), (0, .ref mo), (1, .int (nI i)), (2, .int (nI j)), (3, .int kd), (4, .int ((okF P Q w f ll i j kd x).1)), (5, .long (bsL P Q i j)), (7, .int (nI w)), (8, .int (wdI w)), (9, .int (nI x))]) dX3_ofKind_159 (by decide) rfl ?_
                refine s_iload C (pc := 161) dX3_ofKind_161 10 rfl ?_
                refine s_iload C (pc := 163) dX3_ofKind_163 0 rfl ?_
                refine s_if_eq C (pc := 165) (tgt := 172) dX3_ofKind_165 (by decide) (fun h => absurd h (by decide)) (fun c165 => ?_)
                refine s_iconst C (pc := 168) (v := 1) dX3_ofKind_168 (by decide) ?_
                refine s_goto C (pc := 169) (tgt := 173) dX3_ofKind_169 (by decide) ?_
                refine s_iadd C (pc := 173) dX3_ofKind_173 ?_
                refine s_istore C (pc := 174) (ls' := [(4, .int (((okF P Q w f ll i j kd x).1) + 1)), (16, .int 1), (14, .long (psL P Q i j (cdA w (nI x)) (cdB w (nI x)) (cdC w (nI x)) (cdD w (nI x)))), (13, .int (cdD w (nI x))), (12, .int (cdC w (nI x))), (11, .int (cdB w (nI x))), (10, .int (cdA w (nI x))), (0, .ref mo), (1, .int (nI i)), (2, .int (nI j)), (3, .int kd), (5, .long (bsL P Q i j)), (7, .int (nI w)), (8, .int (wdI w)), (9, .int (nI x))]) dX3_ofKind_174 (by decide) rfl ?_
                refine s_aload_n C (pc := 176) dX3_ofKind_176 rfl 7 rfl ?_
                refine s_iload C (pc := 177) dX3_ofKind_177 1 rfl ?_
                refine s_if_eq C (pc := 179) (tgt := 208) dX3_ofKind_179 (by decide) (fun h => absurd h (by decide)) (fun c179 => ?_)
                refine s_iload_n C (pc := 182) dX3_ofKind_182 rfl 10 rfl ?_
                refine s_iconst C (pc := 183) (v := 3) dX3_ofKind_183 (by decide) ?_
                refine s_icmp_ne C (pc := 184) (tgt := 208) dX3_ofKind_184 (by decide) (fun c184 => ?_) (fun c184 => ?_)
                · skip
                  refine s_aload_n C (pc := 208) dX3_ofKind_208 rfl 7 rfl ?_
                  refine s_get C (pc := 209) (T := TX3) (N := 10) (fun _ h => (List.mem_cons_of_mem _ (List.mem_append_right _ h))) 0 rfl rfl 6 (by decide) (List.mem_of_getElem? (i := 1) rfl) rfl rfl dX3_ofKind_209 ?_
                  refine s_put C (pc := 212) (T := TX3) (N := 10) (ws' := [(mo, .inr (3, [.ref mp, .ref ms, .ref mt, .int sts, .int al, .ref mq, .long ((okF P Q w f ll i j kd x).2), .int wS, .int wo, .int fw])), (mp, .inl (X.2.1, 12, .inl (M)))]) (fun _ h => (List.mem_cons_of_mem _ (List.mem_append_right _ h))) 0 rfl rfl tyX3 tyX3_ok nmX3 6 (by decide) (List.mem_of_getElem? (i := 1) rfl) rfl rfl rfl rfl (Nat.le_of_ble_eq_true rfl) rfl dX3_ofKind_212 ?_
                  refine s_iinc C (pc := 215) (v := nI (x + 1)) (ls' := [(9, .int (nI (x + 1))), (4, .int (((okF P Q w f ll i j kd x).1) + 1)), (16, .int 1), (14, .long (psL P Q i j (cdA w (nI x)) (cdB w (nI x)) (cdC w (nI x)) (cdD w (nI x)))), (13, .int (cdD w (nI x))), (12, .int (cdC w (nI x))), (11, .int (cdB w (nI x))), (10, .int (cdA w (nI x))), (0, .ref mo), (1, .int (nI i)), (2, .int (nI j)), (3, .int kd), (5, .long (bsL P Q i j)), (7, .int (nI w)), (8, .int (wdI w))]) dX3_ofKind_215 14 rfl (nI_1 _) (by decide) rfl ?_
                  refine s_goto C (pc := 218) (tgt := 35) dX3_ofKind_218 (by decide) ?_
                  refine s_loc C (ls' := [(0, .ref mo), (1, .int (nI i)), (2, .int (nI j)), (3, .int kd), (4, .int (((okF P Q w f ll i j kd x).1) + 1)), (5, .long (bsL P Q i j)), (7, .int (nI w)), (8, .int (wdI w)), (9, .int (nI (x + 1)))]) [8, 9, 10, 11, 1, 12, 13, 14, 0] rfl ?_
                  have hb := ih35 (x + 1) (by omega) (by omega)
                  rw [show okF P Q w f ll i j kd (x + 1) = ((okF P Q w f ll i j kd x).1 + 1, (okF P Q w f ll i j kd x).2) from (if_pos (Or.inl c108)).trans ((if_pos (Or.inr c123)).trans ((if_pos c151).trans (by rw [if_neg c184])))] at hb
                  exact hb
                · skip
                  refine s_lload C (pc := 187) dX3_ofKind_187 11 rfl ?_
                  refine s_lload C (pc := 189) dX3_ofKind_189 2 rfl ?_
                  refine s_ldiv C (pc := 191) dX3_ofKind_191 (kdM_ne (v := kd) (by rw [c184]; decide) c151) ?_
                  refine s_aload_n C (pc := 192) dX3_ofKind_192 rfl 7 rfl ?_
                  refine s_get C (pc := 193) (T := TX3) (N := 10) (fun _ h => (List.mem_cons_of_mem _ (List.mem_append_right _ h))) 0 rfl rfl 6 (by decide) (List.mem_of_getElem? (i := 1) rfl) rfl rfl dX3_ofKind_193 ?_
                  refine s_lcmp_le C (pc := 196) (tgt := 208) dX3_ofKind_196 dX3_ofKind_197 (by decide) (fun c196 => ?_) (fun c196 => ?_)
                  · skip
                    refine s_aload_n C (pc := 208) dX3_ofKind_208 rfl 7 rfl ?_
                    refine s_get C (pc := 209) (T := TX3) (N := 10) (fun _ h => (List.mem_cons_of_mem _ (List.mem_append_right _ h))) 0 rfl rfl 6 (by decide) (List.mem_of_getElem? (i := 1) rfl) rfl rfl dX3_ofKind_209 ?_
                    refine s_put C (pc := 212) (T := TX3) (N := 10) (ws' := [(mo, .inr (3, [.ref mp, .ref ms, .ref mt, .int sts, .int al, .ref mq, .long ((okF P Q w f ll i j kd x).2), .int wS, .int wo, .int fw])), (mp, .inl (X.2.1, 12, .inl (M)))]) (fun _ h => (List.mem_cons_of_mem _ (List.mem_append_right _ h))) 0 rfl rfl tyX3 tyX3_ok nmX3 6 (by decide) (List.mem_of_getElem? (i := 1) rfl) rfl rfl rfl rfl (Nat.le_of_ble_eq_true rfl) rfl dX3_ofKind_212 ?_
                    refine s_iinc C (pc := 215) (v := nI (x + 1)) (ls' := [(9, .int (nI (x + 1))), (4, .int (((okF P Q w f ll i j kd x).1) + 1)), (16, .int 1), (14, .long (psL P Q i j (cdA w (nI x)) (cdB w (nI x)) (cdC w (nI x)) (cdD w (nI x)))), (13, .int (cdD w (nI x))), (12, .int (cdC w (nI x))), (11, .int (cdB w (nI x))), (10, .int (cdA w (nI x))), (0, .ref mo), (1, .int (nI i)), (2, .int (nI j)), (3, .int kd), (5, .long (bsL P Q i j)), (7, .int (nI w)), (8, .int (wdI w))]) dX3_ofKind_215 14 rfl (nI_1 _) (by decide) rfl ?_
                    refine s_goto C (pc := 218) (tgt := 35) dX3_ofKind_218 (by decide) ?_
                    refine s_loc C (ls' := [(0, .ref mo), (1, .int (nI i)), (2, .int (nI j)), (3, .int kd), (4, .int (((okF P Q w f ll i j kd x).1) + 1)), (5, .long (bsL P Q i j)), (7, .int (nI w)), (8, .int (wdI w)), (9, .int (nI (x + 1)))]) [8, 9, 10, 11, 1, 12, 13, 14, 0] rfl ?_
                    have hb := ih35 (x + 1) (by omega) (by omega)
                    rw [show okF P Q w f ll i j kd (x + 1) = ((okF P Q w f ll i j kd x).1 + 1, (okF P Q w f ll i j kd x).2) from (if_pos (Or.inl c108)).trans ((if_pos (Or.inr c123)).trans ((if_pos c151).trans (by rw [if_pos c184, if_pos c196])))] at hb
                    exact hb
                  · skip
                    refine s_lload C (pc := 200) dX3_ofKind_200 11 rfl ?_
                    refine s_lload C (pc := 202) dX3_ofKind_202 2 rfl ?_
                    refine s_ldiv C (pc := 204) dX3_ofKind_204 (kdM_ne (v := kd) (by rw [c184]; decide) c151) ?_
                    refine s_goto C (pc := 205) (tgt := 212) dX3_ofKind_205 (by decide) ?_
                    refine s_put C (pc := 212) (T := TX3) (N := 10) (ws' := [(mo, .inr (3, [.ref mp, .ref ms, .ref mt, .int sts, .int al, .ref mq, .long ((bsL P Q i j) / (psL P Q i j (cdA w (nI x)) (cdB w (nI x)) (cdC w (nI x)) (cdD w (nI x)))), .int wS, .int wo, .int fw])), (mp, .inl (X.2.1, 12, .inl (M)))]) (fun _ h => (List.mem_cons_of_mem _ (List.mem_append_right _ h))) 0 rfl rfl tyX3 tyX3_ok nmX3 6 (by decide) (List.mem_of_getElem? (i := 1) rfl) rfl rfl rfl rfl (Nat.le_of_ble_eq_true rfl) rfl dX3_ofKind_212 ?_
                    refine s_iinc C (pc := 215) (v := nI (x + 1)) (ls' := [(9, .int (nI (x + 1))), (4, .int (((okF P Q w f ll i j kd x).1) + 1)), (16, .int 1), (14, .long (psL P Q i j (cdA w (nI x)) (cdB w (nI x)) (cdC w (nI x)) (cdD w (nI x)))), (13, .int (cdD w (nI x))), (12, .int (cdC w (nI x))), (11, .int (cdB w (nI x))), (10, .int (cdA w (nI x))), (0, .ref mo), (1, .int (nI i)), (2, .int (nI j)), (3, .int kd), (5, .long (bsL P Q i j)), (7, .int (nI w)), (8, .int (wdI w))]) dX3_ofKind_215 14 rfl (nI_1 _) (by decide) rfl ?_
                    refine s_goto C (pc := 218) (tgt := 35) dX3_ofKind_218 (by decide) ?_
                    refine s_loc C (ls' := [(0, .ref mo), (1, .int (nI i)), (2, .int (nI j)), (3, .int kd), (4, .int (((okF P Q w f ll i j kd x).1) + 1)), (5, .long (bsL P Q i j)), (7, .int (nI w)), (8, .int (wdI w)), (9, .int (nI (x + 1)))]) [8, 9, 10, 11, 1, 12, 13, 14, 0] rfl ?_
                    have hb := ih35 (x + 1) (by omega) (by omega)
                    rw [show okF P Q w f ll i j kd (x + 1) = ((okF P Q w f ll i j kd x).1 + 1, bsL P Q i j / psL P Q i j (cdA w (nI x)) (cdB w (nI x)) (cdC w (nI x)) (cdD w (nI x))) from (if_pos (Or.inl c108)).trans ((if_pos (Or.inr c123)).trans ((if_pos c151).trans (by rw [if_pos c184, if_neg c196])))] at hb
                    exact hb
        · skip
          refine s_iload C (pc := 111) dX3_ofKind_111 2 rfl ?_
          refine s_if_eq C (pc := 113) (tgt := 215) dX3_ofKind_113 (by decide) (fun c113 => ?_) (fun c113 => ?_)
          · skip
            refine s_iinc C (pc := 215) (v := nI (x + 1)) (ls' := [(9, .int (nI (x + 1))), (13, .int (cdD w (nI x))), (12, .int (cdC w (nI x))), (11, .int (cdB w (nI x))), (10, .int (cdA w (nI x))), (0, .ref mo), (1, .int (nI i)), (2, .int (nI j)), (3, .int kd), (4, .int ((okF P Q w f ll i j kd x).1)), (5, .long (bsL P Q i j)), (7, .int (nI w)), (8, .int (wdI w))]) dX3_ofKind_215 12 rfl (nI_1 _) (by decide) rfl ?_
            refine s_goto C (pc := 218) (tgt := 35) dX3_ofKind_218 (by decide) ?_
            refine s_loc C (ls' := [(0, .ref mo), (1, .int (nI i)), (2, .int (nI j)), (3, .int kd), (4, .int ((okF P Q w f ll i j kd x).1)), (5, .long (bsL P Q i j)), (7, .int (nI w)), (8, .int (wdI w)), (9, .int (nI (x + 1)))]) [5, 6, 7, 8, 9, 10, 11, 12, 0] rfl ?_
            have hb := ih35 (x + 1) (by omega) (by omega)
            rw [show okF P Q w f ll i j kd (x + 1) = okF P Q w f ll i j kd x from if_neg (fun hh => hh.elim (fun z => z c108) (fun z => z c113))] at hb
            exact hb
          · skip
            refine s_iload C (pc := 116) dX3_ofKind_116 1 rfl ?_
            refine s_if_ne C (pc := 118) (tgt := 126) dX3_ofKind_118 (by decide) (fun c118 => ?_) (fun c118 => ?_)
            · skip
              refine s_aload_n C (pc := 126) dX3_ofKind_126 rfl 4 rfl ?_
              refine s_iload_n C (pc := 127) dX3_ofKind_127 rfl 5 rfl ?_
              refine s_iload_n C (pc := 128) dX3_ofKind_128 rfl 6 rfl ?_
              refine s_iload C (pc := 129) dX3_ofKind_129 3 rfl ?_
              refine s_iload C (pc := 131) dX3_ofKind_131 2 rfl ?_
              refine s_iload C (pc := 133) dX3_ofKind_133 1 rfl ?_
              refine s_iload C (pc := 135) dX3_ofKind_135 0 rfl ?_
              refine s_calll C (pc := 137) (wr := []) (wc' := [(mo, .inr (3, [.ref mp, .ref ms, .ref mt, .int sts, .int al, .ref mq, .long ((okF P Q w f ll i j kd x).2), .int wS, .int wo, .int fw])), (mp, .inl (X.2.1, 12, .inl (M)))]) (wn := [(mo, .inr (3, [.ref mp, .ref ms, .ref mt, .int sts, .int al, .ref mq, .long ((okF P Q w f ll i j kd x).2), .int wS, .int wo, .int fw])), (mp, .inl (X.2.1, 12, .inl (M)))]) (r_V C (As := [.int (nI i), .int (nI j), .int (cdA w (nI x)), .int (cdB w (nI x)), .int (cdC w (nI x)), .int (cdD w (nI x))]) (rest := []) (kX3_pairSquare l X mo mp ms mt mq sts al ((okF P Q w f ll i j kd x).2) wS wo fw M n P Q (nI w) f ll i j (cdA w (nI x)) (cdB w (nI x)) (cdC w (nI x)) (cdD w (nI x)) (by first | assumption | omega | decide) (by first | assumption | omega | decide) (by first | assumption | omega | decide) (by first | assumption | omega | decide)) (cwV 6 C.ts gX3_ofKind_X3_pairSquare rfl rfl rfl (by decide +kernel) ⟨Nat.le_of_ble_eq_true rfl, Nat.le_of_ble_eq_true rfl⟩) (q0 := 0) rfl rfl [0, 1] (by decide) rfl rfl (Nat.le_of_ble_eq_true rfl) rfl dX3_ofKind_137 ⟨Nat.zero_le _, Nat.zero_le _⟩) [0, 1] [] [0, 1] rfl rfl (by decide) (by decide) (by decide) rfl ?_
              refine s_lstore C (pc := 140) (ls' := [(14, .long (psL P Q i j (cdA w (nI x)) (cdB w (nI x)) (cdC w (nI x)) (cdD w (nI x)))), (13, .int (cdD w (nI x))), (12, .int (cdC w (nI x))), (11, .int (cdB w (nI x))), (10, .int (cdA w (nI x))), (0, .ref mo), (1, .int (nI i)), (2, .int (nI j)), (3, .int kd), (4, .int ((okF P Q w f ll i j kd x).1)), (5, .long (bsL P Q i j)), (7, .int (nI w)), (8, .int (wdI w)), (9, .int (nI x))]) dX3_ofKind_140 (by decide) rfl ?_
              refine s_aload_n C (pc := 142) dX3_ofKind_142 rfl 5 rfl ?_
              refine s_lload C (pc := 143) dX3_ofKind_143 0 rfl ?_
              refine s_lload C (pc := 145) dX3_ofKind_145 10 rfl ?_
              refine s_calli C (pc := 147) (wr := []) (wc' := [(mo, .inr (3, [.ref mp, .ref ms, .ref mt, .int sts, .int al, .ref mq, .long ((okF P Q w f ll i j kd x).2), .int wS, .int wo, .int fw])), (mp, .inl (X.2.1, 12, .inl (M)))]) (wn := [(mo, .inr (3, [.ref mp, .ref ms, .ref mt, .int sts, .int al, .ref mq, .long ((okF P Q w f ll i j kd x).2), .int wS, .int wo, .int fw])), (mp, .inl (X.2.1, 12, .inl (M)))]) (r_V C (As := [.long (psL P Q i j (cdA w (nI x)) (cdB w (nI x)) (cdC w (nI x)) (cdD w (nI x))), .long (bsL P Q i j)]) (rest := []) (kX3_kindOf l X mo mp ms mt mq sts al ((okF P Q w f ll i j kd x).2) wS wo fw M n P Q (nI w) f ll (psL P Q i j (cdA w (nI x)) (cdB w (nI x)) (cdC w (nI x)) (cdD w (nI x))) (bsL P Q i j) (by first | assumption | omega | decide)) (cwV 2 C.ts gX3_ofKind_X3_kindOf rfl rfl rfl (by decide +kernel) ⟨Nat.le_of_ble_eq_true rfl, Nat.le_of_ble_eq_true rfl⟩) (q0 := 0) rfl rfl [0, 1] (by decide) rfl rfl (Nat.le_of_ble_eq_true rfl) rfl dX3_ofKind_147 ⟨Nat.zero_le _, Nat.zero_le _⟩) [0, 1] [] [0, 1] rfl rfl (by decide) (by decide) (by decide) rfl ?_
              refine s_iload_n C (pc := 150) dX3_ofKind_150 rfl 8 rfl ?_
              refine s_icmp_ne C (pc := 151) (tgt := 158) dX3_ofKind_151 (by decide) (fun c151 => ?_) (fun c151 => ?_)
              · skip
                refine s_iconst C (pc := 158) (v := 0) dX3_ofKind_158 (by decide) ?_
                refine s_istore C (pc := 159) (ls' := [(16, .int 0), (14, .long (psL P Q i j (cdA w (nI x)) (cdB w (nI x)) (cdC w (nI x)) (cdD w (nI x)))), (13, .int (cdD w (nI x))), (12, .int (cdC w (nI x))), (11, .int (cdB w (nI x))), (10, .int (cdA w (nI x))), (0, .ref mo), (1, .int (nI i)), (2, .int (nI j)), (3, .int kd), (4, .int ((okF P Q w f ll i j kd x).1)), (5, .long (bsL P Q i j)), (7, .int (nI w)), (8, .int (wdI w)), (9, .int (nI x))]) dX3_ofKind_159 (by decide) rfl ?_
                refine s_iload C (pc := 161) dX3_ofKind_161 10 rfl ?_
                refine s_iload C (pc := 163) dX3_ofKind_163 0 rfl ?_
                refine s_if_eq C (pc := 165) (tgt := 172) dX3_ofKind_165 (by decide) (fun c165 => ?_) (fun h => absurd (by decide) h)
                refine s_iconst C (pc := 172) (v := 0) dX3_ofKind_172 (by decide) ?_
                refine s_iadd C (pc := 173) dX3_ofKind_173 ?_
                refine s_top C (y := (okF P Q w f ll i j kd x).1) (Int32.add_zero _) ?_
                refine s_istore C (pc := 174) (ls' := [(4, .int ((okF P Q w f ll i j kd x).1)), (16, .int 0), (14, .long (psL P Q i j (cdA w (nI x)) (cdB w (nI x)) (cdC w (nI x)) (cdD w (nI x)))), (13, .int (cdD w (nI x))), (12, .int (cdC w (nI x))), (11, .int (cdB w (nI x))), (10, .int (cdA w (nI x))), (0, .ref mo), (1, .int (nI i)), (2, .int (nI j)), (3, .int kd), (5, .long (bsL P Q i j)), (7, .int (nI w)), (8, .int (wdI w)), (9, .int (nI x))]) dX3_ofKind_174 (by decide) rfl ?_
                refine s_aload_n C (pc := 176) dX3_ofKind_176 rfl 7 rfl ?_
                refine s_iload C (pc := 177) dX3_ofKind_177 1 rfl ?_
                refine s_if_eq C (pc := 179) (tgt := 208) dX3_ofKind_179 (by decide) (fun c179 => ?_) (fun h => absurd (by decide) h)
                refine s_aload_n C (pc := 208) dX3_ofKind_208 rfl 7 rfl ?_
                refine s_get C (pc := 209) (T := TX3) (N := 10) (fun _ h => (List.mem_cons_of_mem _ (List.mem_append_right _ h))) 0 rfl rfl 6 (by decide) (List.mem_of_getElem? (i := 1) rfl) rfl rfl dX3_ofKind_209 ?_
                refine s_put C (pc := 212) (T := TX3) (N := 10) (ws' := [(mo, .inr (3, [.ref mp, .ref ms, .ref mt, .int sts, .int al, .ref mq, .long ((okF P Q w f ll i j kd x).2), .int wS, .int wo, .int fw])), (mp, .inl (X.2.1, 12, .inl (M)))]) (fun _ h => (List.mem_cons_of_mem _ (List.mem_append_right _ h))) 0 rfl rfl tyX3 tyX3_ok nmX3 6 (by decide) (List.mem_of_getElem? (i := 1) rfl) rfl rfl rfl rfl (Nat.le_of_ble_eq_true rfl) rfl dX3_ofKind_212 ?_
                refine s_iinc C (pc := 215) (v := nI (x + 1)) (ls' := [(9, .int (nI (x + 1))), (4, .int ((okF P Q w f ll i j kd x).1)), (16, .int 0), (14, .long (psL P Q i j (cdA w (nI x)) (cdB w (nI x)) (cdC w (nI x)) (cdD w (nI x)))), (13, .int (cdD w (nI x))), (12, .int (cdC w (nI x))), (11, .int (cdB w (nI x))), (10, .int (cdA w (nI x))), (0, .ref mo), (1, .int (nI i)), (2, .int (nI j)), (3, .int kd), (5, .long (bsL P Q i j)), (7, .int (nI w)), (8, .int (wdI w))]) dX3_ofKind_215 14 rfl (nI_1 _) (by decide) rfl ?_
                refine s_goto C (pc := 218) (tgt := 35) dX3_ofKind_218 (by decide) ?_
                refine s_loc C (ls' := [(0, .ref mo), (1, .int (nI i)), (2, .int (nI j)), (3, .int kd), (4, .int ((okF P Q w f ll i j kd x).1)), (5, .long (bsL P Q i j)), (7, .int (nI w)), (8, .int (wdI w)), (9, .int (nI (x + 1)))]) [8, 9, 10, 11, 1, 12, 13, 14, 0] rfl ?_
                have hb := ih35 (x + 1) (by omega) (by omega)
                rw [show okF P Q w f ll i j kd (x + 1) = okF P Q w f ll i j kd x from (if_pos (Or.inr c113)).trans ((if_pos (Or.inl c118)).trans (if_neg c151))] at hb
                exact hb
              · skip
                refine s_iconst C (pc := 154) (v := 1) dX3_ofKind_154 (by decide) ?_
                refine s_goto C (pc := 155) (tgt := 159) dX3_ofKind_155 (by decide) ?_
                refine s_istore C (pc := 159) (ls' := [(16, .int 1), (14, .long (psL P Q i j (cdA w (nI x)) (cdB w (nI x)) (cdC w (nI x)) (cdD w (nI x)))), (13, .int (cdD w (nI x))), (12, .int (cdC w (nI x))), (11, .int (cdB w (nI x))), (10, .int (cdA w (nI x))), (0, .ref mo), (1, .int (nI i)), (2, .int (nI j)), (3, .int kd), (4, .int ((okF P Q w f ll i j kd x).1)), (5, .long (bsL P Q i j)), (7, .int (nI w)), (8, .int (wdI w)), (9, .int (nI x))]) dX3_ofKind_159 (by decide) rfl ?_
                refine s_iload C (pc := 161) dX3_ofKind_161 10 rfl ?_
                refine s_iload C (pc := 163) dX3_ofKind_163 0 rfl ?_
                refine s_if_eq C (pc := 165) (tgt := 172) dX3_ofKind_165 (by decide) (fun h => absurd h (by decide)) (fun c165 => ?_)
                refine s_iconst C (pc := 168) (v := 1) dX3_ofKind_168 (by decide) ?_
                refine s_goto C (pc := 169) (tgt := 173) dX3_ofKind_169 (by decide) ?_
                refine s_iadd C (pc := 173) dX3_ofKind_173 ?_
                refine s_istore C (pc := 174) (ls' := [(4, .int (((okF P Q w f ll i j kd x).1) + 1)), (16, .int 1), (14, .long (psL P Q i j (cdA w (nI x)) (cdB w (nI x)) (cdC w (nI x)) (cdD w (nI x)))), (13, .int (cdD w (nI x))), (12, .int (cdC w (nI x))), (11, .int (cdB w (nI x))), (10, .int (cdA w (nI x))), (0, .ref mo), (1, .int (nI i)), (2, .int (nI j)), (3, .int kd), (5, .long (bsL P Q i j)), (7, .int (nI w)), (8, .int (wdI w)), (9, .int (nI x))]) dX3_ofKind_174 (by decide) rfl ?_
                refine s_aload_n C (pc := 176) dX3_ofKind_176 rfl 7 rfl ?_
                refine s_iload C (pc := 177) dX3_ofKind_177 1 rfl ?_
                refine s_if_eq C (pc := 179) (tgt := 208) dX3_ofKind_179 (by decide) (fun h => absurd h (by decide)) (fun c179 => ?_)
                refine s_iload_n C (pc := 182) dX3_ofKind_182 rfl 10 rfl ?_
                refine s_iconst C (pc := 183) (v := 3) dX3_ofKind_183 (by decide) ?_
                refine s_icmp_ne C (pc := 184) (tgt := 208) dX3_ofKind_184 (by decide) (fun c184 => ?_) (fun c184 => ?_)
                · skip
                  refine s_aload_n C (pc := 208) dX3_ofKind_208 rfl 7 rfl ?_
                  refine s_get C (pc := 209) (T := TX3) (N := 10) (fun _ h => (List.mem_cons_of_mem _ (List.mem_append_right _ h))) 0 rfl rfl 6 (by decide) (List.mem_of_getElem? (i := 1) rfl) rfl rfl dX3_ofKind_209 ?_
                  refine s_put C (pc := 212) (T := TX3) (N := 10) (ws' := [(mo, .inr (3, [.ref mp, .ref ms, .ref mt, .int sts, .int al, .ref mq, .long ((okF P Q w f ll i j kd x).2), .int wS, .int wo, .int fw])), (mp, .inl (X.2.1, 12, .inl (M)))]) (fun _ h => (List.mem_cons_of_mem _ (List.mem_append_right _ h))) 0 rfl rfl tyX3 tyX3_ok nmX3 6 (by decide) (List.mem_of_getElem? (i := 1) rfl) rfl rfl rfl rfl (Nat.le_of_ble_eq_true rfl) rfl dX3_ofKind_212 ?_
                  refine s_iinc C (pc := 215) (v := nI (x + 1)) (ls' := [(9, .int (nI (x + 1))), (4, .int (((okF P Q w f ll i j kd x).1) + 1)), (16, .int 1), (14, .long (psL P Q i j (cdA w (nI x)) (cdB w (nI x)) (cdC w (nI x)) (cdD w (nI x)))), (13, .int (cdD w (nI x))), (12, .int (cdC w (nI x))), (11, .int (cdB w (nI x))), (10, .int (cdA w (nI x))), (0, .ref mo), (1, .int (nI i)), (2, .int (nI j)), (3, .int kd), (5, .long (bsL P Q i j)), (7, .int (nI w)), (8, .int (wdI w))]) dX3_ofKind_215 14 rfl (nI_1 _) (by decide) rfl ?_
                  refine s_goto C (pc := 218) (tgt := 35) dX3_ofKind_218 (by decide) ?_
                  refine s_loc C (ls' := [(0, .ref mo), (1, .int (nI i)), (2, .int (nI j)), (3, .int kd), (4, .int (((okF P Q w f ll i j kd x).1) + 1)), (5, .long (bsL P Q i j)), (7, .int (nI w)), (8, .int (wdI w)), (9, .int (nI (x + 1)))]) [8, 9, 10, 11, 1, 12, 13, 14, 0] rfl ?_
                  have hb := ih35 (x + 1) (by omega) (by omega)
                  rw [show okF P Q w f ll i j kd (x + 1) = ((okF P Q w f ll i j kd x).1 + 1, (okF P Q w f ll i j kd x).2) from (if_pos (Or.inr c113)).trans ((if_pos (Or.inl c118)).trans ((if_pos c151).trans (by rw [if_neg c184])))] at hb
                  exact hb
                · skip
                  refine s_lload C (pc := 187) dX3_ofKind_187 11 rfl ?_
                  refine s_lload C (pc := 189) dX3_ofKind_189 2 rfl ?_
                  refine s_ldiv C (pc := 191) dX3_ofKind_191 (kdM_ne (v := kd) (by rw [c184]; decide) c151) ?_
                  refine s_aload_n C (pc := 192) dX3_ofKind_192 rfl 7 rfl ?_
                  refine s_get C (pc := 193) (T := TX3) (N := 10) (fun _ h => (List.mem_cons_of_mem _ (List.mem_append_right _ h))) 0 rfl rfl 6 (by decide) (List.mem_of_getElem? (i := 1) rfl) rfl rfl dX3_ofKind_193 ?_
                  refine s_lcmp_le C (pc := 196) (tgt := 208) dX3_ofKind_196 dX3_ofKind_197 (by decide) (fun c196 => ?_) (fun c196 => ?_)
                  · skip
                    refine s_aload_n C (pc := 208) dX3_ofKind_208 rfl 7 rfl ?_
                    refine s_get C (pc := 209) (T := TX3) (N := 10) (fun _ h => (List.mem_cons_of_mem _ (List.mem_append_right _ h))) 0 rfl rfl 6 (by decide) (List.mem_of_getElem? (i := 1) rfl) rfl rfl dX3_ofKind_209 ?_
                    refine s_put C (pc := 212) (T := TX3) (N := 10) (ws' := [(mo, .inr (3, [.ref mp, .ref ms, .ref mt, .int sts, .int al, .ref mq, .long ((okF P Q w f ll i j kd x).2), .int wS, .int wo, .int fw])), (mp, .inl (X.2.1, 12, .inl (M)))]) (fun _ h => (List.mem_cons_of_mem _ (List.mem_append_right _ h))) 0 rfl rfl tyX3 tyX3_ok nmX3 6 (by decide) (List.mem_of_getElem? (i := 1) rfl) rfl rfl rfl rfl (Nat.le_of_ble_eq_true rfl) rfl dX3_ofKind_212 ?_
                    refine s_iinc C (pc := 215) (v := nI (x + 1)) (ls' := [(9, .int (nI (x + 1))), (4, .int (((okF P Q w f ll i j kd x).1) + 1)), (16, .int 1), (14, .long (psL P Q i j (cdA w (nI x)) (cdB w (nI x)) (cdC w (nI x)) (cdD w (nI x)))), (13, .int (cdD w (nI x))), (12, .int (cdC w (nI x))), (11, .int (cdB w (nI x))), (10, .int (cdA w (nI x))), (0, .ref mo), (1, .int (nI i)), (2, .int (nI j)), (3, .int kd), (5, .long (bsL P Q i j)), (7, .int (nI w)), (8, .int (wdI w))]) dX3_ofKind_215 14 rfl (nI_1 _) (by decide) rfl ?_
                    refine s_goto C (pc := 218) (tgt := 35) dX3_ofKind_218 (by decide) ?_
                    refine s_loc C (ls' := [(0, .ref mo), (1, .int (nI i)), (2, .int (nI j)), (3, .int kd), (4, .int (((okF P Q w f ll i j kd x).1) + 1)), (5, .long (bsL P Q i j)), (7, .int (nI w)), (8, .int (wdI w)), (9, .int (nI (x + 1)))]) [8, 9, 10, 11, 1, 12, 13, 14, 0] rfl ?_
                    have hb := ih35 (x + 1) (by omega) (by omega)
                    rw [show okF P Q w f ll i j kd (x + 1) = ((okF P Q w f ll i j kd x).1 + 1, (okF P Q w f ll i j kd x).2) from (if_pos (Or.inr c113)).trans ((if_pos (Or.inl c118)).trans ((if_pos c151).trans (by rw [if_pos c184, if_pos c196])))] at hb
                    exact hb
                  · skip
                    refine s_lload C (pc := 200) dX3_ofKind_200 11 rfl ?_
                    refine s_lload C (pc := 202) dX3_ofKind_202 2 rfl ?_
                    refine s_ldiv C (pc := 204) dX3_ofKind_204 (kdM_ne (v := kd) (by rw [c184]; decide) c151) ?_
                    refine s_goto C (pc := 205) (tgt := 212) dX3_ofKind_205 (by decide) ?_
                    refine s_put C (pc := 212) (T := TX3) (N := 10) (ws' := [(mo, .inr (3, [.ref mp, .ref ms, .ref mt, .int sts, .int al, .ref mq, .long ((bsL P Q i j) / (psL P Q i j (cdA w (nI x)) (cdB w (nI x)) (cdC w (nI x)) (cdD w (nI x)))), .int wS, .int wo, .int fw])), (mp, .inl (X.2.1, 12, .inl (M)))]) (fun _ h => (List.mem_cons_of_mem _ (List.mem_append_right _ h))) 0 rfl rfl tyX3 tyX3_ok nmX3 6 (by decide) (List.mem_of_getElem? (i := 1) rfl) rfl rfl rfl rfl (Nat.le_of_ble_eq_true rfl) rfl dX3_ofKind_212 ?_
                    refine s_iinc C (pc := 215) (v := nI (x + 1)) (ls' := [(9, .int (nI (x + 1))), (4, .int (((okF P Q w f ll i j kd x).1) + 1)), (16, .int 1), (14, .long (psL P Q i j (cdA w (nI x)) (cdB w (nI x)) (cdC w (nI x)) (cdD w (nI x)))), (13, .int (cdD w (nI x))), (12, .int (cdC w (nI x))), (11, .int (cdB w (nI x))), (10, .int (cdA w (nI x))), (0, .ref mo), (1, .int (nI i)), (2, .int (nI j)), (3, .int kd), (5, .long (bsL P Q i j)), (7, .int (nI w)), (8, .int (wdI w))]) dX3_ofKind_215 14 rfl (nI_1 _) (by decide) rfl ?_
                    refine s_goto C (pc := 218) (tgt := 35) dX3_ofKind_218 (by decide) ?_
                    refine s_loc C (ls' := [(0, .ref mo), (1, .int (nI i)), (2, .int (nI j)), (3, .int kd), (4, .int (((okF P Q w f ll i j kd x).1) + 1)), (5, .long (bsL P Q i j)), (7, .int (nI w)), (8, .int (wdI w)), (9, .int (nI (x + 1)))]) [8, 9, 10, 11, 1, 12, 13, 14, 0] rfl ?_
                    have hb := ih35 (x + 1) (by omega) (by omega)
                    rw [show okF P Q w f ll i j kd (x + 1) = ((okF P Q w f ll i j kd x).1 + 1, bsL P Q i j / psL P Q i j (cdA w (nI x)) (cdB w (nI x)) (cdC w (nI x)) (cdD w (nI x))) from (if_pos (Or.inr c113)).trans ((if_pos (Or.inl c118)).trans ((if_pos c151).trans (by rw [if_pos c184, if_neg c196])))] at hb
                    exact hb
            · skip
              refine s_iload C (pc := 121) dX3_ofKind_121 0 rfl ?_
              refine s_if_eq C (pc := 123) (tgt := 215) dX3_ofKind_123 (by decide) (fun c123 => ?_) (fun c123 => ?_)
              · skip
                refine s_iinc C (pc := 215) (v := nI (x + 1)) (ls' := [(9, .int (nI (x + 1))), (13, .int (cdD w (nI x))), (12, .int (cdC w (nI x))), (11, .int (cdB w (nI x))), (10, .int (cdA w (nI x))), (0, .ref mo), (1, .int (nI i)), (2, .int (nI j)), (3, .int kd), (4, .int ((okF P Q w f ll i j kd x).1)), (5, .long (bsL P Q i j)), (7, .int (nI w)), (8, .int (wdI w))]) dX3_ofKind_215 12 rfl (nI_1 _) (by decide) rfl ?_
                refine s_goto C (pc := 218) (tgt := 35) dX3_ofKind_218 (by decide) ?_
                refine s_loc C (ls' := [(0, .ref mo), (1, .int (nI i)), (2, .int (nI j)), (3, .int kd), (4, .int ((okF P Q w f ll i j kd x).1)), (5, .long (bsL P Q i j)), (7, .int (nI w)), (8, .int (wdI w)), (9, .int (nI (x + 1)))]) [5, 6, 7, 8, 9, 10, 11, 12, 0] rfl ?_
                have hb := ih35 (x + 1) (by omega) (by omega)
                rw [show okF P Q w f ll i j kd (x + 1) = okF P Q w f ll i j kd x from (if_pos (Or.inr c113)).trans (if_neg (fun hh => hh.elim (fun z => z c118) (fun z => z c123)))] at hb
                exact hb
              · skip
                refine s_aload_n C (pc := 126) dX3_ofKind_126 rfl 4 rfl ?_
                refine s_iload_n C (pc := 127) dX3_ofKind_127 rfl 5 rfl ?_
                refine s_iload_n C (pc := 128) dX3_ofKind_128 rfl 6 rfl ?_
                refine s_iload C (pc := 129) dX3_ofKind_129 3 rfl ?_
                refine s_iload C (pc := 131) dX3_ofKind_131 2 rfl ?_
                refine s_iload C (pc := 133) dX3_ofKind_133 1 rfl ?_
                refine s_iload C (pc := 135) dX3_ofKind_135 0 rfl ?_
                refine s_calll C (pc := 137) (wr := []) (wc' := [(mo, .inr (3, [.ref mp, .ref ms, .ref mt, .int sts, .int al, .ref mq, .long ((okF P Q w f ll i j kd x).2), .int wS, .int wo, .int fw])), (mp, .inl (X.2.1, 12, .inl (M)))]) (wn := [(mo, .inr (3, [.ref mp, .ref ms, .ref mt, .int sts, .int al, .ref mq, .long ((okF P Q w f ll i j kd x).2), .int wS, .int wo, .int fw])), (mp, .inl (X.2.1, 12, .inl (M)))]) (r_V C (As := [.int (nI i), .int (nI j), .int (cdA w (nI x)), .int (cdB w (nI x)), .int (cdC w (nI x)), .int (cdD w (nI x))]) (rest := []) (kX3_pairSquare l X mo mp ms mt mq sts al ((okF P Q w f ll i j kd x).2) wS wo fw M n P Q (nI w) f ll i j (cdA w (nI x)) (cdB w (nI x)) (cdC w (nI x)) (cdD w (nI x)) (by first | assumption | omega | decide) (by first | assumption | omega | decide) (by first | assumption | omega | decide) (by first | assumption | omega | decide)) (cwV 6 C.ts gX3_ofKind_X3_pairSquare rfl rfl rfl (by decide +kernel) ⟨Nat.le_of_ble_eq_true rfl, Nat.le_of_ble_eq_true rfl⟩) (q0 := 0) rfl rfl [0, 1] (by decide) rfl rfl (Nat.le_of_ble_eq_true rfl) rfl dX3_ofKind_137 ⟨Nat.zero_le _, Nat.zero_le _⟩) [0, 1] [] [0, 1] rfl rfl (by decide) (by decide) (by decide) rfl ?_
                refine s_lstore C (pc := 140) (ls' := [(14, .long (psL P Q i j (cdA w (nI x)) (cdB w (nI x)) (cdC w (nI x)) (cdD w (nI x)))), (13, .int (cdD w (nI x))), (12, .int (cdC w (nI x))), (11, .int (cdB w (nI x))), (10, .int (cdA w (nI x))), (0, .ref mo), (1, .int (nI i)), (2, .int (nI j)), (3, .int kd), (4, .int ((okF P Q w f ll i j kd x).1)), (5, .long (bsL P Q i j)), (7, .int (nI w)), (8, .int (wdI w)), (9, .int (nI x))]) dX3_ofKind_140 (by decide) rfl ?_
                refine s_aload_n C (pc := 142) dX3_ofKind_142 rfl 5 rfl ?_
                refine s_lload C (pc := 143) dX3_ofKind_143 0 rfl ?_
                refine s_lload C (pc := 145) dX3_ofKind_145 10 rfl ?_
                refine s_calli C (pc := 147) (wr := []) (wc' := [(mo, .inr (3, [.ref mp, .ref ms, .ref mt, .int sts, .int al, .ref mq, .long ((okF P Q w f ll i j kd x).2), .int wS, .int wo, .int fw])), (mp, .inl (X.2.1, 12, .inl (M)))]) (wn := [(mo, .inr (3, [.ref mp, .ref ms, .ref mt, .int sts, .int al, .ref mq, .long ((okF P Q w f ll i j kd x).2), .int wS, .int wo, .int fw])), (mp, .inl (X.2.1, 12, .inl (M)))]) (r_V C (As := [.long (psL P Q i j (cdA w (nI x)) (cdB w (nI x)) (cdC w (nI x)) (cdD w (nI x))), .long (bsL P Q i j)]) (rest := []) (kX3_kindOf l X mo mp ms mt mq sts al ((okF P Q w f ll i j kd x).2) wS wo fw M n P Q (nI w) f ll (psL P Q i j (cdA w (nI x)) (cdB w (nI x)) (cdC w (nI x)) (cdD w (nI x))) (bsL P Q i j) (by first | assumption | omega | decide)) (cwV 2 C.ts gX3_ofKind_X3_kindOf rfl rfl rfl (by decide +kernel) ⟨Nat.le_of_ble_eq_true rfl, Nat.le_of_ble_eq_true rfl⟩) (q0 := 0) rfl rfl [0, 1] (by decide) rfl rfl (Nat.le_of_ble_eq_true rfl) rfl dX3_ofKind_147 ⟨Nat.zero_le _, Nat.zero_le _⟩) [0, 1] [] [0, 1] rfl rfl (by decide) (by decide) (by decide) rfl ?_
                refine s_iload_n C (pc := 150) dX3_ofKind_150 rfl 8 rfl ?_
                refine s_icmp_ne C (pc := 151) (tgt := 158) dX3_ofKind_151 (by decide) (fun c151 => ?_) (fun c151 => ?_)
                · skip
                  refine s_iconst C (pc := 158) (v := 0) dX3_ofKind_158 (by decide) ?_
                  refine s_istore C (pc := 159) (ls' := [(16, .int 0), (14, .long (psL P Q i j (cdA w (nI x)) (cdB w (nI x)) (cdC w (nI x)) (cdD w (nI x)))), (13, .int (cdD w (nI x))), (12, .int (cdC w (nI x))), (11, .int (cdB w (nI x))), (10, .int (cdA w (nI x))), (0, .ref mo), (1, .int (nI i)), (2, .int (nI j)), (3, .int kd), (4, .int ((okF P Q w f ll i j kd x).1)), (5, .long (bsL P Q i j)), (7, .int (nI w)), (8, .int (wdI w)), (9, .int (nI x))]) dX3_ofKind_159 (by decide) rfl ?_
                  refine s_iload C (pc := 161) dX3_ofKind_161 10 rfl ?_
                  refine s_iload C (pc := 163) dX3_ofKind_163 0 rfl ?_
                  refine s_if_eq C (pc := 165) (tgt := 172) dX3_ofKind_165 (by decide) (fun c165 => ?_) (fun h => absurd (by decide) h)
                  refine s_iconst C (pc := 172) (v := 0) dX3_ofKind_172 (by decide) ?_
                  refine s_iadd C (pc := 173) dX3_ofKind_173 ?_
                  refine s_top C (y := (okF P Q w f ll i j kd x).1) (Int32.add_zero _) ?_
                  refine s_istore C (pc := 174) (ls' := [(4, .int ((okF P Q w f ll i j kd x).1)), (16, .int 0), (14, .long (psL P Q i j (cdA w (nI x)) (cdB w (nI x)) (cdC w (nI x)) (cdD w (nI x)))), (13, .int (cdD w (nI x))), (12, .int (cdC w (nI x))), (11, .int (cdB w (nI x))), (10, .int (cdA w (nI x))), (0, .ref mo), (1, .int (nI i)), (2, .int (nI j)), (3, .int kd), (5, .long (bsL P Q i j)), (7, .int (nI w)), (8, .int (wdI w)), (9, .int (nI x))]) dX3_ofKind_174 (by decide) rfl ?_
                  refine s_aload_n C (pc := 176) dX3_ofKind_176 rfl 7 rfl ?_
                  refine s_iload C (pc := 177) dX3_ofKind_177 1 rfl ?_
                  refine s_if_eq C (pc := 179) (tgt := 208) dX3_ofKind_179 (by decide) (fun c179 => ?_) (fun h => absurd (by decide) h)
                  refine s_aload_n C (pc := 208) dX3_ofKind_208 rfl 7 rfl ?_
                  refine s_get C (pc := 209) (T := TX3) (N := 10) (fun _ h => (List.mem_cons_of_mem _ (List.mem_append_right _ h))) 0 rfl rfl 6 (by decide) (List.mem_of_getElem? (i := 1) rfl) rfl rfl dX3_ofKind_209 ?_
                  refine s_put C (pc := 212) (T := TX3) (N := 10) (ws' := [(mo, .inr (3, [.ref mp, .ref ms, .ref mt, .int sts, .int al, .ref mq, .long ((okF P Q w f ll i j kd x).2), .int wS, .int wo, .int fw])), (mp, .inl (X.2.1, 12, .inl (M)))]) (fun _ h => (List.mem_cons_of_mem _ (List.mem_append_right _ h))) 0 rfl rfl tyX3 tyX3_ok nmX3 6 (by decide) (List.mem_of_getElem? (i := 1) rfl) rfl rfl rfl rfl (Nat.le_of_ble_eq_true rfl) rfl dX3_ofKind_212 ?_
                  refine s_iinc C (pc := 215) (v := nI (x + 1)) (ls' := [(9, .int (nI (x + 1))), (4, .int ((okF P Q w f ll i j kd x).1)), (16, .int 0), (14, .long (psL P Q i j (cdA w (nI x)) (cdB w (nI x)) (cdC w (nI x)) (cdD w (nI x)))), (13, .int (cdD w (nI x))), (12, .int (cdC w (nI x))), (11, .int (cdB w (nI x))), (10, .int (cdA w (nI x))), (0, .ref mo), (1, .int (nI i)), (2, .int (nI j)), (3, .int kd), (5, .long (bsL P Q i j)), (7, .int (nI w)), (8, .int (wdI w))]) dX3_ofKind_215 14 rfl (nI_1 _) (by decide) rfl ?_
                  refine s_goto C (pc := 218) (tgt := 35) dX3_ofKind_218 (by decide) ?_
                  refine s_loc C (ls' := [(0, .ref mo), (1, .int (nI i)), (2, .int (nI j)), (3, .int kd), (4, .int ((okF P Q w f ll i j kd x).1)), (5, .long (bsL P Q i j)), (7, .int (nI w)), (8, .int (wdI w)), (9, .int (nI (x + 1)))]) [8, 9, 10, 11, 1, 12, 13, 14, 0] rfl ?_
                  have hb := ih35 (x + 1) (by omega) (by omega)
                  rw [show okF P Q w f ll i j kd (x + 1) = okF P Q w f ll i j kd x from (if_pos (Or.inr c113)).trans ((if_pos (Or.inr c123)).trans (if_neg c151))] at hb
                  exact hb
                · skip
                  refine s_iconst C (pc := 154) (v := 1) dX3_ofKind_154 (by decide) ?_
                  refine s_goto C (pc := 155) (tgt := 159) dX3_ofKind_155 (by decide) ?_
                  refine s_istore C (pc := 159) (ls' := [(16, .int 1), (14, .long (psL P Q i j (cdA w (nI x)) (cdB w (nI x)) (cdC w (nI x)) (cdD w (nI x)))), (13, .int (cdD w (nI x))), (12, .int (cdC w (nI x))), (11, .int (cdB w (nI x))), (10, .int (cdA w (nI x))), (0, .ref mo), (1, .int (nI i)), (2, .int (nI j)), (3, .int kd), (4, .int ((okF P Q w f ll i j kd x).1)), (5, .long (bsL P Q i j)), (7, .int (nI w)), (8, .int (wdI w)), (9, .int (nI x))]) dX3_ofKind_159 (by decide) rfl ?_
                  refine s_iload C (pc := 161) dX3_ofKind_161 10 rfl ?_
                  refine s_iload C (pc := 163) dX3_ofKind_163 0 rfl ?_
                  refine s_if_eq C (pc := 165) (tgt := 172) dX3_ofKind_165 (by decide) (fun h => absurd h (by decide)) (fun c165 => ?_)
                  refine s_iconst C (pc := 168) (v := 1) dX3_ofKind_168 (by decide) ?_
                  refine s_goto C (pc := 169) (tgt := 173) dX3_ofKind_169 (by decide) ?_
                  refine s_iadd C (pc := 173) dX3_ofKind_173 ?_
                  refine s_istore C (pc := 174) (ls' := [(4, .int (((okF P Q w f ll i j kd x).1) + 1)), (16, .int 1), (14, .long (psL P Q i j (cdA w (nI x)) (cdB w (nI x)) (cdC w (nI x)) (cdD w (nI x)))), (13, .int (cdD w (nI x))), (12, .int (cdC w (nI x))), (11, .int (cdB w (nI x))), (10, .int (cdA w (nI x))), (0, .ref mo), (1, .int (nI i)), (2, .int (nI j)), (3, .int kd), (5, .long (bsL P Q i j)), (7, .int (nI w)), (8, .int (wdI w)), (9, .int (nI x))]) dX3_ofKind_174 (by decide) rfl ?_
                  refine s_aload_n C (pc := 176) dX3_ofKind_176 rfl 7 rfl ?_
                  refine s_iload C (pc := 177) dX3_ofKind_177 1 rfl ?_
                  refine s_if_eq C (pc := 179) (tgt := 208) dX3_ofKind_179 (by decide) (fun h => absurd h (by decide)) (fun c179 => ?_)
                  refine s_iload_n C (pc := 182) dX3_ofKind_182 rfl 10 rfl ?_
                  refine s_iconst C (pc := 183) (v := 3) dX3_ofKind_183 (by decide) ?_
                  refine s_icmp_ne C (pc := 184) (tgt := 208) dX3_ofKind_184 (by decide) (fun c184 => ?_) (fun c184 => ?_)
                  · skip
                    refine s_aload_n C (pc := 208) dX3_ofKind_208 rfl 7 rfl ?_
                    refine s_get C (pc := 209) (T := TX3) (N := 10) (fun _ h => (List.mem_cons_of_mem _ (List.mem_append_right _ h))) 0 rfl rfl 6 (by decide) (List.mem_of_getElem? (i := 1) rfl) rfl rfl dX3_ofKind_209 ?_
                    refine s_put C (pc := 212) (T := TX3) (N := 10) (ws' := [(mo, .inr (3, [.ref mp, .ref ms, .ref mt, .int sts, .int al, .ref mq, .long ((okF P Q w f ll i j kd x).2), .int wS, .int wo, .int fw])), (mp, .inl (X.2.1, 12, .inl (M)))]) (fun _ h => (List.mem_cons_of_mem _ (List.mem_append_right _ h))) 0 rfl rfl tyX3 tyX3_ok nmX3 6 (by decide) (List.mem_of_getElem? (i := 1) rfl) rfl rfl rfl rfl (Nat.le_of_ble_eq_true rfl) rfl dX3_ofKind_212 ?_
                    refine s_iinc C (pc := 215) (v := nI (x + 1)) (ls' := [(9, .int (nI (x + 1))), (4, .int (((okF P Q w f ll i j kd x).1) + 1)), (16, .int 1), (14, .long (psL P Q i j (cdA w (nI x)) (cdB w (nI x)) (cdC w (nI x)) (cdD w (nI x)))), (13, .int (cdD w (nI x))), (12, .int (cdC w (nI x))), (11, .int (cdB w (nI x))), (10, .int (cdA w (nI x))), (0, .ref mo), (1, .int (nI i)), (2, .int (nI j)), (3, .int kd), (5, .long (bsL P Q i j)), (7, .int (nI w)), (8, .int (wdI w))]) dX3_ofKind_215 14 rfl (nI_1 _) (by decide) rfl ?_
                    refine s_goto C (pc := 218) (tgt := 35) dX3_ofKind_218 (by decide) ?_
                    refine s_loc C (ls' := [(0, .ref mo), (1, .int (nI i)), (2, .int (nI j)), (3, .int kd), (4, .int (((okF P Q w f ll i j kd x).1) + 1)), (5, .long (bsL P Q i j)), (7, .int (nI w)), (8, .int (wdI w)), (9, .int (nI (x + 1)))]) [8, 9, 10, 11, 1, 12, 13, 14, 0] rfl ?_
                    have hb := ih35 (x + 1) (by omega) (by omega)
                    rw [show okF P Q w f ll i j kd (x + 1) = ((okF P Q w f ll i j kd x).1 + 1, (okF P Q w f ll i j kd x).2) from (if_pos (Or.inr c113)).trans ((if_pos (Or.inr c123)).trans ((if_pos c151).trans (by rw [if_neg c184])))] at hb
                    exact hb
                  · skip
                    refine s_lload C (pc := 187) dX3_ofKind_187 11 rfl ?_
                    refine s_lload C (pc := 189) dX3_ofKind_189 2 rfl ?_
                    refine s_ldiv C (pc := 191) dX3_ofKind_191 (kdM_ne (v := kd) (by rw [c184]; decide) c151) ?_
                    refine s_aload_n C (pc := 192) dX3_ofKind_192 rfl 7 rfl ?_
                    refine s_get C (pc := 193) (T := TX3) (N := 10) (fun _ h => (List.mem_cons_of_mem _ (List.mem_append_right _ h))) 0 rfl rfl 6 (by decide) (List.mem_of_getElem? (i := 1) rfl) rfl rfl dX3_ofKind_193 ?_
                    refine s_lcmp_le C (pc := 196) (tgt := 208) dX3_ofKind_196 dX3_ofKind_197 (by decide) (fun c196 => ?_) (fun c196 => ?_)
                    · skip
                      refine s_aload_n C (pc := 208) dX3_ofKind_208 rfl 7 rfl ?_
                      refine s_get C (pc := 209) (T := TX3) (N := 10) (fun _ h => (List.mem_cons_of_mem _ (List.mem_append_right _ h))) 0 rfl rfl 6 (by decide) (List.mem_of_getElem? (i := 1) rfl) rfl rfl dX3_ofKind_209 ?_
                      refine s_put C (pc := 212) (T := TX3) (N := 10) (ws' := [(mo, .inr (3, [.ref mp, .ref ms, .ref mt, .int sts, .int al, .ref mq, .long ((okF P Q w f ll i j kd x).2), .int wS, .int wo, .int fw])), (mp, .inl (X.2.1, 12, .inl (M)))]) (fun _ h => (List.mem_cons_of_mem _ (List.mem_append_right _ h))) 0 rfl rfl tyX3 tyX3_ok nmX3 6 (by decide) (List.mem_of_getElem? (i := 1) rfl) rfl rfl rfl rfl (Nat.le_of_ble_eq_true rfl) rfl dX3_ofKind_212 ?_
                      refine s_iinc C (pc := 215) (v := nI (x + 1)) (ls' := [(9, .int (nI (x + 1))), (4, .int (((okF P Q w f ll i j kd x).1) + 1)), (16, .int 1), (14, .long (psL P Q i j (cdA w (nI x)) (cdB w (nI x)) (cdC w (nI x)) (cdD w (nI x)))), (13, .int (cdD w (nI x))), (12, .int (cdC w (nI x))), (11, .int (cdB w (nI x))), (10, .int (cdA w (nI x))), (0, .ref mo), (1, .int (nI i)), (2, .int (nI j)), (3, .int kd), (5, .long (bsL P Q i j)), (7, .int (nI w)), (8, .int (wdI w))]) dX3_ofKind_215 14 rfl (nI_1 _) (by decide) rfl ?_
                      refine s_goto C (pc := 218) (tgt := 35) dX3_ofKind_218 (by decide) ?_
                      refine s_loc C (ls' := [(0, .ref mo), (1, .int (nI i)), (2, .int (nI j)), (3, .int kd), (4, .int (((okF P Q w f ll i j kd x).1) + 1)), (5, .long (bsL P Q i j)), (7, .int (nI w)), (8, .int (wdI w)), (9, .int (nI (x + 1)))]) [8, 9, 10, 11, 1, 12, 13, 14, 0] rfl ?_
                      have hb := ih35 (x + 1) (by omega) (by omega)
                      rw [show okF P Q w f ll i j kd (x + 1) = ((okF P Q w f ll i j kd x).1 + 1, (okF P Q w f ll i j kd x).2) from (if_pos (Or.inr c113)).trans ((if_pos (Or.inr c123)).trans ((if_pos c151).trans (by rw [if_pos c184, if_pos c196])))] at hb
                      exact hb
                    · skip
                      refine s_lload C (pc := 200) dX3_ofKind_200 11 rfl ?_
                      refine s_lload C (pc := 202) dX3_ofKind_202 2 rfl ?_
                      refine s_ldiv C (pc := 204) dX3_ofKind_204 (kdM_ne (v := kd) (by rw [c184]; decide) c151) ?_
                      refine s_goto C (pc := 205) (tgt := 212) dX3_ofKind_205 (by decide) ?_
                      refine s_put C (pc := 212) (T := TX3) (N := 10) (ws' := [(mo, .inr (3, [.ref mp, .ref ms, .ref mt, .int sts, .int al, .ref mq, .long ((bsL P Q i j) / (psL P Q i j (cdA w (nI x)) (cdB w (nI x)) (cdC w (nI x)) (cdD w (nI x)))), .int wS, .int wo, .int fw])), (mp, .inl (X.2.1, 12, .inl (M)))]) (fun _ h => (List.mem_cons_of_mem _ (List.mem_append_right _ h))) 0 rfl rfl tyX3 tyX3_ok nmX3 6 (by decide) (List.mem_of_getElem? (i := 1) rfl) rfl rfl rfl rfl (Nat.le_of_ble_eq_true rfl) rfl dX3_ofKind_212 ?_
                      refine s_iinc C (pc := 215) (v := nI (x + 1)) (ls' := [(9, .int (nI (x + 1))), (4, .int (((okF P Q w f ll i j kd x).1) + 1)), (16, .int 1), (14, .long (psL P Q i j (cdA w (nI x)) (cdB w (nI x)) (cdC w (nI x)) (cdD w (nI x)))), (13, .int (cdD w (nI x))), (12, .int (cdC w (nI x))), (11, .int (cdB w (nI x))), (10, .int (cdA w (nI x))), (0, .ref mo), (1, .int (nI i)), (2, .int (nI j)), (3, .int kd), (5, .long (bsL P Q i j)), (7, .int (nI w)), (8, .int (wdI w))]) dX3_ofKind_215 14 rfl (nI_1 _) (by decide) rfl ?_
                      refine s_goto C (pc := 218) (tgt := 35) dX3_ofKind_218 (by decide) ?_
                      refine s_loc C (ls' := [(0, .ref mo), (1, .int (nI i)), (2, .int (nI j)), (3, .int kd), (4, .int (((okF P Q w f ll i j kd x).1) + 1)), (5, .long (bsL P Q i j)), (7, .int (nI w)), (8, .int (wdI w)), (9, .int (nI (x + 1)))]) [8, 9, 10, 11, 1, 12, 13, 14, 0] rfl ?_
                      have hb := ih35 (x + 1) (by omega) (by omega)
                      rw [show okF P Q w f ll i j kd (x + 1) = ((okF P Q w f ll i j kd x).1 + 1, bsL P Q i j / psL P Q i j (cdA w (nI x)) (cdB w (nI x)) (cdC w (nI x)) (cdD w (nI x))) from (if_pos (Or.inr c113)).trans ((if_pos (Or.inr c123)).trans ((if_pos c151).trans (by rw [if_pos c184, if_neg c196])))] at hb
                      exact hb
  refine s_loc C (ls' := [(0, .ref mo), (1, .int (nI i)), (2, .int (nI j)), (3, .int kd), (4, .int 0), (5, .long (bsL P Q i j)), (7, .int (nI w)), (8, .int (wdI w)), (9, .int 0)]) [5, 6, 7, 8, 4, 3, 2, 1, 0] rfl ?_
  exact L35 (wd4 w + 1) 0 (Nat.zero_le _) (by omega)

set_option maxHeartbeats 4000000 in
set_option maxRecDepth 100000 in
theorem kX3_bandsOfThree (l : Launch) (X : XT) (mo mp ms mt mq : Nat) (sts al : Int32) (wd : Int64) (wS wo fw : Int32) (M : Nat → Int32) (n : Nat) (P Q : Nat → Int32) (o f ll : Int32) (i j k : Nat) (hM : MR M n P Q o f ll) (hi : i < n) (hj : j < n) (hk : k < n) (hn : n ≤ 4) : KI l yX3_bandsOfThree wsX3_bandsOfThree ({ frames := 3, cells := 0, slots := 0, locals := 79 }) X [.ref mo, .int (nI i), .int (nI j), .int (nI k)] [(mo, .inr (3, [.ref mp, .ref ms, .ref mt, .int sts, .int al, .ref mq, .long wd, .int wS, .int wo, .int fw])), (mp, .inl (X.2.1, 12, .inl (M)))] [(mo, .inr (3, [.ref mp, .ref ms, .ref mt, .int sts, .int al, .ref mq, .long ((b3F P Q f ll i j k 64).2), .int wS, .int wo, .int fw])), (mp, .inl (X.2.1, 12, .inl (M)))] ((b3F P Q f ll i j k 64).1) := by
  refine k_ofI (cc := cX3_bandsOfThree) (own := RX3) (maxL := 11) (ret := (some .int)) (ls0 := [(0, .ref mo), (1, .int (nI i)), (2, .int (nI j)), (3, .int (nI k))]) (by decide) rfl rfl (Nat.le_of_ble_eq_true rfl) rfl ?_
  intro p e s m args below meth c A g C hr hlk
  refine s_iconst C (pc := 0) (v := 0) dX3_bandsOfThree_0 (by decide) ?_
  refine s_istore C (pc := 1) (ls' := [(4, .int 0), (0, .ref mo), (1, .int (nI i)), (2, .int (nI j)), (3, .int (nI k))]) dX3_bandsOfThree_1 (by decide) rfl ?_
  refine s_aload_n C (pc := 3) dX3_bandsOfThree_3 rfl 1 rfl ?_
  refine s_lconst C (pc := 4) (v := 0) dX3_bandsOfThree_4 (by decide) ?_
  refine s_put C (pc := 5) (T := TX3) (N := 10) (ws' := [(mo, .inr (3, [.ref mp, .ref ms, .ref mt, .int sts, .int al, .ref mq, .long 0, .int wS, .int wo, .int fw])), (mp, .inl (X.2.1, 12, .inl (M)))]) (fun _ h => (List.mem_cons_of_mem _ (List.mem_append_right _ h))) 0 rfl rfl tyX3 tyX3_ok nmX3 6 (by decide) (List.mem_of_getElem? (i := 1) rfl) rfl rfl rfl rfl (Nat.le_of_ble_eq_true rfl) rfl dX3_bandsOfThree_5 ?_
  refine s_aload_n C (pc := 8) dX3_bandsOfThree_8 rfl 1 rfl ?_
  refine s_iload_n C (pc := 9) dX3_bandsOfThree_9 rfl 2 rfl ?_
  refine s_iload_n C (pc := 10) dX3_bandsOfThree_10 rfl 3 rfl ?_
  refine s_iload_n C (pc := 11) dX3_bandsOfThree_11 rfl 4 rfl ?_
  refine s_calll C (pc := 12) (wr := []) (wc' := [(mo, .inr (3, [.ref mp, .ref ms, .ref mt, .int sts, .int al, .ref mq, .long 0, .int wS, .int wo, .int fw])), (mp, .inl (X.2.1, 12, .inl (M)))]) (wn := [(mo, .inr (3, [.ref mp, .ref ms, .ref mt, .int sts, .int al, .ref mq, .long 0, .int wS, .int wo, .int fw])), (mp, .inl (X.2.1, 12, .inl (M)))]) (r_V C (As := [.int (nI i), .int (nI j), .int (nI k)]) (rest := []) (kX3_tripleBase l X mo mp ms mt mq sts al 0 wS wo fw M n P Q o f ll i j k (by first | assumption | omega | decide) (by first | assumption | omega | decide) (by first | assumption | omega | decide) (by first | assumption | omega | decide) (by first | assumption | omega | decide)) (cwV 3 C.ts gX3_bandsOfThree_X3_tripleBase rfl rfl rfl (by decide +kernel) ⟨Nat.le_of_ble_eq_true rfl, Nat.le_of_ble_eq_true rfl⟩) (q0 := 0) rfl rfl [0, 1] (by decide) rfl rfl (Nat.le_of_ble_eq_true rfl) rfl dX3_bandsOfThree_12 ⟨Nat.zero_le _, Nat.zero_le _⟩) [0, 1] [] [0, 1] rfl rfl (by decide) (by decide) (by decide) rfl ?_
  refine s_lstore C (pc := 15) (ls' := [(5, .long (btL P Q i j k)), (4, .int 0), (0, .ref mo), (1, .int (nI i)), (2, .int (nI j)), (3, .int (nI k))]) dX3_bandsOfThree_15 (by decide) rfl ?_
  refine s_iconst C (pc := 17) (v := 0) dX3_bandsOfThree_17 (by decide) ?_
  refine s_istore C (pc := 18) (ls' := [(7, .int 0), (5, .long (btL P Q i j k)), (4, .int 0), (0, .ref mo), (1, .int (nI i)), (2, .int (nI j)), (3, .int (nI k))]) dX3_bandsOfThree_18 (by decide) rfl ?_
  have L20 : ∀ (n_ : Nat) (x : Nat), (x ≤ 64) → 65 ≤ x + n_ → g [(mo, .inr (3, [.ref mp, .ref ms, .ref mt, .int sts, .int al, .ref mq, .long ((b3F P Q f ll i j k x).2), .int wS, .int wo, .int fw])), (mp, .inl (X.2.1, 12, .inl (M)))] 20 [(0, .ref mo), (1, .int (nI i)), (2, .int (nI j)), (3, .int (nI k)), (4, .int ((b3F P Q f ll i j k x).1)), (5, .long (btL P Q i j k)), (7, .int (nI x))] [] := by
    intro n_
    induction n_ with
    | zero =>
      intro x hx hf
      exact absurd hf (by omega)
    | succ n_ ih20 =>
      intro x hx hf20
      refine s_iload C (pc := 20) dX3_bandsOfThree_20 6 rfl ?_
      refine s_bipush C (pc := 22) (v := 64) dX3_bandsOfThree_22 (by decide) ?_
      refine s_icmp_ge C (pc := 24) (tgt := 112) dX3_bandsOfThree_24 (by decide) (fun c24 => ?_) (fun c24 => ?_)
      · skip
        have e24 := nat_le (a := 64) (b := x) (by omega) (by omega) c24
        have hs0 : 64 = x := by omega
        subst hs0
        refine s_iload C (pc := 112) dX3_bandsOfThree_112 4 rfl ?_
        exact s_iret C (pc := 114) hr hlk [0, 1] (by decide) (rfl) (rfl) dX3_bandsOfThree_114
      · skip
        have e24 := nat_nle (a := 64) (b := x) (by omega) (by omega) c24
        refine s_aload_n C (pc := 27) dX3_bandsOfThree_27 rfl 0 rfl ?_
        refine s_iload_n C (pc := 28) dX3_bandsOfThree_28 rfl 1 rfl ?_
        refine s_iload_n C (pc := 29) dX3_bandsOfThree_29 rfl 2 rfl ?_
        refine s_iload_n C (pc := 30) dX3_bandsOfThree_30 rfl 3 rfl ?_
        refine s_iload C (pc := 31) dX3_bandsOfThree_31 6 rfl ?_
        refine s_calll C (pc := 33) (wr := []) (wc' := [(mo, .inr (3, [.ref mp, .ref ms, .ref mt, .int sts, .int al, .ref mq, .long ((b3F P Q f ll i j k x).2), .int wS, .int wo, .int fw])), (mp, .inl (X.2.1, 12, .inl (M)))]) (wn := [(mo, .inr (3, [.ref mp, .ref ms, .ref mt, .int sts, .int al, .ref mq, .long ((b3F P Q f ll i j k x).2), .int wS, .int wo, .int fw])), (mp, .inl (X.2.1, 12, .inl (M)))]) (r_V C (As := [.int (nI i), .int (nI j), .int (nI k), .int (nI x)]) (rest := []) (kX3_tripleSquare l X mo mp ms mt mq sts al ((b3F P Q f ll i j k x).2) wS wo fw M n P Q o f ll i j k (nI x) (by first | assumption | omega | decide) (by first | assumption | omega | decide) (by first | assumption | omega | decide) (by first | assumption | omega | decide) (by first | assumption | omega | decide)) (cwV 4 C.ts gX3_bandsOfThree_X3_tripleSquare rfl rfl rfl (by decide +kernel) ⟨Nat.le_of_ble_eq_true rfl, Nat.le_of_ble_eq_true rfl⟩) (q0 := 0) rfl rfl [0, 1] (by decide) rfl rfl (Nat.le_of_ble_eq_true rfl) rfl dX3_bandsOfThree_33 ⟨Nat.zero_le _, Nat.zero_le _⟩) [0, 1] [] [0, 1] rfl rfl (by decide) (by decide) (by decide) rfl ?_
        refine s_lstore C (pc := 36) (ls' := [(8, .long (tsL P Q i j k (nI x))), (0, .ref mo), (1, .int (nI i)), (2, .int (nI j)), (3, .int (nI k)), (4, .int ((b3F P Q f ll i j k x).1)), (5, .long (btL P Q i j k)), (7, .int (nI x))]) dX3_bandsOfThree_36 (by decide) rfl ?_
        refine s_aload_n C (pc := 38) dX3_bandsOfThree_38 rfl 1 rfl ?_
        refine s_lload C (pc := 39) dX3_bandsOfThree_39 0 rfl ?_
        refine s_lload C (pc := 41) dX3_bandsOfThree_41 6 rfl ?_
        refine s_calli C (pc := 43) (wr := []) (wc' := [(mo, .inr (3, [.ref mp, .ref ms, .ref mt, .int sts, .int al, .ref mq, .long ((b3F P Q f ll i j k x).2), .int wS, .int wo, .int fw])), (mp, .inl (X.2.1, 12, .inl (M)))]) (wn := [(mo, .inr (3, [.ref mp, .ref ms, .ref mt, .int sts, .int al, .ref mq, .long ((b3F P Q f ll i j k x).2), .int wS, .int wo, .int fw])), (mp, .inl (X.2.1, 12, .inl (M)))]) (r_V C (As := [.long (tsL P Q i j k (nI x)), .long (btL P Q i j k)]) (rest := []) (kX3_kindOf l X mo mp ms mt mq sts al ((b3F P Q f ll i j k x).2) wS wo fw M n P Q o f ll (tsL P Q i j k (nI x)) (btL P Q i j k) (by first | assumption | omega | decide)) (cwV 2 C.ts gX3_bandsOfThree_X3_kindOf rfl rfl rfl (by decide +kernel) ⟨Nat.le_of_ble_eq_true rfl, Nat.le_of_ble_eq_true rfl⟩) (q0 := 0) rfl rfl [0, 1] (by decide) rfl rfl (Nat.le_of_ble_eq_true rfl) rfl dX3_bandsOfThree_43 ⟨Nat.zero_le _, Nat.zero_le _⟩) [0, 1] [] [0, 1] rfl rfl (by decide) (by decide) (by decide) rfl ?_
        refine s_iconst C (pc := 46) (v := 3) dX3_bandsOfThree_46 (by decide) ?_
        refine s_icmp_ne C (pc := 47) (tgt := 54) dX3_bandsOfThree_47 (by decide) (fun c47 => ?_) (fun c47 => ?_)
        · skip
          refine s_iconst C (pc := 54) (v := 0) dX3_bandsOfThree_54 (by decide) ?_
          refine s_istore C (pc := 55) (ls' := [(10, .int 0), (8, .long (tsL P Q i j k (nI x))), (0, .ref mo), (1, .int (nI i)), (2, .int (nI j)), (3, .int (nI k)), (4, .int ((b3F P Q f ll i j k x).1)), (5, .long (btL P Q i j k)), (7, .int (nI x))]) dX3_bandsOfThree_55 (by decide) rfl ?_
          refine s_iload C (pc := 57) dX3_bandsOfThree_57 6 rfl ?_
          refine s_iload C (pc := 59) dX3_bandsOfThree_59 0 rfl ?_
          refine s_if_eq C (pc := 61) (tgt := 68) dX3_bandsOfThree_61 (by decide) (fun c61 => ?_) (fun h => absurd (by decide) h)
          refine s_iconst C (pc := 68) (v := 0) dX3_bandsOfThree_68 (by decide) ?_
          refine s_iadd C (pc := 69) dX3_bandsOfThree_69 ?_
          refine s_top C (y := (b3F P Q f ll i j k x).1) (Int32.add_zero _) ?_
          refine s_istore C (pc := 70) (ls' := [(4, .int ((b3F P Q f ll i j k x).1)), (10, .int 0), (8, .long (tsL P Q i j k (nI x))), (0, .ref mo), (1, .int (nI i)), (2, .int (nI j)), (3, .int (nI k)), (5, .long (btL P Q i j k)), (7, .int (nI x))]) dX3_bandsOfThree_70 (by decide) rfl ?_
          refine s_aload_n C (pc := 72) dX3_bandsOfThree_72 rfl 3 rfl ?_
          refine s_iload C (pc := 73) dX3_bandsOfThree_73 1 rfl ?_
          refine s_if_eq C (pc := 75) (tgt := 99) dX3_bandsOfThree_75 (by decide) (fun c75 => ?_) (fun h => absurd (by decide) h)
          refine s_aload_n C (pc := 99) dX3_bandsOfThree_99 rfl 3 rfl ?_
          refine s_get C (pc := 100) (T := TX3) (N := 10) (fun _ h => (List.mem_cons_of_mem _ (List.mem_append_right _ h))) 0 rfl rfl 6 (by decide) (List.mem_of_getElem? (i := 1) rfl) rfl rfl dX3_bandsOfThree_100 ?_
          refine s_put C (pc := 103) (T := TX3) (N := 10) (ws' := [(mo, .inr (3, [.ref mp, .ref ms, .ref mt, .int sts, .int al, .ref mq, .long ((b3F P Q f ll i j k x).2), .int wS, .int wo, .int fw])), (mp, .inl (X.2.1, 12, .inl (M)))]) (fun _ h => (List.mem_cons_of_mem _ (List.mem_append_right _ h))) 0 rfl rfl tyX3 tyX3_ok nmX3 6 (by decide) (List.mem_of_getElem? (i := 1) rfl) rfl rfl rfl rfl (Nat.le_of_ble_eq_true rfl) rfl dX3_bandsOfThree_103 ?_
          refine s_iinc C (pc := 106) (v := nI (x + 1)) (ls' := [(7, .int (nI (x + 1))), (4, .int ((b3F P Q f ll i j k x).1)), (10, .int 0), (8, .long (tsL P Q i j k (nI x))), (0, .ref mo), (1, .int (nI i)), (2, .int (nI j)), (3, .int (nI k)), (5, .long (btL P Q i j k))]) dX3_bandsOfThree_106 8 rfl (nI_1 _) (by decide) rfl ?_
          refine s_goto C (pc := 109) (tgt := 20) dX3_bandsOfThree_109 (by decide) ?_
          refine s_loc C (ls' := [(0, .ref mo), (1, .int (nI i)), (2, .int (nI j)), (3, .int (nI k)), (4, .int ((b3F P Q f ll i j k x).1)), (5, .long (btL P Q i j k)), (7, .int (nI (x + 1)))]) [4, 5, 6, 7, 1, 8, 0] rfl ?_
          have hb := ih20 (x + 1) (by omega) (by omega)
          rw [show b3F P Q f ll i j k (x + 1) = b3F P Q f ll i j k x from if_neg c47] at hb
          exact hb
        · skip
          refine s_iconst C (pc := 50) (v := 1) dX3_bandsOfThree_50 (by decide) ?_
          refine s_goto C (pc := 51) (tgt := 55) dX3_bandsOfThree_51 (by decide) ?_
          refine s_istore C (pc := 55) (ls' := [(10, .int 1), (8, .long (tsL P Q i j k (nI x))), (0, .ref mo), (1, .int (nI i)), (2, .int (nI j)), (3, .int (nI k)), (4, .int ((b3F P Q f ll i j k x).1)), (5, .long (btL P Q i j k)), (7, .int (nI x))]) dX3_bandsOfThree_55 (by decide) rfl ?_
          refine s_iload C (pc := 57) dX3_bandsOfThree_57 6 rfl ?_
          refine s_iload C (pc := 59) dX3_bandsOfThree_59 0 rfl ?_
          refine s_if_eq C (pc := 61) (tgt := 68) dX3_bandsOfThree_61 (by decide) (fun h => absurd h (by decide)) (fun c61 => ?_)
          refine s_iconst C (pc := 64) (v := 1) dX3_bandsOfThree_64 (by decide) ?_
          refine s_goto C (pc := 65) (tgt := 69) dX3_bandsOfThree_65 (by decide) ?_
          refine s_iadd C (pc := 69) dX3_bandsOfThree_69 ?_
          refine s_istore C (pc := 70) (ls' := [(4, .int (((b3F P Q f ll i j k x).1) + 1)), (10, .int 1), (8, .long (tsL P Q i j k (nI x))), (0, .ref mo), (1, .int (nI i)), (2, .int (nI j)), (3, .int (nI k)), (5, .long (btL P Q i j k)), (7, .int (nI x))]) dX3_bandsOfThree_70 (by decide) rfl ?_
          refine s_aload_n C (pc := 72) dX3_bandsOfThree_72 rfl 3 rfl ?_
          refine s_iload C (pc := 73) dX3_bandsOfThree_73 1 rfl ?_
          refine s_if_eq C (pc := 75) (tgt := 99) dX3_bandsOfThree_75 (by decide) (fun h => absurd h (by decide)) (fun c75 => ?_)
          refine s_lload C (pc := 78) dX3_bandsOfThree_78 7 rfl ?_
          refine s_lload C (pc := 80) dX3_bandsOfThree_80 2 rfl ?_
          refine s_ldiv C (pc := 82) dX3_bandsOfThree_82 (kdM_ne (by decide) c47) ?_
          refine s_aload_n C (pc := 83) dX3_bandsOfThree_83 rfl 3 rfl ?_
          refine s_get C (pc := 84) (T := TX3) (N := 10) (fun _ h => (List.mem_cons_of_mem _ (List.mem_append_right _ h))) 0 rfl rfl 6 (by decide) (List.mem_of_getElem? (i := 1) rfl) rfl rfl dX3_bandsOfThree_84 ?_
          refine s_lcmp_le C (pc := 87) (tgt := 99) dX3_bandsOfThree_87 dX3_bandsOfThree_88 (by decide) (fun c87 => ?_) (fun c87 => ?_)
          · skip
            refine s_aload_n C (pc := 99) dX3_bandsOfThree_99 rfl 3 rfl ?_
            refine s_get C (pc := 100) (T := TX3) (N := 10) (fun _ h => (List.mem_cons_of_mem _ (List.mem_append_right _ h))) 0 rfl rfl 6 (by decide) (List.mem_of_getElem? (i := 1) rfl) rfl rfl dX3_bandsOfThree_100 ?_
            refine s_put C (pc := 103) (T := TX3) (N := 10) (ws' := [(mo, .inr (3, [.ref mp, .ref ms, .ref mt, .int sts, .int al, .ref mq, .long ((b3F P Q f ll i j k x).2), .int wS, .int wo, .int fw])), (mp, .inl (X.2.1, 12, .inl (M)))]) (fun _ h => (List.mem_cons_of_mem _ (List.mem_append_right _ h))) 0 rfl rfl tyX3 tyX3_ok nmX3 6 (by decide) (List.mem_of_getElem? (i := 1) rfl) rfl rfl rfl rfl (Nat.le_of_ble_eq_true rfl) rfl dX3_bandsOfThree_103 ?_
            refine s_iinc C (pc := 106) (v := nI (x + 1)) (ls' := [(7, .int (nI (x + 1))), (4, .int (((b3F P Q f ll i j k x).1) + 1)), (10, .int 1), (8, .long (tsL P Q i j k (nI x))), (0, .ref mo), (1, .int (nI i)), (2, .int (nI j)), (3, .int (nI k)), (5, .long (btL P Q i j k))]) dX3_bandsOfThree_106 8 rfl (nI_1 _) (by decide) rfl ?_
            refine s_goto C (pc := 109) (tgt := 20) dX3_bandsOfThree_109 (by decide) ?_
            refine s_loc C (ls' := [(0, .ref mo), (1, .int (nI i)), (2, .int (nI j)), (3, .int (nI k)), (4, .int (((b3F P Q f ll i j k x).1) + 1)), (5, .long (btL P Q i j k)), (7, .int (nI (x + 1)))]) [4, 5, 6, 7, 1, 8, 0] rfl ?_
            have hb := ih20 (x + 1) (by omega) (by omega)
            rw [show b3F P Q f ll i j k (x + 1) = ((b3F P Q f ll i j k x).1 + 1, (b3F P Q f ll i j k x).2) from (if_pos c47).trans (by rw [if_pos c87])] at hb
            exact hb
          · skip
            refine s_lload C (pc := 91) dX3_bandsOfThree_91 7 rfl ?_
            refine s_lload C (pc := 93) dX3_bandsOfThree_93 2 rfl ?_
            refine s_ldiv C (pc := 95) dX3_bandsOfThree_95 (kdM_ne (by decide) c47) ?_
            refine s_goto C (pc := 96) (tgt := 103) dX3_bandsOfThree_96 (by decide) ?_
            refine s_put C (pc := 103) (T := TX3) (N := 10) (ws' := [(mo, .inr (3, [.ref mp, .ref ms, .ref mt, .int sts, .int al, .ref mq, .long ((btL P Q i j k) / (tsL P Q i j k (nI x))), .int wS, .int wo, .int fw])), (mp, .inl (X.2.1, 12, .inl (M)))]) (fun _ h => (List.mem_cons_of_mem _ (List.mem_append_right _ h))) 0 rfl rfl tyX3 tyX3_ok nmX3 6 (by decide) (List.mem_of_getElem? (i := 1) rfl) rfl rfl rfl rfl (Nat.le_of_ble_eq_true rfl) rfl dX3_bandsOfThree_103 ?_
            refine s_iinc C (pc := 106) (v := nI (x + 1)) (ls' := [(7, .int (nI (x + 1))), (4, .int (((b3F P Q f ll i j k x).1) + 1)), (10, .int 1), (8, .long (tsL P Q i j k (nI x))), (0, .ref mo), (1, .int (nI i)), (2, .int (nI j)), (3, .int (nI k)), (5, .long (btL P Q i j k))]) dX3_bandsOfThree_106 8 rfl (nI_1 _) (by decide) rfl ?_
            refine s_goto C (pc := 109) (tgt := 20) dX3_bandsOfThree_109 (by decide) ?_
            refine s_loc C (ls' := [(0, .ref mo), (1, .int (nI i)), (2, .int (nI j)), (3, .int (nI k)), (4, .int (((b3F P Q f ll i j k x).1) + 1)), (5, .long (btL P Q i j k)), (7, .int (nI (x + 1)))]) [4, 5, 6, 7, 1, 8, 0] rfl ?_
            have hb := ih20 (x + 1) (by omega) (by omega)
            rw [show b3F P Q f ll i j k (x + 1) = ((b3F P Q f ll i j k x).1 + 1, btL P Q i j k / tsL P Q i j k (nI x)) from (if_pos c47).trans (by rw [if_neg c87])] at hb
            exact hb
  refine s_loc C (ls' := [(0, .ref mo), (1, .int (nI i)), (2, .int (nI j)), (3, .int (nI k)), (4, .int 0), (5, .long (btL P Q i j k)), (7, .int 0)]) [3, 4, 5, 6, 2, 1, 0] rfl ?_
  exact L20 65 0 (Nat.zero_le _) (by omega)

set_option maxHeartbeats 4000000 in
set_option maxRecDepth 100000 in
theorem kX3_note (l : Launch) (X : XT) (mo mp ms mt mq : Nat) (sts al : Int32) (wd : Int64) (wS wo fw : Int32) (set : Int32) (q : Nat) (hq : wd = lN q) (hq2 : q < 360000000000000000) : KV l yX3_note wsX3_note ({ frames := 1, cells := 0, slots := 0, locals := 32 }) X [.ref mo, .int set] [(mo, .inr (3, [.ref mp, .ref ms, .ref mt, .int sts, .int al, .ref mq, .long wd, .int wS, .int wo, .int fw]))] [(mo, .inr (3, [.ref mp, .ref ms, .ref mt, .int sts, .int al, .ref mq, .long wd, .int ((ntF wd set (wo, wS)).2), .int ((ntF wd set (wo, wS)).1), .int fw]))] := by
  refine k_ofV (cc := cX3_note) (own := RX3) (maxL := 4) (ret := none) (ls0 := [(0, .ref mo), (1, .int set)]) (by decide) rfl rfl (Nat.le_of_ble_eq_true rfl) rfl ?_
  intro p e s m args below meth c A g C hr hlk
  refine s_aload_n C (pc := 0) dX3_note_0 rfl 0 rfl ?_
  refine s_get C (pc := 1) (T := TX3) (N := 10) (fun _ h => (List.mem_cons_of_mem _ (List.mem_append_right _ h))) 0 rfl rfl 6 (by decide) (List.mem_of_getElem? (i := 1) rfl) rfl rfl dX3_note_1 ?_
  refine s_lconst C (pc := 4) (v := 0) dX3_note_4 (by decide) ?_
  refine s_lcmp_ne C (pc := 5) (tgt := 14) dX3_note_5 dX3_note_6 (by decide) (fun c5 => ?_) (fun c5 => ?_)
  · skip
    refine s_lconst C (pc := 14) (v := 1) dX3_note_14 (by decide) ?_
    refine s_aload_n C (pc := 15) dX3_note_15 rfl 0 rfl ?_
    refine s_get C (pc := 16) (T := TX3) (N := 10) (fun _ h => (List.mem_cons_of_mem _ (List.mem_append_right _ h))) 0 rfl rfl 6 (by decide) (List.mem_of_getElem? (i := 1) rfl) rfl rfl dX3_note_16 ?_
    refine s_calli C (pc := 19) (wr := [(mo, .inr (3, [.ref mp, .ref ms, .ref mt, .int sts, .int al, .ref mq, .long wd, .int wS, .int wo, .int fw]))]) (wc' := []) (wn := [(mo, .inr (3, [.ref mp, .ref ms, .ref mt, .int sts, .int al, .ref mq, .long wd, .int wS, .int wo, .int fw]))]) (r_S C (As := [.long 1, .long wd]) (rest := []) (kX3_periodOf l X 1 wd q (by decide) (by rw [hq]; exact (pk_lDiv (a := q) (b := 1) (by omega) (by decide) (by decide)).trans (by rw [Nat.div_one])) (by first | assumption | omega | decide)) (va_cwS 2 C.ts gX3_note_X3_periodOf rfl rfl rfl (by decide +kernel) ⟨Nat.le_of_ble_eq_true rfl, Nat.le_of_ble_eq_true rfl⟩) [] (by decide) rfl rfl (Nat.le_of_ble_eq_true rfl) rfl dX3_note_19 ⟨Nat.zero_le _, Nat.zero_le _⟩) [] [0] [0] rfl rfl (by decide) (by decide) (by decide) rfl ?_
    refine s_istore_n C (pc := 22) (ls' := [(2, .int (nI (isq q))), (0, .ref mo), (1, .int set)]) dX3_note_22 rfl (by decide) rfl ?_
    refine s_iload_n C (pc := 23) dX3_note_23 rfl 0 rfl ?_
    refine s_aload_n C (pc := 24) dX3_note_24 rfl 1 rfl ?_
    refine s_get C (pc := 25) (T := TX3) (N := 10) (fun _ h => (List.mem_cons_of_mem _ (List.mem_append_right _ h))) 0 rfl rfl 8 (by decide) (List.mem_of_getElem? (i := 2) rfl) rfl rfl dX3_note_25 ?_
    refine s_icmp_le C (pc := 28) (tgt := 35) dX3_note_28 (by decide) (fun c28 => ?_) (fun c28 => ?_)
    · skip
      refine s_iconst C (pc := 35) (v := 0) dX3_note_35 (by decide) ?_
      refine s_istore_n C (pc := 36) (ls' := [(3, .int 0), (2, .int (nI (isq q))), (0, .ref mo), (1, .int set)]) dX3_note_36 rfl (by decide) rfl ?_
      refine s_aload_n C (pc := 37) dX3_note_37 rfl 2 rfl ?_
      refine s_iload_n C (pc := 38) dX3_note_38 rfl 0 rfl ?_
      refine s_if_eq C (pc := 39) (tgt := 46) dX3_note_39 (by decide) (fun c39 => ?_) (fun h => absurd (by decide) h)
      refine s_aload_n C (pc := 46) dX3_note_46 rfl 2 rfl ?_
      refine s_get C (pc := 47) (T := TX3) (N := 10) (fun _ h => (List.mem_cons_of_mem _ (List.mem_append_right _ h))) 0 rfl rfl 8 (by decide) (List.mem_of_getElem? (i := 2) rfl) rfl rfl dX3_note_47 ?_
      refine s_put C (pc := 50) (T := TX3) (N := 10) (ws' := [(mo, .inr (3, [.ref mp, .ref ms, .ref mt, .int sts, .int al, .ref mq, .long wd, .int wS, .int wo, .int fw]))]) (fun _ h => (List.mem_cons_of_mem _ (List.mem_append_right _ h))) 0 rfl rfl tyX3 tyX3_ok nmX3 8 (by decide) (List.mem_of_getElem? (i := 2) rfl) rfl rfl rfl rfl (Nat.le_of_ble_eq_true rfl) rfl dX3_note_50 ?_
      refine s_aload_n C (pc := 53) dX3_note_53 rfl 2 rfl ?_
      refine s_iload_n C (pc := 54) dX3_note_54 rfl 0 rfl ?_
      refine s_if_eq C (pc := 55) (tgt := 62) dX3_note_55 (by decide) (fun c55 => ?_) (fun h => absurd (by decide) h)
      refine s_aload_n C (pc := 62) dX3_note_62 rfl 2 rfl ?_
      refine s_get C (pc := 63) (T := TX3) (N := 10) (fun _ h => (List.mem_cons_of_mem _ (List.mem_append_right _ h))) 0 rfl rfl 7 (by decide) (List.mem_of_getElem? (i := 3) rfl) rfl rfl dX3_note_63 ?_
      refine s_put C (pc := 66) (T := TX3) (N := 10) (ws' := [(mo, .inr (3, [.ref mp, .ref ms, .ref mt, .int sts, .int al, .ref mq, .long wd, .int wS, .int wo, .int fw]))]) (fun _ h => (List.mem_cons_of_mem _ (List.mem_append_right _ h))) 0 rfl rfl tyX3 tyX3_ok nmX3 7 (by decide) (List.mem_of_getElem? (i := 3) rfl) rfl rfl rfl rfl (Nat.le_of_ble_eq_true rfl) rfl dX3_note_66 ?_
      have e1 : pdI wd = nI (isq q) := (if_neg c5).trans (by rw [hq, pk_lT (by omega)]; rfl)
      have e2 : ntF wd set (wo, wS) = (wo, wS) := if_pos (by rw [e1]; exact c28)
      exact s_vret C (pc := 69) hr hlk [0] (by decide) (by rw [e2]; rfl) dX3_note_69
    · skip
      refine s_iconst C (pc := 31) (v := 1) dX3_note_31 (by decide) ?_
      refine s_goto C (pc := 32) (tgt := 36) dX3_note_32 (by decide) ?_
      refine s_istore_n C (pc := 36) (ls' := [(3, .int 1), (2, .int (nI (isq q))), (0, .ref mo), (1, .int set)]) dX3_note_36 rfl (by decide) rfl ?_
      refine s_aload_n C (pc := 37) dX3_note_37 rfl 2 rfl ?_
      refine s_iload_n C (pc := 38) dX3_note_38 rfl 0 rfl ?_
      refine s_if_eq C (pc := 39) (tgt := 46) dX3_note_39 (by decide) (fun h => absurd h (by decide)) (fun c39 => ?_)
      refine s_iload_n C (pc := 42) dX3_note_42 rfl 1 rfl ?_
      refine s_goto C (pc := 43) (tgt := 50) dX3_note_43 (by decide) ?_
      refine s_put C (pc := 50) (T := TX3) (N := 10) (ws' := [(mo, .inr (3, [.ref mp, .ref ms, .ref mt, .int sts, .int al, .ref mq, .long wd, .int wS, .int (nI (isq q)), .int fw]))]) (fun _ h => (List.mem_cons_of_mem _ (List.mem_append_right _ h))) 0 rfl rfl tyX3 tyX3_ok nmX3 8 (by decide) (List.mem_of_getElem? (i := 2) rfl) rfl rfl rfl rfl (Nat.le_of_ble_eq_true rfl) rfl dX3_note_50 ?_
      refine s_aload_n C (pc := 53) dX3_note_53 rfl 2 rfl ?_
      refine s_iload_n C (pc := 54) dX3_note_54 rfl 0 rfl ?_
      refine s_if_eq C (pc := 55) (tgt := 62) dX3_note_55 (by decide) (fun h => absurd h (by decide)) (fun c55 => ?_)
      refine s_iload_n C (pc := 58) dX3_note_58 rfl 3 rfl ?_
      refine s_goto C (pc := 59) (tgt := 66) dX3_note_59 (by decide) ?_
      refine s_put C (pc := 66) (T := TX3) (N := 10) (ws' := [(mo, .inr (3, [.ref mp, .ref ms, .ref mt, .int sts, .int al, .ref mq, .long wd, .int set, .int (nI (isq q)), .int fw]))]) (fun _ h => (List.mem_cons_of_mem _ (List.mem_append_right _ h))) 0 rfl rfl tyX3 tyX3_ok nmX3 7 (by decide) (List.mem_of_getElem? (i := 3) rfl) rfl rfl rfl rfl (Nat.le_of_ble_eq_true rfl) rfl dX3_note_66 ?_
      have e1 : pdI wd = nI (isq q) := (if_neg c5).trans (by rw [hq, pk_lT (by omega)]; rfl)
      have e2 : ntF wd set (wo, wS) = (nI (isq q), set) := (if_neg (by rw [e1]; exact c28)).trans (by rw [e1])
      exact s_vret C (pc := 69) hr hlk [0] (by decide) (by rw [e2]; rfl) dX3_note_69
  · skip
    refine s_bipush C (pc := 9) (v := (-4)) dX3_note_9 (by decide) ?_
    refine s_goto C (pc := 11) (tgt := 22) dX3_note_11 (by decide) ?_
    refine s_istore_n C (pc := 22) (ls' := [(2, .int (-4)), (0, .ref mo), (1, .int set)]) dX3_note_22 rfl (by decide) rfl ?_
    refine s_iload_n C (pc := 23) dX3_note_23 rfl 0 rfl ?_
    refine s_aload_n C (pc := 24) dX3_note_24 rfl 1 rfl ?_
    refine s_get C (pc := 25) (T := TX3) (N := 10) (fun _ h => (List.mem_cons_of_mem _ (List.mem_append_right _ h))) 0 rfl rfl 8 (by decide) (List.mem_of_getElem? (i := 2) rfl) rfl rfl dX3_note_25 ?_
    refine s_icmp_le C (pc := 28) (tgt := 35) dX3_note_28 (by decide) (fun c28 => ?_) (fun c28 => ?_)
    · skip
      refine s_iconst C (pc := 35) (v := 0) dX3_note_35 (by decide) ?_
      refine s_istore_n C (pc := 36) (ls' := [(3, .int 0), (2, .int (-4)), (0, .ref mo), (1, .int set)]) dX3_note_36 rfl (by decide) rfl ?_
      refine s_aload_n C (pc := 37) dX3_note_37 rfl 2 rfl ?_
      refine s_iload_n C (pc := 38) dX3_note_38 rfl 0 rfl ?_
      refine s_if_eq C (pc := 39) (tgt := 46) dX3_note_39 (by decide) (fun c39 => ?_) (fun h => absurd (by decide) h)
      refine s_aload_n C (pc := 46) dX3_note_46 rfl 2 rfl ?_
      refine s_get C (pc := 47) (T := TX3) (N := 10) (fun _ h => (List.mem_cons_of_mem _ (List.mem_append_right _ h))) 0 rfl rfl 8 (by decide) (List.mem_of_getElem? (i := 2) rfl) rfl rfl dX3_note_47 ?_
      refine s_put C (pc := 50) (T := TX3) (N := 10) (ws' := [(mo, .inr (3, [.ref mp, .ref ms, .ref mt, .int sts, .int al, .ref mq, .long wd, .int wS, .int wo, .int fw]))]) (fun _ h => (List.mem_cons_of_mem _ (List.mem_append_right _ h))) 0 rfl rfl tyX3 tyX3_ok nmX3 8 (by decide) (List.mem_of_getElem? (i := 2) rfl) rfl rfl rfl rfl (Nat.le_of_ble_eq_true rfl) rfl dX3_note_50 ?_
      refine s_aload_n C (pc := 53) dX3_note_53 rfl 2 rfl ?_
      refine s_iload_n C (pc := 54) dX3_note_54 rfl 0 rfl ?_
      refine s_if_eq C (pc := 55) (tgt := 62) dX3_note_55 (by decide) (fun c55 => ?_) (fun h => absurd (by decide) h)
      refine s_aload_n C (pc := 62) dX3_note_62 rfl 2 rfl ?_
      refine s_get C (pc := 63) (T := TX3) (N := 10) (fun _ h => (List.mem_cons_of_mem _ (List.mem_append_right _ h))) 0 rfl rfl 7 (by decide) (List.mem_of_getElem? (i := 3) rfl) rfl rfl dX3_note_63 ?_
      refine s_put C (pc := 66) (T := TX3) (N := 10) (ws' := [(mo, .inr (3, [.ref mp, .ref ms, .ref mt, .int sts, .int al, .ref mq, .long wd, .int wS, .int wo, .int fw]))]) (fun _ h => (List.mem_cons_of_mem _ (List.mem_append_right _ h))) 0 rfl rfl tyX3 tyX3_ok nmX3 7 (by decide) (List.mem_of_getElem? (i := 3) rfl) rfl rfl rfl rfl (Nat.le_of_ble_eq_true rfl) rfl dX3_note_66 ?_
      have e1 : pdI wd = -4 := if_pos c5
      have e2 : ntF wd set (wo, wS) = (wo, wS) := if_pos (by rw [e1]; exact c28)
      exact s_vret C (pc := 69) hr hlk [0] (by decide) (by rw [e2]; rfl) dX3_note_69
    · skip
      refine s_iconst C (pc := 31) (v := 1) dX3_note_31 (by decide) ?_
      refine s_goto C (pc := 32) (tgt := 36) dX3_note_32 (by decide) ?_
      refine s_istore_n C (pc := 36) (ls' := [(3, .int 1), (2, .int (-4)), (0, .ref mo), (1, .int set)]) dX3_note_36 rfl (by decide) rfl ?_
      refine s_aload_n C (pc := 37) dX3_note_37 rfl 2 rfl ?_
      refine s_iload_n C (pc := 38) dX3_note_38 rfl 0 rfl ?_
      refine s_if_eq C (pc := 39) (tgt := 46) dX3_note_39 (by decide) (fun h => absurd h (by decide)) (fun c39 => ?_)
      refine s_iload_n C (pc := 42) dX3_note_42 rfl 1 rfl ?_
      refine s_goto C (pc := 43) (tgt := 50) dX3_note_43 (by decide) ?_
      refine s_put C (pc := 50) (T := TX3) (N := 10) (ws' := [(mo, .inr (3, [.ref mp, .ref ms, .ref mt, .int sts, .int al, .ref mq, .long wd, .int wS, .int (-4), .int fw]))]) (fun _ h => (List.mem_cons_of_mem _ (List.mem_append_right _ h))) 0 rfl rfl tyX3 tyX3_ok nmX3 8 (by decide) (List.mem_of_getElem? (i := 2) rfl) rfl rfl rfl rfl (Nat.le_of_ble_eq_true rfl) rfl dX3_note_50 ?_
      refine s_aload_n C (pc := 53) dX3_note_53 rfl 2 rfl ?_
      refine s_iload_n C (pc := 54) dX3_note_54 rfl 0 rfl ?_
      refine s_if_eq C (pc := 55) (tgt := 62) dX3_note_55 (by decide) (fun h => absurd h (by decide)) (fun c55 => ?_)
      refine s_iload_n C (pc := 58) dX3_note_58 rfl 3 rfl ?_
      refine s_goto C (pc := 59) (tgt := 66) dX3_note_59 (by decide) ?_
      refine s_put C (pc := 66) (T := TX3) (N := 10) (ws' := [(mo, .inr (3, [.ref mp, .ref ms, .ref mt, .int sts, .int al, .ref mq, .long wd, .int set, .int (-4), .int fw]))]) (fun _ h => (List.mem_cons_of_mem _ (List.mem_append_right _ h))) 0 rfl rfl tyX3 tyX3_ok nmX3 7 (by decide) (List.mem_of_getElem? (i := 3) rfl) rfl rfl rfl rfl (Nat.le_of_ble_eq_true rfl) rfl dX3_note_66 ?_
      have e1 : pdI wd = -4 := if_pos c5
      have e2 : ntF wd set (wo, wS) = (-4, set) := (if_neg (by rw [e1]; exact c28)).trans (by rw [e1])
      exact s_vret C (pc := 69) hr hlk [0] (by decide) (by rw [e2]; rfl) dX3_note_69

set_option maxHeartbeats 4000000 in
set_option maxRecDepth 100000 in
theorem kX3_locked_bad (l : Launch) (X : XT) (mo mp ms mt mq : Nat) (sts al : Int32) (wd : Int64) (wS wo fw : Int32) (M : Nat → Int32) (n : Nat) (P Q : Nat → Int32) (o f ll : Int32) (i j : Int32) (hb : ¬ hpP n i j) (hM : MR M n P Q o f ll) (hn : n ≤ 4) : KI l yX3_locked wsX3_locked ({ frames := 3, cells := 0, slots := 0, locals := 65 }) X [.ref mo, .int i, .int j] [(mo, .inr (3, [.ref mp, .ref ms, .ref mt, .int sts, .int al, .ref mq, .long wd, .int wS, .int wo, .int fw])), (mp, .inl (X.2.1, 12, .inl (M)))] [(mo, .inr (3, [.ref mp, .ref ms, .ref mt, .int sts, .int al, .ref mq, .long wd, .int wS, .int wo, .int fw])), (mp, .inl (X.2.1, 12, .inl (M)))] (-1) := by
  refine k_ofI (cc := cX3_locked) (own := RX3) (maxL := 3) (ret := (some .int)) (ls0 := [(0, .ref mo), (1, .int i), (2, .int j)]) (by decide) rfl rfl (Nat.le_of_ble_eq_true rfl) rfl ?_
  intro p e s m args below meth c A g C hr hlk
  refine s_aload_n C (pc := 0) dX3_locked_0 rfl 0 rfl ?_
  refine s_iload_n C (pc := 1) dX3_locked_1 rfl 1 rfl ?_
  refine s_iload_n C (pc := 2) dX3_locked_2 rfl 2 rfl ?_
  refine s_calli C (pc := 3) (wr := []) (wc' := [(mo, .inr (3, [.ref mp, .ref ms, .ref mt, .int sts, .int al, .ref mq, .long wd, .int wS, .int wo, .int fw])), (mp, .inl (X.2.1, 12, .inl (M)))]) (wn := [(mo, .inr (3, [.ref mp, .ref ms, .ref mt, .int sts, .int al, .ref mq, .long wd, .int wS, .int wo, .int fw])), (mp, .inl (X.2.1, 12, .inl (M)))]) (r_V C (As := [.int i, .int j]) (rest := []) (kX3_isPair l X mo mp ms mt mq sts al wd wS wo fw M n P Q o f ll i j (by first | assumption | omega | decide) (by first | assumption | omega | decide)) (cwV 2 C.ts gX3_locked_X3_isPair rfl rfl rfl (by decide +kernel) ⟨Nat.le_of_ble_eq_true rfl, Nat.le_of_ble_eq_true rfl⟩) (q0 := 0) rfl rfl [0, 1] (by decide) rfl rfl (Nat.le_of_ble_eq_true rfl) rfl dX3_locked_3 ⟨Nat.zero_le _, Nat.zero_le _⟩) [0, 1] [] [0, 1] rfl rfl (by decide) (by decide) (by decide) rfl ?_
  refine s_bif_eq C (pc := 6) (tgt := 19) dX3_locked_6 (by decide) (fun c6 => ?_) (fun h => absurd h (hb))
  refine s_iconst C (pc := 19) (v := (-1)) dX3_locked_19 (by decide) ?_
  exact s_iret C (pc := 20) hr hlk [0, 1] (by decide) (rfl) (rfl) dX3_locked_20

set_option maxHeartbeats 4000000 in
set_option maxRecDepth 100000 in
theorem kX3_locked_ok (l : Launch) (X : XT) (mo mp ms mt mq : Nat) (sts al : Int32) (wd : Int64) (wS wo fw : Int32) (M : Nat → Int32) (n : Nat) (P Q : Nat → Int32) (w : Nat) (f ll : Int32) (i j : Nat) (hij : i < j) (hj : j < n) (hM : MR M n P Q (nI w) f ll) (hn : n ≤ 4) (hw : w = 1 ∨ w = 2) : KIx l yX3_locked wsX3_locked ({ frames := 4, cells := 0, slots := 0, locals := 112 }) X [.ref mo, .int (nI i), .int (nI j)] [(mo, .inr (3, [.ref mp, .ref ms, .ref mt, .int sts, .int al, .ref mq, .long wd, .int wS, .int wo, .int fw])), (mp, .inl (X.2.1, 12, .inl (M)))] (fun u : Int32 × Int64 × Int32 × Int32 × Int32 => [(mo, .inr (3, [.ref mp, .ref ms, .ref mt, .int sts, .int u.1, .ref mq, .long u.2.1, .int u.2.2.1, .int u.2.2.2.1, .int u.2.2.2.2])), (mp, .inl (X.2.1, 12, .inl (M)))]) (fun _ => True) ((okF P Q w f ll i j 0 (wd4 w)).1) := by
  refine k_ofIx (cc := cX3_locked) (own := RX3) (maxL := 3) (ret := (some .int)) (ls0 := [(0, .ref mo), (1, .int (nI i)), (2, .int (nI j))]) (by decide) rfl rfl (Nat.le_of_ble_eq_true rfl) rfl ?_
  intro p e s m args below meth c A g C hr hlk
  refine s_aload_n C (pc := 0) dX3_locked_0 rfl 0 rfl ?_
  refine s_iload_n C (pc := 1) dX3_locked_1 rfl 1 rfl ?_
  refine s_iload_n C (pc := 2) dX3_locked_2 rfl 2 rfl ?_
  refine s_calli C (pc := 3) (wr := []) (wc' := [(mo, .inr (3, [.ref mp, .ref ms, .ref mt, .int sts, .int al, .ref mq, .long wd, .int wS, .int wo, .int fw])), (mp, .inl (X.2.1, 12, .inl (M)))]) (wn := [(mo, .inr (3, [.ref mp, .ref ms, .ref mt, .int sts, .int al, .ref mq, .long wd, .int wS, .int wo, .int fw])), (mp, .inl (X.2.1, 12, .inl (M)))]) (r_V C (As := [.int (nI i), .int (nI j)]) (rest := []) (kX3_isPair l X mo mp ms mt mq sts al wd wS wo fw M n P Q (nI w) f ll (nI i) (nI j) (by first | assumption | omega | decide) (by first | assumption | omega | decide)) (cwV 2 C.ts gX3_locked_X3_isPair rfl rfl rfl (by decide +kernel) ⟨Nat.le_of_ble_eq_true rfl, Nat.le_of_ble_eq_true rfl⟩) (q0 := 0) rfl rfl [0, 1] (by decide) rfl rfl (Nat.le_of_ble_eq_true rfl) rfl dX3_locked_3 ⟨Nat.zero_le _, Nat.zero_le _⟩) [0, 1] [] [0, 1] rfl rfl (by decide) (by decide) (by decide) rfl ?_
  refine s_bif_eq C (pc := 6) (tgt := 19) dX3_locked_6 (by decide) (fun h => absurd (hp_of hij hj (by omega)) h) (fun c6 => ?_)
  refine s_aload_n C (pc := 9) dX3_locked_9 rfl 0 rfl ?_
  refine s_iload_n C (pc := 10) dX3_locked_10 rfl 1 rfl ?_
  refine s_iload_n C (pc := 11) dX3_locked_11 rfl 2 rfl ?_
  refine s_iconst C (pc := 12) (v := 0) dX3_locked_12 (by decide) ?_
  refine s_calli C (pc := 13) (wr := []) (wc' := [(mo, .inr (3, [.ref mp, .ref ms, .ref mt, .int sts, .int al, .ref mq, .long ((okF P Q w f ll i j 0 (wd4 w)).2), .int wS, .int wo, .int fw])), (mp, .inl (X.2.1, 12, .inl (M)))]) (wn := [(mo, .inr (3, [.ref mp, .ref ms, .ref mt, .int sts, .int al, .ref mq, .long ((okF P Q w f ll i j 0 (wd4 w)).2), .int wS, .int wo, .int fw])), (mp, .inl (X.2.1, 12, .inl (M)))]) (r_V C (As := [.int (nI i), .int (nI j), .int 0]) (rest := []) (kX3_ofKind l X mo mp ms mt mq sts al wd wS wo fw M n P Q w f ll i j 0 (by first | assumption | omega | decide) (by first | assumption | omega | decide) (by first | assumption | omega | decide) (by first | assumption | omega | decide) (by first | assumption | omega | decide)) (cwV 3 C.ts gX3_locked_X3_ofKind rfl rfl rfl (by decide +kernel) ⟨Nat.le_of_ble_eq_true rfl, Nat.le_of_ble_eq_true rfl⟩) (q0 := 0) rfl rfl [0, 1] (by decide) rfl rfl (Nat.le_of_ble_eq_true rfl) rfl dX3_locked_13 ⟨Nat.zero_le _, Nat.zero_le _⟩) [0, 1] [] [0, 1] rfl rfl (by decide) (by decide) (by decide) rfl ?_
  refine s_goto C (pc := 16) (tgt := 20) dX3_locked_16 (by decide) ?_
  exact s_iretX C (pc := 20) hr hlk ((al, (okF P Q w f ll i j 0 (wd4 w)).2, wS, wo, fw)) trivial [0, 1] (by decide) (rfl) (rfl) dX3_locked_20

set_option maxHeartbeats 4000000 in
set_option maxRecDepth 100000 in
theorem kX3_bands_bad (l : Launch) (X : XT) (mo mp ms mt mq : Nat) (sts al : Int32) (wd : Int64) (wS wo fw : Int32) (M : Nat → Int32) (n : Nat) (P Q : Nat → Int32) (o f ll : Int32) (i j : Int32) (hb : ¬ hpP n i j) (hM : MR M n P Q o f ll) (hn : n ≤ 4) : KI l yX3_bands wsX3_bands ({ frames := 3, cells := 0, slots := 0, locals := 65 }) X [.ref mo, .int i, .int j] [(mo, .inr (3, [.ref mp, .ref ms, .ref mt, .int sts, .int al, .ref mq, .long wd, .int wS, .int wo, .int fw])), (mp, .inl (X.2.1, 12, .inl (M)))] [(mo, .inr (3, [.ref mp, .ref ms, .ref mt, .int sts, .int al, .ref mq, .long wd, .int wS, .int wo, .int fw])), (mp, .inl (X.2.1, 12, .inl (M)))] (-1) := by
  refine k_ofI (cc := cX3_bands) (own := RX3) (maxL := 3) (ret := (some .int)) (ls0 := [(0, .ref mo), (1, .int i), (2, .int j)]) (by decide) rfl rfl (Nat.le_of_ble_eq_true rfl) rfl ?_
  intro p e s m args below meth c A g C hr hlk
  refine s_aload_n C (pc := 0) dX3_bands_0 rfl 0 rfl ?_
  refine s_iload_n C (pc := 1) dX3_bands_1 rfl 1 rfl ?_
  refine s_iload_n C (pc := 2) dX3_bands_2 rfl 2 rfl ?_
  refine s_calli C (pc := 3) (wr := []) (wc' := [(mo, .inr (3, [.ref mp, .ref ms, .ref mt, .int sts, .int al, .ref mq, .long wd, .int wS, .int wo, .int fw])), (mp, .inl (X.2.1, 12, .inl (M)))]) (wn := [(mo, .inr (3, [.ref mp, .ref ms, .ref mt, .int sts, .int al, .ref mq, .long wd, .int wS, .int wo, .int fw])), (mp, .inl (X.2.1, 12, .inl (M)))]) (r_V C (As := [.int i, .int j]) (rest := []) (kX3_isPair l X mo mp ms mt mq sts al wd wS wo fw M n P Q o f ll i j (by first | assumption | omega | decide) (by first | assumption | omega | decide)) (cwV 2 C.ts gX3_bands_X3_isPair rfl rfl rfl (by decide +kernel) ⟨Nat.le_of_ble_eq_true rfl, Nat.le_of_ble_eq_true rfl⟩) (q0 := 0) rfl rfl [0, 1] (by decide) rfl rfl (Nat.le_of_ble_eq_true rfl) rfl dX3_bands_3 ⟨Nat.zero_le _, Nat.zero_le _⟩) [0, 1] [] [0, 1] rfl rfl (by decide) (by decide) (by decide) rfl ?_
  refine s_bif_eq C (pc := 6) (tgt := 19) dX3_bands_6 (by decide) (fun c6 => ?_) (fun h => absurd h (hb))
  refine s_iconst C (pc := 19) (v := (-1)) dX3_bands_19 (by decide) ?_
  exact s_iret C (pc := 20) hr hlk [0, 1] (by decide) (rfl) (rfl) dX3_bands_20

set_option maxHeartbeats 4000000 in
set_option maxRecDepth 100000 in
theorem kX3_bands_ok (l : Launch) (X : XT) (mo mp ms mt mq : Nat) (sts al : Int32) (wd : Int64) (wS wo fw : Int32) (M : Nat → Int32) (n : Nat) (P Q : Nat → Int32) (w : Nat) (f ll : Int32) (i j : Nat) (hij : i < j) (hj : j < n) (hM : MR M n P Q (nI w) f ll) (hn : n ≤ 4) (hw : w = 1 ∨ w = 2) : KIx l yX3_bands wsX3_bands ({ frames := 4, cells := 0, slots := 0, locals := 112 }) X [.ref mo, .int (nI i), .int (nI j)] [(mo, .inr (3, [.ref mp, .ref ms, .ref mt, .int sts, .int al, .ref mq, .long wd, .int wS, .int wo, .int fw])), (mp, .inl (X.2.1, 12, .inl (M)))] (fun u : Int32 × Int64 × Int32 × Int32 × Int32 => [(mo, .inr (3, [.ref mp, .ref ms, .ref mt, .int sts, .int u.1, .ref mq, .long u.2.1, .int u.2.2.1, .int u.2.2.2.1, .int u.2.2.2.2])), (mp, .inl (X.2.1, 12, .inl (M)))]) (fun _ => True) ((okF P Q w f ll i j 3 (wd4 w)).1) := by
  refine k_ofIx (cc := cX3_bands) (own := RX3) (maxL := 3) (ret := (some .int)) (ls0 := [(0, .ref mo), (1, .int (nI i)), (2, .int (nI j))]) (by decide) rfl rfl (Nat.le_of_ble_eq_true rfl) rfl ?_
  intro p e s m args below meth c A g C hr hlk
  refine s_aload_n C (pc := 0) dX3_bands_0 rfl 0 rfl ?_
  refine s_iload_n C (pc := 1) dX3_bands_1 rfl 1 rfl ?_
  refine s_iload_n C (pc := 2) dX3_bands_2 rfl 2 rfl ?_
  refine s_calli C (pc := 3) (wr := []) (wc' := [(mo, .inr (3, [.ref mp, .ref ms, .ref mt, .int sts, .int al, .ref mq, .long wd, .int wS, .int wo, .int fw])), (mp, .inl (X.2.1, 12, .inl (M)))]) (wn := [(mo, .inr (3, [.ref mp, .ref ms, .ref mt, .int sts, .int al, .ref mq, .long wd, .int wS, .int wo, .int fw])), (mp, .inl (X.2.1, 12, .inl (M)))]) (r_V C (As := [.int (nI i), .int (nI j)]) (rest := []) (kX3_isPair l X mo mp ms mt mq sts al wd wS wo fw M n P Q (nI w) f ll (nI i) (nI j) (by first | assumption | omega | decide) (by first | assumption | omega | decide)) (cwV 2 C.ts gX3_bands_X3_isPair rfl rfl rfl (by decide +kernel) ⟨Nat.le_of_ble_eq_true rfl, Nat.le_of_ble_eq_true rfl⟩) (q0 := 0) rfl rfl [0, 1] (by decide) rfl rfl (Nat.le_of_ble_eq_true rfl) rfl dX3_bands_3 ⟨Nat.zero_le _, Nat.zero_le _⟩) [0, 1] [] [0, 1] rfl rfl (by decide) (by decide) (by decide) rfl ?_
  refine s_bif_eq C (pc := 6) (tgt := 19) dX3_bands_6 (by decide) (fun h => absurd (hp_of hij hj (by omega)) h) (fun c6 => ?_)
  refine s_aload_n C (pc := 9) dX3_bands_9 rfl 0 rfl ?_
  refine s_iload_n C (pc := 10) dX3_bands_10 rfl 1 rfl ?_
  refine s_iload_n C (pc := 11) dX3_bands_11 rfl 2 rfl ?_
  refine s_iconst C (pc := 12) (v := 3) dX3_bands_12 (by decide) ?_
  refine s_calli C (pc := 13) (wr := []) (wc' := [(mo, .inr (3, [.ref mp, .ref ms, .ref mt, .int sts, .int al, .ref mq, .long ((okF P Q w f ll i j 3 (wd4 w)).2), .int wS, .int wo, .int fw])), (mp, .inl (X.2.1, 12, .inl (M)))]) (wn := [(mo, .inr (3, [.ref mp, .ref ms, .ref mt, .int sts, .int al, .ref mq, .long ((okF P Q w f ll i j 3 (wd4 w)).2), .int wS, .int wo, .int fw])), (mp, .inl (X.2.1, 12, .inl (M)))]) (r_V C (As := [.int (nI i), .int (nI j), .int 3]) (rest := []) (kX3_ofKind l X mo mp ms mt mq sts al wd wS wo fw M n P Q w f ll i j 3 (by first | assumption | omega | decide) (by first | assumption | omega | decide) (by first | assumption | omega | decide) (by first | assumption | omega | decide) (by first | assumption | omega | decide)) (cwV 3 C.ts gX3_bands_X3_ofKind rfl rfl rfl (by decide +kernel) ⟨Nat.le_of_ble_eq_true rfl, Nat.le_of_ble_eq_true rfl⟩) (q0 := 0) rfl rfl [0, 1] (by decide) rfl rfl (Nat.le_of_ble_eq_true rfl) rfl dX3_bands_13 ⟨Nat.zero_le _, Nat.zero_le _⟩) [0, 1] [] [0, 1] rfl rfl (by decide) (by decide) (by decide) rfl ?_
  refine s_goto C (pc := 16) (tgt := 20) dX3_bands_16 (by decide) ?_
  exact s_iretX C (pc := 20) hr hlk ((al, (okF P Q w f ll i j 3 (wd4 w)).2, wS, wo, fw)) trivial [0, 1] (by decide) (rfl) (rfl) dX3_bands_20

set_option maxHeartbeats 4000000 in
set_option maxRecDepth 100000 in
theorem kX3_tripleBands_bad (l : Launch) (X : XT) (mo mp ms mt mq : Nat) (sts al : Int32) (wd : Int64) (wS wo fw : Int32) (M : Nat → Int32) (n : Nat) (P Q : Nat → Int32) (o f ll : Int32) (i j k : Int32) (hb : ¬ (hpP n i j ∧ hpP n j k)) (hM : MR M n P Q o f ll) (hn : n ≤ 4) : KI l yX3_tripleBands wsX3_tripleBands ({ frames := 3, cells := 0, slots := 0, locals := 65 }) X [.ref mo, .int i, .int j, .int k] [(mo, .inr (3, [.ref mp, .ref ms, .ref mt, .int sts, .int al, .ref mq, .long wd, .int wS, .int wo, .int fw])), (mp, .inl (X.2.1, 12, .inl (M)))] [(mo, .inr (3, [.ref mp, .ref ms, .ref mt, .int sts, .int al, .ref mq, .long wd, .int wS, .int wo, .int fw])), (mp, .inl (X.2.1, 12, .inl (M)))] (-1) := by
  refine k_ofI (cc := cX3_tripleBands) (own := RX3) (maxL := 4) (ret := (some .int)) (ls0 := [(0, .ref mo), (1, .int i), (2, .int j), (3, .int k)]) (by decide) rfl rfl (Nat.le_of_ble_eq_true rfl) rfl ?_
  intro p e s m args below meth c A g C hr hlk
  refine s_aload_n C (pc := 0) dX3_tripleBands_0 rfl 0 rfl ?_
  refine s_iload_n C (pc := 1) dX3_tripleBands_1 rfl 1 rfl ?_
  refine s_iload_n C (pc := 2) dX3_tripleBands_2 rfl 2 rfl ?_
  refine s_calli C (pc := 3) (wr := []) (wc' := [(mo, .inr (3, [.ref mp, .ref ms, .ref mt, .int sts, .int al, .ref mq, .long wd, .int wS, .int wo, .int fw])), (mp, .inl (X.2.1, 12, .inl (M)))]) (wn := [(mo, .inr (3, [.ref mp, .ref ms, .ref mt, .int sts, .int al, .ref mq, .long wd, .int wS, .int wo, .int fw])), (mp, .inl (X.2.1, 12, .inl (M)))]) (r_V C (As := [.int i, .int j]) (rest := []) (kX3_isPair l X mo mp ms mt mq sts al wd wS wo fw M n P Q o f ll i j (by first | assumption | omega | decide) (by first | assumption | omega | decide)) (cwV 2 C.ts gX3_tripleBands_X3_isPair rfl rfl rfl (by decide +kernel) ⟨Nat.le_of_ble_eq_true rfl, Nat.le_of_ble_eq_true rfl⟩) (q0 := 0) rfl rfl [0, 1] (by decide) rfl rfl (Nat.le_of_ble_eq_true rfl) rfl dX3_tripleBands_3 ⟨Nat.zero_le _, Nat.zero_le _⟩) [0, 1] [] [0, 1] rfl rfl (by decide) (by decide) (by decide) rfl ?_
  refine s_bif_eq C (pc := 6) (tgt := 28) dX3_tripleBands_6 (by decide) (fun c6 => ?_) (fun c6 => ?_)
  · skip
    refine s_iconst C (pc := 28) (v := (-1)) dX3_tripleBands_28 (by decide) ?_
    exact s_iret C (pc := 29) hr hlk [0, 1] (by decide) (rfl) (rfl) dX3_tripleBands_29
  · skip
    refine s_aload_n C (pc := 9) dX3_tripleBands_9 rfl 0 rfl ?_
    refine s_iload_n C (pc := 10) dX3_tripleBands_10 rfl 2 rfl ?_
    refine s_iload_n C (pc := 11) dX3_tripleBands_11 rfl 3 rfl ?_
    refine s_calli C (pc := 12) (wr := []) (wc' := [(mo, .inr (3, [.ref mp, .ref ms, .ref mt, .int sts, .int al, .ref mq, .long wd, .int wS, .int wo, .int fw])), (mp, .inl (X.2.1, 12, .inl (M)))]) (wn := [(mo, .inr (3, [.ref mp, .ref ms, .ref mt, .int sts, .int al, .ref mq, .long wd, .int wS, .int wo, .int fw])), (mp, .inl (X.2.1, 12, .inl (M)))]) (r_V C (As := [.int j, .int k]) (rest := []) (kX3_isPair l X mo mp ms mt mq sts al wd wS wo fw M n P Q o f ll j k (by first | assumption | omega | decide) (by first | assumption | omega | decide)) (cwV 2 C.ts gX3_tripleBands_X3_isPair rfl rfl rfl (by decide +kernel) ⟨Nat.le_of_ble_eq_true rfl, Nat.le_of_ble_eq_true rfl⟩) (q0 := 0) rfl rfl [0, 1] (by decide) rfl rfl (Nat.le_of_ble_eq_true rfl) rfl dX3_tripleBands_12 ⟨Nat.zero_le _, Nat.zero_le _⟩) [0, 1] [] [0, 1] rfl rfl (by decide) (by decide) (by decide) rfl ?_
    refine s_bif_eq C (pc := 15) (tgt := 28) dX3_tripleBands_15 (by decide) (fun c15 => ?_) (fun c15 => ?_)
    · skip
      refine s_iconst C (pc := 28) (v := (-1)) dX3_tripleBands_28 (by decide) ?_
      exact s_iret C (pc := 29) hr hlk [0, 1] (by decide) (rfl) (rfl) dX3_tripleBands_29
    · skip
      exact absurd ⟨c6, c15⟩ hb

set_option maxHeartbeats 4000000 in
set_option maxRecDepth 100000 in
theorem kX3_tripleBands_ok (l : Launch) (X : XT) (mo mp ms mt mq : Nat) (sts al : Int32) (wd : Int64) (wS wo fw : Int32) (M : Nat → Int32) (n : Nat) (P Q : Nat → Int32) (o f ll : Int32) (i j k : Nat) (hij : i < j) (hjk : j < k) (hk : k < n) (hM : MR M n P Q o f ll) (hn : n ≤ 4) : KIx l yX3_tripleBands wsX3_tripleBands ({ frames := 4, cells := 0, slots := 0, locals := 109 }) X [.ref mo, .int (nI i), .int (nI j), .int (nI k)] [(mo, .inr (3, [.ref mp, .ref ms, .ref mt, .int sts, .int al, .ref mq, .long wd, .int wS, .int wo, .int fw])), (mp, .inl (X.2.1, 12, .inl (M)))] (fun u : Int32 × Int64 × Int32 × Int32 × Int32 => [(mo, .inr (3, [.ref mp, .ref ms, .ref mt, .int sts, .int u.1, .ref mq, .long u.2.1, .int u.2.2.1, .int u.2.2.2.1, .int u.2.2.2.2])), (mp, .inl (X.2.1, 12, .inl (M)))]) (fun _ => True) ((b3F P Q f ll i j k 64).1) := by
  refine k_ofIx (cc := cX3_tripleBands) (own := RX3) (maxL := 4) (ret := (some .int)) (ls0 := [(0, .ref mo), (1, .int (nI i)), (2, .int (nI j)), (3, .int (nI k))]) (by decide) rfl rfl (Nat.le_of_ble_eq_true rfl) rfl ?_
  intro p e s m args below meth c A g C hr hlk
  refine s_aload_n C (pc := 0) dX3_tripleBands_0 rfl 0 rfl ?_
  refine s_iload_n C (pc := 1) dX3_tripleBands_1 rfl 1 rfl ?_
  refine s_iload_n C (pc := 2) dX3_tripleBands_2 rfl 2 rfl ?_
  refine s_calli C (pc := 3) (wr := []) (wc' := [(mo, .inr (3, [.ref mp, .ref ms, .ref mt, .int sts, .int al, .ref mq, .long wd, .int wS, .int wo, .int fw])), (mp, .inl (X.2.1, 12, .inl (M)))]) (wn := [(mo, .inr (3, [.ref mp, .ref ms, .ref mt, .int sts, .int al, .ref mq, .long wd, .int wS, .int wo, .int fw])), (mp, .inl (X.2.1, 12, .inl (M)))]) (r_V C (As := [.int (nI i), .int (nI j)]) (rest := []) (kX3_isPair l X mo mp ms mt mq sts al wd wS wo fw M n P Q o f ll (nI i) (nI j) (by first | assumption | omega | decide) (by first | assumption | omega | decide)) (cwV 2 C.ts gX3_tripleBands_X3_isPair rfl rfl rfl (by decide +kernel) ⟨Nat.le_of_ble_eq_true rfl, Nat.le_of_ble_eq_true rfl⟩) (q0 := 0) rfl rfl [0, 1] (by decide) rfl rfl (Nat.le_of_ble_eq_true rfl) rfl dX3_tripleBands_3 ⟨Nat.zero_le _, Nat.zero_le _⟩) [0, 1] [] [0, 1] rfl rfl (by decide) (by decide) (by decide) rfl ?_
  refine s_bif_eq C (pc := 6) (tgt := 28) dX3_tripleBands_6 (by decide) (fun h => absurd (hp_of hij (by omega) (by omega)) h) (fun c6 => ?_)
  refine s_aload_n C (pc := 9) dX3_tripleBands_9 rfl 0 rfl ?_
  refine s_iload_n C (pc := 10) dX3_tripleBands_10 rfl 2 rfl ?_
  refine s_iload_n C (pc := 11) dX3_tripleBands_11 rfl 3 rfl ?_
  refine s_calli C (pc := 12) (wr := []) (wc' := [(mo, .inr (3, [.ref mp, .ref ms, .ref mt, .int sts, .int al, .ref mq, .long wd, .int wS, .int wo, .int fw])), (mp, .inl (X.2.1, 12, .inl (M)))]) (wn := [(mo, .inr (3, [.ref mp, .ref ms, .ref mt, .int sts, .int al, .ref mq, .long wd, .int wS, .int wo, .int fw])), (mp, .inl (X.2.1, 12, .inl (M)))]) (r_V C (As := [.int (nI j), .int (nI k)]) (rest := []) (kX3_isPair l X mo mp ms mt mq sts al wd wS wo fw M n P Q o f ll (nI j) (nI k) (by first | assumption | omega | decide) (by first | assumption | omega | decide)) (cwV 2 C.ts gX3_tripleBands_X3_isPair rfl rfl rfl (by decide +kernel) ⟨Nat.le_of_ble_eq_true rfl, Nat.le_of_ble_eq_true rfl⟩) (q0 := 0) rfl rfl [0, 1] (by decide) rfl rfl (Nat.le_of_ble_eq_true rfl) rfl dX3_tripleBands_12 ⟨Nat.zero_le _, Nat.zero_le _⟩) [0, 1] [] [0, 1] rfl rfl (by decide) (by decide) (by decide) rfl ?_
  refine s_bif_eq C (pc := 15) (tgt := 28) dX3_tripleBands_15 (by decide) (fun h => absurd (hp_of hjk hk (by omega)) h) (fun c15 => ?_)
  refine s_aload_n C (pc := 18) dX3_tripleBands_18 rfl 0 rfl ?_
  refine s_iload_n C (pc := 19) dX3_tripleBands_19 rfl 1 rfl ?_
  refine s_iload_n C (pc := 20) dX3_tripleBands_20 rfl 2 rfl ?_
  refine s_iload_n C (pc := 21) dX3_tripleBands_21 rfl 3 rfl ?_
  refine s_calli C (pc := 22) (wr := []) (wc' := [(mo, .inr (3, [.ref mp, .ref ms, .ref mt, .int sts, .int al, .ref mq, .long ((b3F P Q f ll i j k 64).2), .int wS, .int wo, .int fw])), (mp, .inl (X.2.1, 12, .inl (M)))]) (wn := [(mo, .inr (3, [.ref mp, .ref ms, .ref mt, .int sts, .int al, .ref mq, .long ((b3F P Q f ll i j k 64).2), .int wS, .int wo, .int fw])), (mp, .inl (X.2.1, 12, .inl (M)))]) (r_V C (As := [.int (nI i), .int (nI j), .int (nI k)]) (rest := []) (kX3_bandsOfThree l X mo mp ms mt mq sts al wd wS wo fw M n P Q o f ll i j k (by first | assumption | omega | decide) (by first | assumption | omega | decide) (by first | assumption | omega | decide) (by first | assumption | omega | decide) (by first | assumption | omega | decide)) (cwV 3 C.ts gX3_tripleBands_X3_bandsOfThree rfl rfl rfl (by decide +kernel) ⟨Nat.le_of_ble_eq_true rfl, Nat.le_of_ble_eq_true rfl⟩) (q0 := 0) rfl rfl [0, 1] (by decide) rfl rfl (Nat.le_of_ble_eq_true rfl) rfl dX3_tripleBands_22 ⟨Nat.zero_le _, Nat.zero_le _⟩) [0, 1] [] [0, 1] rfl rfl (by decide) (by decide) (by decide) rfl ?_
  refine s_goto C (pc := 25) (tgt := 29) dX3_tripleBands_25 (by decide) ?_
  exact s_iretX C (pc := 29) hr hlk ((al, (b3F P Q f ll i j k 64).2, wS, wo, fw)) trivial [0, 1] (by decide) (rfl) (rfl) dX3_tripleBands_29

set_option maxHeartbeats 4000000 in
set_option maxRecDepth 100000 in
theorem kX3_squareNumerator_bad (l : Launch) (X : XT) (mo mp ms mt mq : Nat) (sts al : Int32) (wd : Int64) (wS wo fw : Int32) (M : Nat → Int32) (n : Nat) (P Q : Nat → Int32) (o f ll : Int32) (i j a b1 c1 d1 : Int32) (hb : ¬ (hpP n i j ∧ fpP o a b1 ∧ fpP o c1 d1)) (hM : MR M n P Q o f ll) (hn : n ≤ 4) : KL l yX3_squareNumerator wsX3_squareNumerator ({ frames := 4, cells := 0, slots := 0, locals := 91 }) X [.ref mo, .int i, .int j, .int a, .int b1, .int c1, .int d1] [(mo, .inr (3, [.ref mp, .ref ms, .ref mt, .int sts, .int al, .ref mq, .long wd, .int wS, .int wo, .int fw])), (mp, .inl (X.2.1, 12, .inl (M)))] [(mo, .inr (3, [.ref mp, .ref ms, .ref mt, .int sts, .int al, .ref mq, .long wd, .int wS, .int wo, .int fw])), (mp, .inl (X.2.1, 12, .inl (M)))] (-1) := by
  refine k_ofL (cc := cX3_squareNumerator) (own := RX3) (maxL := 9) (ret := (some .long)) (ls0 := [(0, .ref mo), (1, .int i), (2, .int j), (3, .int a), (4, .int b1), (5, .int c1), (6, .int d1)]) (by decide) rfl rfl (Nat.le_of_ble_eq_true rfl) rfl ?_
  intro p e s m args below meth c A g C hr hlk
  refine s_aload_n C (pc := 0) dX3_squareNumerator_0 rfl 0 rfl ?_
  refine s_iload_n C (pc := 1) dX3_squareNumerator_1 rfl 1 rfl ?_
  refine s_iload_n C (pc := 2) dX3_squareNumerator_2 rfl 2 rfl ?_
  refine s_iload_n C (pc := 3) dX3_squareNumerator_3 rfl 3 rfl ?_
  refine s_iload C (pc := 4) dX3_squareNumerator_4 4 rfl ?_
  refine s_iload C (pc := 6) dX3_squareNumerator_6 5 rfl ?_
  refine s_iload C (pc := 8) dX3_squareNumerator_8 6 rfl ?_
  refine s_calli C (pc := 10) (wr := []) (wc' := [(mo, .inr (3, [.ref mp, .ref ms, .ref mt, .int sts, .int al, .ref mq, .long wd, .int wS, .int wo, .int fw])), (mp, .inl (X.2.1, 12, .inl (M)))]) (wn := [(mo, .inr (3, [.ref mp, .ref ms, .ref mt, .int sts, .int al, .ref mq, .long wd, .int wS, .int wo, .int fw])), (mp, .inl (X.2.1, 12, .inl (M)))]) (r_V C (As := [.int i, .int j, .int a, .int b1, .int c1, .int d1]) (rest := []) (kX3_isCombination l X mo mp ms mt mq sts al wd wS wo fw M n P Q o f ll i j a b1 c1 d1 (by first | assumption | omega | decide) (by first | assumption | omega | decide)) (cwV 6 C.ts gX3_squareNumerator_X3_isCombination rfl rfl rfl (by decide +kernel) ⟨Nat.le_of_ble_eq_true rfl, Nat.le_of_ble_eq_true rfl⟩) (q0 := 0) rfl rfl [0, 1] (by decide) rfl rfl (Nat.le_of_ble_eq_true rfl) rfl dX3_squareNumerator_10 ⟨Nat.zero_le _, Nat.zero_le _⟩) [0, 1] [] [0, 1] rfl rfl (by decide) (by decide) (by decide) rfl ?_
  refine s_bif_ne C (pc := 13) (tgt := 20) dX3_squareNumerator_13 (by decide) (fun h => absurd h (hb)) (fun c13 => ?_)
  refine s_ldc2 C (pc := 16) (v := (-1)) (List.mem_of_getElem? (i := 1) rfl) dX3_squareNumerator_16 ?_
  exact s_lret C (pc := 19) hr hlk [0, 1] (by decide) (rfl) (rfl) dX3_squareNumerator_19

set_option maxHeartbeats 4000000 in
set_option maxRecDepth 100000 in
theorem kX3_squareNumerator_ok (l : Launch) (X : XT) (mo mp ms mt mq : Nat) (sts al : Int32) (wd : Int64) (wS wo fw : Int32) (M : Nat → Int32) (n : Nat) (P Q : Nat → Int32) (o f ll : Int32) (i j : Nat) (a b1 c1 d1 : Int32) (hij : i < j) (hj : j < n) (hM : MR M n P Q o f ll) (hn : n ≤ 4) (hf1 : fpP o a b1) (hf2 : fpP o c1 d1) (hs1 : 0 ≤ psL P Q i j a b1 c1 d1) (hs2 : 0 ≤ bsL P Q i j) (hs3 : ¬ gcM (psL P Q i j a b1 c1 d1) (bsL P Q i j) = 0) : KL l yX3_squareNumerator wsX3_squareNumerator ({ frames := 4, cells := 0, slots := 0, locals := 91 }) X [.ref mo, .int (nI i), .int (nI j), .int a, .int b1, .int c1, .int d1] [(mo, .inr (3, [.ref mp, .ref ms, .ref mt, .int sts, .int al, .ref mq, .long wd, .int wS, .int wo, .int fw])), (mp, .inl (X.2.1, 12, .inl (M)))] [(mo, .inr (3, [.ref mp, .ref ms, .ref mt, .int sts, .int al, .ref mq, .long wd, .int wS, .int wo, .int fw])), (mp, .inl (X.2.1, 12, .inl (M)))] ((psL P Q i j a b1 c1 d1) / gcM (psL P Q i j a b1 c1 d1) (bsL P Q i j)) := by
  refine k_ofL (cc := cX3_squareNumerator) (own := RX3) (maxL := 9) (ret := (some .long)) (ls0 := [(0, .ref mo), (1, .int (nI i)), (2, .int (nI j)), (3, .int a), (4, .int b1), (5, .int c1), (6, .int d1)]) (by decide) rfl rfl (Nat.le_of_ble_eq_true rfl) rfl ?_
  intro p e s m args below meth c A g C hr hlk
  refine s_aload_n C (pc := 0) dX3_squareNumerator_0 rfl 0 rfl ?_
  refine s_iload_n C (pc := 1) dX3_squareNumerator_1 rfl 1 rfl ?_
  refine s_iload_n C (pc := 2) dX3_squareNumerator_2 rfl 2 rfl ?_
  refine s_iload_n C (pc := 3) dX3_squareNumerator_3 rfl 3 rfl ?_
  refine s_iload C (pc := 4) dX3_squareNumerator_4 4 rfl ?_
  refine s_iload C (pc := 6) dX3_squareNumerator_6 5 rfl ?_
  refine s_iload C (pc := 8) dX3_squareNumerator_8 6 rfl ?_
  refine s_calli C (pc := 10) (wr := []) (wc' := [(mo, .inr (3, [.ref mp, .ref ms, .ref mt, .int sts, .int al, .ref mq, .long wd, .int wS, .int wo, .int fw])), (mp, .inl (X.2.1, 12, .inl (M)))]) (wn := [(mo, .inr (3, [.ref mp, .ref ms, .ref mt, .int sts, .int al, .ref mq, .long wd, .int wS, .int wo, .int fw])), (mp, .inl (X.2.1, 12, .inl (M)))]) (r_V C (As := [.int (nI i), .int (nI j), .int a, .int b1, .int c1, .int d1]) (rest := []) (kX3_isCombination l X mo mp ms mt mq sts al wd wS wo fw M n P Q o f ll (nI i) (nI j) a b1 c1 d1 (by first | assumption | omega | decide) (by first | assumption | omega | decide)) (cwV 6 C.ts gX3_squareNumerator_X3_isCombination rfl rfl rfl (by decide +kernel) ⟨Nat.le_of_ble_eq_true rfl, Nat.le_of_ble_eq_true rfl⟩) (q0 := 0) rfl rfl [0, 1] (by decide) rfl rfl (Nat.le_of_ble_eq_true rfl) rfl dX3_squareNumerator_10 ⟨Nat.zero_le _, Nat.zero_le _⟩) [0, 1] [] [0, 1] rfl rfl (by decide) (by decide) (by decide) rfl ?_
  refine s_bif_ne C (pc := 13) (tgt := 20) dX3_squareNumerator_13 (by decide) (fun c13 => ?_) (fun h => absurd (⟨hp_of hij hj (by omega), hf1, hf2⟩) h)
  refine s_aload_n C (pc := 20) dX3_squareNumerator_20 rfl 0 rfl ?_
  refine s_iload_n C (pc := 21) dX3_squareNumerator_21 rfl 1 rfl ?_
  refine s_iload_n C (pc := 22) dX3_squareNumerator_22 rfl 2 rfl ?_
  refine s_iload_n C (pc := 23) dX3_squareNumerator_23 rfl 3 rfl ?_
  refine s_iload C (pc := 24) dX3_squareNumerator_24 4 rfl ?_
  refine s_iload C (pc := 26) dX3_squareNumerator_26 5 rfl ?_
  refine s_iload C (pc := 28) dX3_squareNumerator_28 6 rfl ?_
  refine s_calll C (pc := 30) (wr := []) (wc' := [(mo, .inr (3, [.ref mp, .ref ms, .ref mt, .int sts, .int al, .ref mq, .long wd, .int wS, .int wo, .int fw])), (mp, .inl (X.2.1, 12, .inl (M)))]) (wn := [(mo, .inr (3, [.ref mp, .ref ms, .ref mt, .int sts, .int al, .ref mq, .long wd, .int wS, .int wo, .int fw])), (mp, .inl (X.2.1, 12, .inl (M)))]) (r_V C (As := [.int (nI i), .int (nI j), .int a, .int b1, .int c1, .int d1]) (rest := []) (kX3_pairSquare l X mo mp ms mt mq sts al wd wS wo fw M n P Q o f ll i j a b1 c1 d1 (by first | assumption | omega | decide) (by first | assumption | omega | decide) (by first | assumption | omega | decide) (by first | assumption | omega | decide)) (cwV 6 C.ts gX3_squareNumerator_X3_pairSquare rfl rfl rfl (by decide +kernel) ⟨Nat.le_of_ble_eq_true rfl, Nat.le_of_ble_eq_true rfl⟩) (q0 := 0) rfl rfl [0, 1] (by decide) rfl rfl (Nat.le_of_ble_eq_true rfl) rfl dX3_squareNumerator_30 ⟨Nat.zero_le _, Nat.zero_le _⟩) [0, 1] [] [0, 1] rfl rfl (by decide) (by decide) (by decide) rfl ?_
  refine s_lstore C (pc := 33) (ls' := [(7, .long (psL P Q i j a b1 c1 d1)), (0, .ref mo), (1, .int (nI i)), (2, .int (nI j)), (3, .int a), (4, .int b1), (5, .int c1), (6, .int d1)]) dX3_squareNumerator_33 (by decide) rfl ?_
  refine s_lload C (pc := 35) dX3_squareNumerator_35 0 rfl ?_
  refine s_lload C (pc := 37) dX3_squareNumerator_37 0 rfl ?_
  refine s_aload_n C (pc := 39) dX3_squareNumerator_39 rfl 1 rfl ?_
  refine s_iload_n C (pc := 40) dX3_squareNumerator_40 rfl 2 rfl ?_
  refine s_iload_n C (pc := 41) dX3_squareNumerator_41 rfl 3 rfl ?_
  refine s_calll C (pc := 42) (wr := []) (wc' := [(mo, .inr (3, [.ref mp, .ref ms, .ref mt, .int sts, .int al, .ref mq, .long wd, .int wS, .int wo, .int fw])), (mp, .inl (X.2.1, 12, .inl (M)))]) (wn := [(mo, .inr (3, [.ref mp, .ref ms, .ref mt, .int sts, .int al, .ref mq, .long wd, .int wS, .int wo, .int fw])), (mp, .inl (X.2.1, 12, .inl (M)))]) (r_V C (As := [.int (nI i), .int (nI j)]) (rest := [.long (psL P Q i j a b1 c1 d1), .long (psL P Q i j a b1 c1 d1)]) (kX3_pairBase l X mo mp ms mt mq sts al wd wS wo fw M n P Q o f ll i j (by first | assumption | omega | decide) (by first | assumption | omega | decide) (by first | assumption | omega | decide) (by first | assumption | omega | decide)) (cwV 2 C.ts gX3_squareNumerator_X3_pairBase rfl rfl rfl (by decide +kernel) ⟨Nat.le_of_ble_eq_true rfl, Nat.le_of_ble_eq_true rfl⟩) (q0 := 0) rfl rfl [0, 1] (by decide) rfl rfl (Nat.le_of_ble_eq_true rfl) rfl dX3_squareNumerator_42 ⟨Nat.zero_le _, Nat.zero_le _⟩) [0, 1] [] [0, 1] rfl rfl (by decide) (by decide) (by decide) rfl ?_
  refine s_calll C (pc := 45) (wr := [(mo, .inr (3, [.ref mp, .ref ms, .ref mt, .int sts, .int al, .ref mq, .long wd, .int wS, .int wo, .int fw])), (mp, .inl (X.2.1, 12, .inl (M)))]) (wc' := []) (wn := [(mo, .inr (3, [.ref mp, .ref ms, .ref mt, .int sts, .int al, .ref mq, .long wd, .int wS, .int wo, .int fw])), (mp, .inl (X.2.1, 12, .inl (M)))]) (r_S C (As := [.long (psL P Q i j a b1 c1 d1), .long (bsL P Q i j)]) (rest := [.long (psL P Q i j a b1 c1 d1)]) (kX3_common l X (psL P Q i j a b1 c1 d1) (bsL P Q i j) hs1 hs2) (va_cwS 2 C.ts gX3_squareNumerator_X3_common rfl rfl rfl (by decide +kernel) ⟨Nat.le_of_ble_eq_true rfl, Nat.le_of_ble_eq_true rfl⟩) [] (by decide) rfl rfl (Nat.le_of_ble_eq_true rfl) rfl dX3_squareNumerator_45 ⟨Nat.zero_le _, Nat.zero_le _⟩) [] [0, 1] [0, 1] rfl rfl (by decide) (by decide) (by decide) rfl ?_
  refine s_ldiv C (pc := 48) dX3_squareNumerator_48 hs3 ?_
  exact s_lret C (pc := 49) hr hlk [0, 1] (by decide) (rfl) (rfl) dX3_squareNumerator_49

set_option maxHeartbeats 4000000 in
set_option maxRecDepth 100000 in
theorem kX3_squareDenominator_bad (l : Launch) (X : XT) (mo mp ms mt mq : Nat) (sts al : Int32) (wd : Int64) (wS wo fw : Int32) (M : Nat → Int32) (n : Nat) (P Q : Nat → Int32) (o f ll : Int32) (i j a b1 c1 d1 : Int32) (hb : ¬ (hpP n i j ∧ fpP o a b1 ∧ fpP o c1 d1)) (hM : MR M n P Q o f ll) (hn : n ≤ 4) : KL l yX3_squareDenominator wsX3_squareDenominator ({ frames := 4, cells := 0, slots := 0, locals := 91 }) X [.ref mo, .int i, .int j, .int a, .int b1, .int c1, .int d1] [(mo, .inr (3, [.ref mp, .ref ms, .ref mt, .int sts, .int al, .ref mq, .long wd, .int wS, .int wo, .int fw])), (mp, .inl (X.2.1, 12, .inl (M)))] [(mo, .inr (3, [.ref mp, .ref ms, .ref mt, .int sts, .int al, .ref mq, .long wd, .int wS, .int wo, .int fw])), (mp, .inl (X.2.1, 12, .inl (M)))] (-1) := by
  refine k_ofL (cc := cX3_squareDenominator) (own := RX3) (maxL := 9) (ret := (some .long)) (ls0 := [(0, .ref mo), (1, .int i), (2, .int j), (3, .int a), (4, .int b1), (5, .int c1), (6, .int d1)]) (by decide) rfl rfl (Nat.le_of_ble_eq_true rfl) rfl ?_
  intro p e s m args below meth c A g C hr hlk
  refine s_aload_n C (pc := 0) dX3_squareDenominator_0 rfl 0 rfl ?_
  refine s_iload_n C (pc := 1) dX3_squareDenominator_1 rfl 1 rfl ?_
  refine s_iload_n C (pc := 2) dX3_squareDenominator_2 rfl 2 rfl ?_
  refine s_iload_n C (pc := 3) dX3_squareDenominator_3 rfl 3 rfl ?_
  refine s_iload C (pc := 4) dX3_squareDenominator_4 4 rfl ?_
  refine s_iload C (pc := 6) dX3_squareDenominator_6 5 rfl ?_
  refine s_iload C (pc := 8) dX3_squareDenominator_8 6 rfl ?_
  refine s_calli C (pc := 10) (wr := []) (wc' := [(mo, .inr (3, [.ref mp, .ref ms, .ref mt, .int sts, .int al, .ref mq, .long wd, .int wS, .int wo, .int fw])), (mp, .inl (X.2.1, 12, .inl (M)))]) (wn := [(mo, .inr (3, [.ref mp, .ref ms, .ref mt, .int sts, .int al, .ref mq, .long wd, .int wS, .int wo, .int fw])), (mp, .inl (X.2.1, 12, .inl (M)))]) (r_V C (As := [.int i, .int j, .int a, .int b1, .int c1, .int d1]) (rest := []) (kX3_isCombination l X mo mp ms mt mq sts al wd wS wo fw M n P Q o f ll i j a b1 c1 d1 (by first | assumption | omega | decide) (by first | assumption | omega | decide)) (cwV 6 C.ts gX3_squareDenominator_X3_isCombination rfl rfl rfl (by decide +kernel) ⟨Nat.le_of_ble_eq_true rfl, Nat.le_of_ble_eq_true rfl⟩) (q0 := 0) rfl rfl [0, 1] (by decide) rfl rfl (Nat.le_of_ble_eq_true rfl) rfl dX3_squareDenominator_10 ⟨Nat.zero_le _, Nat.zero_le _⟩) [0, 1] [] [0, 1] rfl rfl (by decide) (by decide) (by decide) rfl ?_
  refine s_bif_ne C (pc := 13) (tgt := 20) dX3_squareDenominator_13 (by decide) (fun h => absurd h (hb)) (fun c13 => ?_)
  refine s_ldc2 C (pc := 16) (v := (-1)) (List.mem_of_getElem? (i := 1) rfl) dX3_squareDenominator_16 ?_
  exact s_lret C (pc := 19) hr hlk [0, 1] (by decide) (rfl) (rfl) dX3_squareDenominator_19

set_option maxHeartbeats 4000000 in
set_option maxRecDepth 100000 in
theorem kX3_squareDenominator_ok (l : Launch) (X : XT) (mo mp ms mt mq : Nat) (sts al : Int32) (wd : Int64) (wS wo fw : Int32) (M : Nat → Int32) (n : Nat) (P Q : Nat → Int32) (o f ll : Int32) (i j : Nat) (a b1 c1 d1 : Int32) (hij : i < j) (hj : j < n) (hM : MR M n P Q o f ll) (hn : n ≤ 4) (hf1 : fpP o a b1) (hf2 : fpP o c1 d1) (hs1 : 0 ≤ psL P Q i j a b1 c1 d1) (hs2 : 0 ≤ bsL P Q i j) (hs3 : ¬ gcM (psL P Q i j a b1 c1 d1) (bsL P Q i j) = 0) : KL l yX3_squareDenominator wsX3_squareDenominator ({ frames := 4, cells := 0, slots := 0, locals := 91 }) X [.ref mo, .int (nI i), .int (nI j), .int a, .int b1, .int c1, .int d1] [(mo, .inr (3, [.ref mp, .ref ms, .ref mt, .int sts, .int al, .ref mq, .long wd, .int wS, .int wo, .int fw])), (mp, .inl (X.2.1, 12, .inl (M)))] [(mo, .inr (3, [.ref mp, .ref ms, .ref mt, .int sts, .int al, .ref mq, .long wd, .int wS, .int wo, .int fw])), (mp, .inl (X.2.1, 12, .inl (M)))] ((bsL P Q i j) / gcM (psL P Q i j a b1 c1 d1) (bsL P Q i j)) := by
  refine k_ofL (cc := cX3_squareDenominator) (own := RX3) (maxL := 9) (ret := (some .long)) (ls0 := [(0, .ref mo), (1, .int (nI i)), (2, .int (nI j)), (3, .int a), (4, .int b1), (5, .int c1), (6, .int d1)]) (by decide) rfl rfl (Nat.le_of_ble_eq_true rfl) rfl ?_
  intro p e s m args below meth c A g C hr hlk
  refine s_aload_n C (pc := 0) dX3_squareDenominator_0 rfl 0 rfl ?_
  refine s_iload_n C (pc := 1) dX3_squareDenominator_1 rfl 1 rfl ?_
  refine s_iload_n C (pc := 2) dX3_squareDenominator_2 rfl 2 rfl ?_
  refine s_iload_n C (pc := 3) dX3_squareDenominator_3 rfl 3 rfl ?_
  refine s_iload C (pc := 4) dX3_squareDenominator_4 4 rfl ?_
  refine s_iload C (pc := 6) dX3_squareDenominator_6 5 rfl ?_
  refine s_iload C (pc := 8) dX3_squareDenominator_8 6 rfl ?_
  refine s_calli C (pc := 10) (wr := []) (wc' := [(mo, .inr (3, [.ref mp, .ref ms, .ref mt, .int sts, .int al, .ref mq, .long wd, .int wS, .int wo, .int fw])), (mp, .inl (X.2.1, 12, .inl (M)))]) (wn := [(mo, .inr (3, [.ref mp, .ref ms, .ref mt, .int sts, .int al, .ref mq, .long wd, .int wS, .int wo, .int fw])), (mp, .inl (X.2.1, 12, .inl (M)))]) (r_V C (As := [.int (nI i), .int (nI j), .int a, .int b1, .int c1, .int d1]) (rest := []) (kX3_isCombination l X mo mp ms mt mq sts al wd wS wo fw M n P Q o f ll (nI i) (nI j) a b1 c1 d1 (by first | assumption | omega | decide) (by first | assumption | omega | decide)) (cwV 6 C.ts gX3_squareDenominator_X3_isCombination rfl rfl rfl (by decide +kernel) ⟨Nat.le_of_ble_eq_true rfl, Nat.le_of_ble_eq_true rfl⟩) (q0 := 0) rfl rfl [0, 1] (by decide) rfl rfl (Nat.le_of_ble_eq_true rfl) rfl dX3_squareDenominator_10 ⟨Nat.zero_le _, Nat.zero_le _⟩) [0, 1] [] [0, 1] rfl rfl (by decide) (by decide) (by decide) rfl ?_
  refine s_bif_ne C (pc := 13) (tgt := 20) dX3_squareDenominator_13 (by decide) (fun c13 => ?_) (fun h => absurd (⟨hp_of hij hj (by omega), hf1, hf2⟩) h)
  refine s_aload_n C (pc := 20) dX3_squareDenominator_20 rfl 0 rfl ?_
  refine s_iload_n C (pc := 21) dX3_squareDenominator_21 rfl 1 rfl ?_
  refine s_iload_n C (pc := 22) dX3_squareDenominator_22 rfl 2 rfl ?_
  refine s_calll C (pc := 23) (wr := []) (wc' := [(mo, .inr (3, [.ref mp, .ref ms, .ref mt, .int sts, .int al, .ref mq, .long wd, .int wS, .int wo, .int fw])), (mp, .inl (X.2.1, 12, .inl (M)))]) (wn := [(mo, .inr (3, [.ref mp, .ref ms, .ref mt, .int sts, .int al, .ref mq, .long wd, .int wS, .int wo, .int fw])), (mp, .inl (X.2.1, 12, .inl (M)))]) (r_V C (As := [.int (nI i), .int (nI j)]) (rest := []) (kX3_pairBase l X mo mp ms mt mq sts al wd wS wo fw M n P Q o f ll i j (by first | assumption | omega | decide) (by first | assumption | omega | decide) (by first | assumption | omega | decide) (by first | assumption | omega | decide)) (cwV 2 C.ts gX3_squareDenominator_X3_pairBase rfl rfl rfl (by decide +kernel) ⟨Nat.le_of_ble_eq_true rfl, Nat.le_of_ble_eq_true rfl⟩) (q0 := 0) rfl rfl [0, 1] (by decide) rfl rfl (Nat.le_of_ble_eq_true rfl) rfl dX3_squareDenominator_23 ⟨Nat.zero_le _, Nat.zero_le _⟩) [0, 1] [] [0, 1] rfl rfl (by decide) (by decide) (by decide) rfl ?_
  refine s_lstore C (pc := 26) (ls' := [(7, .long (bsL P Q i j)), (0, .ref mo), (1, .int (nI i)), (2, .int (nI j)), (3, .int a), (4, .int b1), (5, .int c1), (6, .int d1)]) dX3_squareDenominator_26 (by decide) rfl ?_
  refine s_lload C (pc := 28) dX3_squareDenominator_28 0 rfl ?_
  refine s_aload_n C (pc := 30) dX3_squareDenominator_30 rfl 1 rfl ?_
  refine s_iload_n C (pc := 31) dX3_squareDenominator_31 rfl 2 rfl ?_
  refine s_iload_n C (pc := 32) dX3_squareDenominator_32 rfl 3 rfl ?_
  refine s_iload_n C (pc := 33) dX3_squareDenominator_33 rfl 4 rfl ?_
  refine s_iload C (pc := 34) dX3_squareDenominator_34 5 rfl ?_
  refine s_iload C (pc := 36) dX3_squareDenominator_36 6 rfl ?_
  refine s_iload C (pc := 38) dX3_squareDenominator_38 7 rfl ?_
  refine s_calll C (pc := 40) (wr := []) (wc' := [(mo, .inr (3, [.ref mp, .ref ms, .ref mt, .int sts, .int al, .ref mq, .long wd, .int wS, .int wo, .int fw])), (mp, .inl (X.2.1, 12, .inl (M)))]) (wn := [(mo, .inr (3, [.ref mp, .ref ms, .ref mt, .int sts, .int al, .ref mq, .long wd, .int wS, .int wo, .int fw])), (mp, .inl (X.2.1, 12, .inl (M)))]) (r_V C (As := [.int (nI i), .int (nI j), .int a, .int b1, .int c1, .int d1]) (rest := [.long (bsL P Q i j)]) (kX3_pairSquare l X mo mp ms mt mq sts al wd wS wo fw M n P Q o f ll i j a b1 c1 d1 (by first | assumption | omega | decide) (by first | assumption | omega | decide) (by first | assumption | omega | decide) (by first | assumption | omega | decide)) (cwV 6 C.ts gX3_squareDenominator_X3_pairSquare rfl rfl rfl (by decide +kernel) ⟨Nat.le_of_ble_eq_true rfl, Nat.le_of_ble_eq_true rfl⟩) (q0 := 0) rfl rfl [0, 1] (by decide) rfl rfl (Nat.le_of_ble_eq_true rfl) rfl dX3_squareDenominator_40 ⟨Nat.zero_le _, Nat.zero_le _⟩) [0, 1] [] [0, 1] rfl rfl (by decide) (by decide) (by decide) rfl ?_
  refine s_lload C (pc := 43) dX3_squareDenominator_43 0 rfl ?_
  refine s_calll C (pc := 45) (wr := [(mo, .inr (3, [.ref mp, .ref ms, .ref mt, .int sts, .int al, .ref mq, .long wd, .int wS, .int wo, .int fw])), (mp, .inl (X.2.1, 12, .inl (M)))]) (wc' := []) (wn := [(mo, .inr (3, [.ref mp, .ref ms, .ref mt, .int sts, .int al, .ref mq, .long wd, .int wS, .int wo, .int fw])), (mp, .inl (X.2.1, 12, .inl (M)))]) (r_S C (As := [.long (psL P Q i j a b1 c1 d1), .long (bsL P Q i j)]) (rest := [.long (bsL P Q i j)]) (kX3_common l X (psL P Q i j a b1 c1 d1) (bsL P Q i j) hs1 hs2) (va_cwS 2 C.ts gX3_squareDenominator_X3_common rfl rfl rfl (by decide +kernel) ⟨Nat.le_of_ble_eq_true rfl, Nat.le_of_ble_eq_true rfl⟩) [] (by decide) rfl rfl (Nat.le_of_ble_eq_true rfl) rfl dX3_squareDenominator_45 ⟨Nat.zero_le _, Nat.zero_le _⟩) [] [0, 1] [0, 1] rfl rfl (by decide) (by decide) (by decide) rfl ?_
  refine s_ldiv C (pc := 48) dX3_squareDenominator_48 hs3 ?_
  exact s_lret C (pc := 49) hr hlk [0, 1] (by decide) (rfl) (rfl) dX3_squareDenominator_49

set_option maxHeartbeats 4000000 in
set_option maxRecDepth 100000 in
theorem kX3_kind_bad (l : Launch) (X : XT) (mo mp ms mt mq : Nat) (sts al : Int32) (wd : Int64) (wS wo fw : Int32) (M : Nat → Int32) (n : Nat) (P Q : Nat → Int32) (o f ll : Int32) (i j a b1 c1 d1 : Int32) (hb : ¬ (hpP n i j ∧ fpP o a b1 ∧ fpP o c1 d1)) (hM : MR M n P Q o f ll) (hn : n ≤ 4) : KI l yX3_kind wsX3_kind ({ frames := 4, cells := 0, slots := 0, locals := 91 }) X [.ref mo, .int i, .int j, .int a, .int b1, .int c1, .int d1] [(mo, .inr (3, [.ref mp, .ref ms, .ref mt, .int sts, .int al, .ref mq, .long wd, .int wS, .int wo, .int fw])), (mp, .inl (X.2.1, 12, .inl (M)))] [(mo, .inr (3, [.ref mp, .ref ms, .ref mt, .int sts, .int al, .ref mq, .long wd, .int wS, .int wo, .int fw])), (mp, .inl (X.2.1, 12, .inl (M)))] (-1) := by
  refine k_ofI (cc := cX3_kind) (own := RX3) (maxL := 7) (ret := (some .int)) (ls0 := [(0, .ref mo), (1, .int i), (2, .int j), (3, .int a), (4, .int b1), (5, .int c1), (6, .int d1)]) (by decide) rfl rfl (Nat.le_of_ble_eq_true rfl) rfl ?_
  intro p e s m args below meth c A g C hr hlk
  refine s_aload_n C (pc := 0) dX3_kind_0 rfl 0 rfl ?_
  refine s_iload_n C (pc := 1) dX3_kind_1 rfl 1 rfl ?_
  refine s_iload_n C (pc := 2) dX3_kind_2 rfl 2 rfl ?_
  refine s_iload_n C (pc := 3) dX3_kind_3 rfl 3 rfl ?_
  refine s_iload C (pc := 4) dX3_kind_4 4 rfl ?_
  refine s_iload C (pc := 6) dX3_kind_6 5 rfl ?_
  refine s_iload C (pc := 8) dX3_kind_8 6 rfl ?_
  refine s_calli C (pc := 10) (wr := []) (wc' := [(mo, .inr (3, [.ref mp, .ref ms, .ref mt, .int sts, .int al, .ref mq, .long wd, .int wS, .int wo, .int fw])), (mp, .inl (X.2.1, 12, .inl (M)))]) (wn := [(mo, .inr (3, [.ref mp, .ref ms, .ref mt, .int sts, .int al, .ref mq, .long wd, .int wS, .int wo, .int fw])), (mp, .inl (X.2.1, 12, .inl (M)))]) (r_V C (As := [.int i, .int j, .int a, .int b1, .int c1, .int d1]) (rest := []) (kX3_isCombination l X mo mp ms mt mq sts al wd wS wo fw M n P Q o f ll i j a b1 c1 d1 (by first | assumption | omega | decide) (by first | assumption | omega | decide)) (cwV 6 C.ts gX3_kind_X3_isCombination rfl rfl rfl (by decide +kernel) ⟨Nat.le_of_ble_eq_true rfl, Nat.le_of_ble_eq_true rfl⟩) (q0 := 0) rfl rfl [0, 1] (by decide) rfl rfl (Nat.le_of_ble_eq_true rfl) rfl dX3_kind_10 ⟨Nat.zero_le _, Nat.zero_le _⟩) [0, 1] [] [0, 1] rfl rfl (by decide) (by decide) (by decide) rfl ?_
  refine s_bif_eq C (pc := 13) (tgt := 42) dX3_kind_13 (by decide) (fun c13 => ?_) (fun h => absurd h (hb))
  refine s_iconst C (pc := 42) (v := (-1)) dX3_kind_42 (by decide) ?_
  exact s_iret C (pc := 43) hr hlk [0, 1] (by decide) (rfl) (rfl) dX3_kind_43

set_option maxHeartbeats 4000000 in
set_option maxRecDepth 100000 in
theorem kX3_kind_ok (l : Launch) (X : XT) (mo mp ms mt mq : Nat) (sts al : Int32) (wd : Int64) (wS wo fw : Int32) (M : Nat → Int32) (n : Nat) (P Q : Nat → Int32) (o f ll : Int32) (i j : Nat) (a b1 c1 d1 : Int32) (hij : i < j) (hj : j < n) (hM : MR M n P Q o f ll) (hn : n ≤ 4) (hf1 : fpP o a b1) (hf2 : fpP o c1 d1) : KI l yX3_kind wsX3_kind ({ frames := 4, cells := 0, slots := 0, locals := 91 }) X [.ref mo, .int (nI i), .int (nI j), .int a, .int b1, .int c1, .int d1] [(mo, .inr (3, [.ref mp, .ref ms, .ref mt, .int sts, .int al, .ref mq, .long wd, .int wS, .int wo, .int fw])), (mp, .inl (X.2.1, 12, .inl (M)))] [(mo, .inr (3, [.ref mp, .ref ms, .ref mt, .int sts, .int al, .ref mq, .long wd, .int wS, .int wo, .int fw])), (mp, .inl (X.2.1, 12, .inl (M)))] (kdM f ll (psL P Q i j a b1 c1 d1) (bsL P Q i j)) := by
  refine k_ofI (cc := cX3_kind) (own := RX3) (maxL := 7) (ret := (some .int)) (ls0 := [(0, .ref mo), (1, .int (nI i)), (2, .int (nI j)), (3, .int a), (4, .int b1), (5, .int c1), (6, .int d1)]) (by decide) rfl rfl (Nat.le_of_ble_eq_true rfl) rfl ?_
  intro p e s m args below meth c A g C hr hlk
  refine s_aload_n C (pc := 0) dX3_kind_0 rfl 0 rfl ?_
  refine s_iload_n C (pc := 1) dX3_kind_1 rfl 1 rfl ?_
  refine s_iload_n C (pc := 2) dX3_kind_2 rfl 2 rfl ?_
  refine s_iload_n C (pc := 3) dX3_kind_3 rfl 3 rfl ?_
  refine s_iload C (pc := 4) dX3_kind_4 4 rfl ?_
  refine s_iload C (pc := 6) dX3_kind_6 5 rfl ?_
  refine s_iload C (pc := 8) dX3_kind_8 6 rfl ?_
  refine s_calli C (pc := 10) (wr := []) (wc' := [(mo, .inr (3, [.ref mp, .ref ms, .ref mt, .int sts, .int al, .ref mq, .long wd, .int wS, .int wo, .int fw])), (mp, .inl (X.2.1, 12, .inl (M)))]) (wn := [(mo, .inr (3, [.ref mp, .ref ms, .ref mt, .int sts, .int al, .ref mq, .long wd, .int wS, .int wo, .int fw])), (mp, .inl (X.2.1, 12, .inl (M)))]) (r_V C (As := [.int (nI i), .int (nI j), .int a, .int b1, .int c1, .int d1]) (rest := []) (kX3_isCombination l X mo mp ms mt mq sts al wd wS wo fw M n P Q o f ll (nI i) (nI j) a b1 c1 d1 (by first | assumption | omega | decide) (by first | assumption | omega | decide)) (cwV 6 C.ts gX3_kind_X3_isCombination rfl rfl rfl (by decide +kernel) ⟨Nat.le_of_ble_eq_true rfl, Nat.le_of_ble_eq_true rfl⟩) (q0 := 0) rfl rfl [0, 1] (by decide) rfl rfl (Nat.le_of_ble_eq_true rfl) rfl dX3_kind_10 ⟨Nat.zero_le _, Nat.zero_le _⟩) [0, 1] [] [0, 1] rfl rfl (by decide) (by decide) (by decide) rfl ?_
  refine s_bif_eq C (pc := 13) (tgt := 42) dX3_kind_13 (by decide) (fun h => absurd (⟨hp_of hij hj (by omega), hf1, hf2⟩) h) (fun c13 => ?_)
  refine s_aload_n C (pc := 16) dX3_kind_16 rfl 0 rfl ?_
  refine s_aload_n C (pc := 17) dX3_kind_17 rfl 0 rfl ?_
  refine s_iload_n C (pc := 18) dX3_kind_18 rfl 1 rfl ?_
  refine s_iload_n C (pc := 19) dX3_kind_19 rfl 2 rfl ?_
  refine s_iload_n C (pc := 20) dX3_kind_20 rfl 3 rfl ?_
  refine s_iload C (pc := 21) dX3_kind_21 4 rfl ?_
  refine s_iload C (pc := 23) dX3_kind_23 5 rfl ?_
  refine s_iload C (pc := 25) dX3_kind_25 6 rfl ?_
  refine s_calll C (pc := 27) (wr := []) (wc' := [(mo, .inr (3, [.ref mp, .ref ms, .ref mt, .int sts, .int al, .ref mq, .long wd, .int wS, .int wo, .int fw])), (mp, .inl (X.2.1, 12, .inl (M)))]) (wn := [(mo, .inr (3, [.ref mp, .ref ms, .ref mt, .int sts, .int al, .ref mq, .long wd, .int wS, .int wo, .int fw])), (mp, .inl (X.2.1, 12, .inl (M)))]) (r_V C (As := [.int (nI i), .int (nI j), .int a, .int b1, .int c1, .int d1]) (rest := [.ref mo]) (kX3_pairSquare l X mo mp ms mt mq sts al wd wS wo fw M n P Q o f ll i j a b1 c1 d1 (by first | assumption | omega | decide) (by first | assumption | omega | decide) (by first | assumption | omega | decide) (by first | assumption | omega | decide)) (cwV 6 C.ts gX3_kind_X3_pairSquare rfl rfl rfl (by decide +kernel) ⟨Nat.le_of_ble_eq_true rfl, Nat.le_of_ble_eq_true rfl⟩) (q0 := 0) rfl rfl [0, 1] (by decide) rfl rfl (Nat.le_of_ble_eq_true rfl) rfl dX3_kind_27 ⟨Nat.zero_le _, Nat.zero_le _⟩) [0, 1] [] [0, 1] rfl rfl (by decide) (by decide) (by decide) rfl ?_
  refine s_aload_n C (pc := 30) dX3_kind_30 rfl 0 rfl ?_
  refine s_iload_n C (pc := 31) dX3_kind_31 rfl 1 rfl ?_
  refine s_iload_n C (pc := 32) dX3_kind_32 rfl 2 rfl ?_
  refine s_calll C (pc := 33) (wr := []) (wc' := [(mo, .inr (3, [.ref mp, .ref ms, .ref mt, .int sts, .int al, .ref mq, .long wd, .int wS, .int wo, .int fw])), (mp, .inl (X.2.1, 12, .inl (M)))]) (wn := [(mo, .inr (3, [.ref mp, .ref ms, .ref mt, .int sts, .int al, .ref mq, .long wd, .int wS, .int wo, .int fw])), (mp, .inl (X.2.1, 12, .inl (M)))]) (r_V C (As := [.int (nI i), .int (nI j)]) (rest := [.long (psL P Q i j a b1 c1 d1), .ref mo]) (kX3_pairBase l X mo mp ms mt mq sts al wd wS wo fw M n P Q o f ll i j (by first | assumption | omega | decide) (by first | assumption | omega | decide) (by first | assumption | omega | decide) (by first | assumption | omega | decide)) (cwV 2 C.ts gX3_kind_X3_pairBase rfl rfl rfl (by decide +kernel) ⟨Nat.le_of_ble_eq_true rfl, Nat.le_of_ble_eq_true rfl⟩) (q0 := 0) rfl rfl [0, 1] (by decide) rfl rfl (Nat.le_of_ble_eq_true rfl) rfl dX3_kind_33 ⟨Nat.zero_le _, Nat.zero_le _⟩) [0, 1] [] [0, 1] rfl rfl (by decide) (by decide) (by decide) rfl ?_
  refine s_calli C (pc := 36) (wr := []) (wc' := [(mo, .inr (3, [.ref mp, .ref ms, .ref mt, .int sts, .int al, .ref mq, .long wd, .int wS, .int wo, .int fw])), (mp, .inl (X.2.1, 12, .inl (M)))]) (wn := [(mo, .inr (3, [.ref mp, .ref ms, .ref mt, .int sts, .int al, .ref mq, .long wd, .int wS, .int wo, .int fw])), (mp, .inl (X.2.1, 12, .inl (M)))]) (r_V C (As := [.long (psL P Q i j a b1 c1 d1), .long (bsL P Q i j)]) (rest := []) (kX3_kindOf l X mo mp ms mt mq sts al wd wS wo fw M n P Q o f ll (psL P Q i j a b1 c1 d1) (bsL P Q i j) (by first | assumption | omega | decide)) (cwV 2 C.ts gX3_kind_X3_kindOf rfl rfl rfl (by decide +kernel) ⟨Nat.le_of_ble_eq_true rfl, Nat.le_of_ble_eq_true rfl⟩) (q0 := 0) rfl rfl [0, 1] (by decide) rfl rfl (Nat.le_of_ble_eq_true rfl) rfl dX3_kind_36 ⟨Nat.zero_le _, Nat.zero_le _⟩) [0, 1] [] [0, 1] rfl rfl (by decide) (by decide) (by decide) rfl ?_
  refine s_goto C (pc := 39) (tgt := 43) dX3_kind_39 (by decide) ?_
  exact s_iret C (pc := 43) hr hlk [0, 1] (by decide) (rfl) (rfl) dX3_kind_43

set_option maxHeartbeats 4000000 in
set_option maxRecDepth 100000 in
theorem kX3_findAll (l : Launch) (X : XT) (mo mp ms mt mq : Nat) (sts al : Int32) (wd : Int64) (wS wo fw : Int32) (M : Nat → Int32) (n : Nat) (P Q : Nat → Int32) (w : Nat) (f ll : Int32) (hM : MR M n P Q (nI w) f ll) (hn : n ≤ 4) (hw : w = 1 ∨ w = 2) (hsm : smW P Q w f ll n) : KIx l yX3_findAll wsX3_findAll ({ frames := 4, cells := 0, slots := 0, locals := 112 }) X [.ref mo] [(mo, .inr (3, [.ref mp, .ref ms, .ref mt, .int sts, .int al, .ref mq, .long wd, .int wS, .int wo, .int fw])), (mp, .inl (X.2.1, 12, .inl (M)))] (fun u : Int64 => [(mo, .inr (3, [.ref mp, .ref ms, .ref mt, .int sts, .int al, .ref mq, .long u, .int ((faL P Q w f ll n).2.2), .int ((faL P Q w f ll n).2.1), .int fw])), (mp, .inl (X.2.1, 12, .inl (M)))]) (fun _ => True) ((faL P Q w f ll n).1) := by
  refine k_ofIx (cc := cX3_findAll) (own := RX3) (maxL := 6) (ret := (some .int)) (ls0 := [(0, .ref mo)]) (by decide) rfl rfl (Nat.le_of_ble_eq_true rfl) rfl ?_
  intro p e s m args below meth c A g C hr hlk
  refine s_iconst C (pc := 0) (v := 0) dX3_findAll_0 (by decide) ?_
  refine s_istore_n C (pc := 1) (ls' := [(1, .int 0), (0, .ref mo)]) dX3_findAll_1 rfl (by decide) rfl ?_
  refine s_aload_n C (pc := 2) dX3_findAll_2 rfl 1 rfl ?_
  refine s_bipush C (pc := 3) (v := (-4)) dX3_findAll_3 (by decide) ?_
  refine s_put C (pc := 5) (T := TX3) (N := 10) (ws' := [(mo, .inr (3, [.ref mp, .ref ms, .ref mt, .int sts, .int al, .ref mq, .long wd, .int wS, .int (-4), .int fw])), (mp, .inl (X.2.1, 12, .inl (M)))]) (fun _ h => (List.mem_cons_of_mem _ (List.mem_append_right _ h))) 0 rfl rfl tyX3 tyX3_ok nmX3 8 (by decide) (List.mem_of_getElem? (i := 1) rfl) rfl rfl rfl rfl (Nat.le_of_ble_eq_true rfl) rfl dX3_findAll_5 ?_
  refine s_aload_n C (pc := 8) dX3_findAll_8 rfl 1 rfl ?_
  refine s_bipush C (pc := 9) (v := (-4)) dX3_findAll_9 (by decide) ?_
  refine s_put C (pc := 11) (T := TX3) (N := 10) (ws' := [(mo, .inr (3, [.ref mp, .ref ms, .ref mt, .int sts, .int al, .ref mq, .long wd, .int (-4), .int (-4), .int fw])), (mp, .inl (X.2.1, 12, .inl (M)))]) (fun _ h => (List.mem_cons_of_mem _ (List.mem_append_right _ h))) 0 rfl rfl tyX3 tyX3_ok nmX3 7 (by decide) (List.mem_of_getElem? (i := 2) rfl) rfl rfl rfl rfl (Nat.le_of_ble_eq_true rfl) rfl dX3_findAll_11 ?_
  refine s_iconst C (pc := 14) (v := 0) dX3_findAll_14 (by decide) ?_
  refine s_istore_n C (pc := 15) (ls' := [(2, .int 0), (1, .int 0), (0, .ref mo)]) dX3_findAll_15 rfl (by decide) rfl ?_
  have L16 : ∀ (n_ : Nat) (i : Nat) (v : Int64), (i ≤ n) → n + 1 ≤ i + n_ → g [(mo, .inr (3, [.ref mp, .ref ms, .ref mt, .int sts, .int al, .ref mq, .long v, .int ((foF P Q w f ll n i).2.2), .int ((foF P Q w f ll n i).2.1), .int fw])), (mp, .inl (X.2.1, 12, .inl (M)))] 16 [(0, .ref mo), (1, .int ((foF P Q w f ll n i).1)), (2, .int (nI i))] [] := by
    intro n_
    induction n_ with
    | zero =>
      intro i v hii hf
      exact absurd hf (by omega)
    | succ n_ ih16 =>
      intro i v hii hf16
      refine s_iload_n C (pc := 16) dX3_findAll_16 rfl 2 rfl ?_
      refine s_aload_n C (pc := 17) dX3_findAll_17 rfl 0 rfl ?_
      refine s_get C (pc := 18) (T := TX3) (N := 10) (fun _ h => (List.mem_cons_of_mem _ (List.mem_append_right _ h))) 0 rfl rfl 0 (by decide) (List.mem_of_getElem? (i := 3) rfl) rfl rfl dX3_findAll_18 ?_
      refine s_iconst C (pc := 21) (v := 0) dX3_findAll_21 (by decide) ?_
      refine s_iald C (pc := 22) 1 rfl 0 rfl (by decide) (by decide) dX3_findAll_22 ?_
      refine s_top C (y := nI n) (hM.1) ?_
      refine s_icmp_ge C (pc := 23) (tgt := 73) dX3_findAll_23 (by decide) (fun c23 => ?_) (fun c23 => ?_)
      · skip
        have e23 := nat_le (a := n) (b := i) (by omega) (by omega) c23
        have hs0 : n = i := by omega
        subst hs0
        refine s_iconst C (pc := 73) (v := 0) dX3_findAll_73 (by decide) ?_
        refine s_istore_n C (pc := 74) (ls' := [(2, .int 0), (0, .ref mo), (1, .int ((foF P Q w f ll n n).1))]) dX3_findAll_74 rfl (by decide) rfl ?_
        have L75 : ∀ (n_ : Nat) (x : Nat) (v3 : Int64), (x ≤ 64) → 65 ≤ x + n_ → g [(mo, .inr (3, [.ref mp, .ref ms, .ref mt, .int sts, .int al, .ref mq, .long v3, .int ((ftF P Q w f ll n x).2.2), .int ((ftF P Q w f ll n x).2.1), .int fw])), (mp, .inl (X.2.1, 12, .inl (M)))] 75 [(0, .ref mo), (1, .int ((ftF P Q w f ll n x).1)), (2, .int (nI x))] [] := by
          intro n_
          induction n_ with
          | zero =>
            intro x v3 hx hf
            exact absurd hf (by omega)
          | succ n_ ih75 =>
            intro x v3 hx hf75
            refine s_iload_n C (pc := 75) dX3_findAll_75 rfl 2 rfl ?_
            refine s_bipush C (pc := 76) (v := 64) dX3_findAll_76 (by decide) ?_
            refine s_icmp_ge C (pc := 78) (tgt := 154) dX3_findAll_78 (by decide) (fun c78 => ?_) (fun c78 => ?_)
            · skip
              have e78 := nat_le (a := 64) (b := x) (by omega) (by omega) c78
              have hs0 : 64 = x := by omega
              subst hs0
              refine s_iload_n C (pc := 154) dX3_findAll_154 rfl 1 rfl ?_
              exact s_iretX C (pc := 155) hr hlk (v3) trivial [0, 1] (by decide) (by rw [faL_eq]; rfl) (by rw [faL_eq]) dX3_findAll_155
            · skip
              have e78 := nat_nle (a := 64) (b := x) (by omega) (by omega) c78
              have hb1 : t64I x < 4 := by unfold t64I; omega
              have hb2 : t64J x < 4 := by unfold t64J; omega
              have hb3 : t64K x < 4 := by unfold t64K; omega
              refine s_iload_n C (pc := 81) dX3_findAll_81 rfl 2 rfl ?_
              refine s_bipush C (pc := 82) (v := 16) dX3_findAll_82 (by decide) ?_
              refine s_idiv C (pc := 84) dX3_findAll_84 (by decide) ?_
              refine s_top C (y := nI (t64I x)) (pk_div (a := x) (d := 16) (by omega) (by omega) (by omega)) ?_
              refine s_istore_n C (pc := 85) (ls' := [(3, .int (nI (t64I x))), (0, .ref mo), (1, .int ((ftF P Q w f ll n x).1)), (2, .int (nI x))]) dX3_findAll_85 rfl (by decide) rfl ?_
              refine s_iload_n C (pc := 86) dX3_findAll_86 rfl 3 rfl ?_
              refine s_iconst C (pc := 87) (v := 4) dX3_findAll_87 (by decide) ?_
              refine s_idiv C (pc := 88) dX3_findAll_88 (by decide) ?_
              refine s_top C (y := nI (x / 4)) (pk_div (a := x) (d := 4) (by omega) (by omega) (by omega)) ?_
              refine s_iconst C (pc := 89) (v := 4) dX3_findAll_89 (by decide) ?_
              refine s_irem C (pc := 90) dX3_findAll_90 (by decide) ?_
              refine s_top C (y := nI (t64J x)) (pk_rem (a := x / 4) (d := 4) (by omega) (by omega) (by omega)) ?_
              refine s_istore C (pc := 91) (ls' := [(4, .int (nI (t64J x))), (3, .int (nI (t64I x))), (0, .ref mo), (1, .int ((ftF P Q w f ll n x).1)), (2, .int (nI x))]) dX3_findAll_91 (by decide) rfl ?_
              refine s_iload_n C (pc := 93) dX3_findAll_93 rfl 4 rfl ?_
              refine s_iconst C (pc := 94) (v := 4) dX3_findAll_94 (by decide) ?_
              refine s_irem C (pc := 95) dX3_findAll_95 (by decide) ?_
              refine s_top C (y := nI (t64K x)) (pk_rem (a := x) (d := 4) (by omega) (by omega) (by omega)) ?_
              refine s_istore C (pc := 96) (ls' := [(5, .int (nI (t64K x))), (4, .int (nI (t64J x))), (3, .int (nI (t64I x))), (0, .ref mo), (1, .int ((ftF P Q w f ll n x).1)), (2, .int (nI x))]) dX3_findAll_96 (by decide) rfl ?_
              refine s_aload_n C (pc := 98) dX3_findAll_98 rfl 3 rfl ?_
              refine s_iload_n C (pc := 99) dX3_findAll_99 rfl 2 rfl ?_
              refine s_iload C (pc := 100) dX3_findAll_100 1 rfl ?_
              refine s_calli C (pc := 102) (wr := []) (wc' := [(mo, .inr (3, [.ref mp, .ref ms, .ref mt, .int sts, .int al, .ref mq, .long v3, .int ((ftF P Q w f ll n x).2.2), .int ((ftF P Q w f ll n x).2.1), .int fw])), (mp, .inl (X.2.1, 12, .inl (M)))]) (wn := [(mo, .inr (3, [.ref mp, .ref ms, .ref mt, .int sts, .int al, .ref mq, .long v3, .int ((ftF P Q w f ll n x).2.2), .int ((ftF P Q w f ll n x).2.1), .int fw])), (mp, .inl (X.2.1, 12, .inl (M)))]) (r_V C (As := [.int (nI (t64I x)), .int (nI (t64J x))]) (rest := []) (kX3_isPair l X mo mp ms mt mq sts al v3 ((ftF P Q w f ll n x).2.2) ((ftF P Q w f ll n x).2.1) fw M n P Q (nI w) f ll (nI (t64I x)) (nI (t64J x)) (by first | assumption | omega | decide) (by first | assumption | omega | decide)) (cwV 2 C.ts gX3_findAll_X3_isPair rfl rfl rfl (by decide +kernel) ⟨Nat.le_of_ble_eq_true rfl, Nat.le_of_ble_eq_true rfl⟩) (q0 := 0) rfl rfl [0, 1] (by decide) rfl rfl (Nat.le_of_ble_eq_true rfl) rfl dX3_findAll_102 ⟨Nat.zero_le _, Nat.zero_le _⟩) [0, 1] [] [0, 1] rfl rfl (by decide) (by decide) (by decide) rfl ?_
              refine s_bif_eq C (pc := 105) (tgt := 148) dX3_findAll_105 (by decide) (fun c105 => ?_) (fun c105 => ?_)
              · skip
                refine s_iinc C (pc := 148) (v := nI (x + 1)) (ls' := [(2, .int (nI (x + 1))), (5, .int (nI (t64K x))), (4, .int (nI (t64J x))), (3, .int (nI (t64I x))), (0, .ref mo), (1, .int ((ftF P Q w f ll n x).1))]) dX3_findAll_148 5 rfl (nI_1 _) (by decide) rfl ?_
                refine s_goto C (pc := 151) (tgt := 75) dX3_findAll_151 (by decide) ?_
                refine s_loc C (ls' := [(0, .ref mo), (1, .int ((ftF P Q w f ll n x).1)), (2, .int (nI (x + 1)))]) [4, 5, 0] rfl ?_
                have hb := ih75 (x + 1) v3 (by omega) (by omega)
                rw [show ftF P Q w f ll n (x + 1) = ftF P Q w f ll n x from if_neg (fun hh => c105 ((hp_nat (by omega) (by omega) (by omega)).mpr ⟨hh.1, by omega⟩))] at hb
                exact hb
              · skip
                have g1 := (hp_nat (by omega) (by omega) (by omega)).mp c105
                refine s_aload_n C (pc := 108) dX3_findAll_108 rfl 3 rfl ?_
                refine s_iload C (pc := 109) dX3_findAll_109 1 rfl ?_
                refine s_iload C (pc := 111) dX3_findAll_111 0 rfl ?_
                refine s_calli C (pc := 113) (wr := []) (wc' := [(mo, .inr (3, [.ref mp, .ref ms, .ref mt, .int sts, .int al, .ref mq, .long v3, .int ((ftF P Q w f ll n x).2.2), .int ((ftF P Q w f ll n x).2.1), .int fw])), (mp, .inl (X.2.1, 12, .inl (M)))]) (wn := [(mo, .inr (3, [.ref mp, .ref ms, .ref mt, .int sts, .int al, .ref mq, .long v3, .int ((ftF P Q w f ll n x).2.2), .int ((ftF P Q w f ll n x).2.1), .int fw])), (mp, .inl (X.2.1, 12, .inl (M)))]) (r_V C (As := [.int (nI (t64J x)), .int (nI (t64K x))]) (rest := []) (kX3_isPair l X mo mp ms mt mq sts al v3 ((ftF P Q w f ll n x).2.2) ((ftF P Q w f ll n x).2.1) fw M n P Q (nI w) f ll (nI (t64J x)) (nI (t64K x)) (by first | assumption | omega | decide) (by first | assumption | omega | decide)) (cwV 2 C.ts gX3_findAll_X3_isPair rfl rfl rfl (by decide +kernel) ⟨Nat.le_of_ble_eq_true rfl, Nat.le_of_ble_eq_true rfl⟩) (q0 := 0) rfl rfl [0, 1] (by decide) rfl rfl (Nat.le_of_ble_eq_true rfl) rfl dX3_findAll_113 ⟨Nat.zero_le _, Nat.zero_le _⟩) [0, 1] [] [0, 1] rfl rfl (by decide) (by decide) (by decide) rfl ?_
                refine s_bif_eq C (pc := 116) (tgt := 148) dX3_findAll_116 (by decide) (fun c116 => ?_) (fun c116 => ?_)
                · skip
                  refine s_iinc C (pc := 148) (v := nI (x + 1)) (ls' := [(2, .int (nI (x + 1))), (5, .int (nI (t64K x))), (4, .int (nI (t64J x))), (3, .int (nI (t64I x))), (0, .ref mo), (1, .int ((ftF P Q w f ll n x).1))]) dX3_findAll_148 5 rfl (nI_1 _) (by decide) rfl ?_
                  refine s_goto C (pc := 151) (tgt := 75) dX3_findAll_151 (by decide) ?_
                  refine s_loc C (ls' := [(0, .ref mo), (1, .int ((ftF P Q w f ll n x).1)), (2, .int (nI (x + 1)))]) [4, 5, 0] rfl ?_
                  have hb := ih75 (x + 1) v3 (by omega) (by omega)
                  rw [show ftF P Q w f ll n (x + 1) = ftF P Q w f ll n x from if_neg (fun hh => c116 ((hp_nat (by omega) (by omega) (by omega)).mpr ⟨hh.2.1, hh.2.2⟩))] at hb
                  exact hb
                · skip
                  have g2 := (hp_nat (by omega) (by omega) (by omega)).mp c116
                  refine s_iload_n C (pc := 119) dX3_findAll_119 rfl 4 rfl ?_
                  refine s_aload_n C (pc := 120) dX3_findAll_120 rfl 3 rfl ?_
                  refine s_iload_n C (pc := 121) dX3_findAll_121 rfl 2 rfl ?_
                  refine s_iload C (pc := 122) dX3_findAll_122 1 rfl ?_
                  refine s_iload C (pc := 124) dX3_findAll_124 0 rfl ?_
                  refine s_calli C (pc := 126) (wr := []) (wc' := [(mo, .inr (3, [.ref mp, .ref ms, .ref mt, .int sts, .int al, .ref mq, .long ((b3F P Q f ll (t64I x) (t64J x) (t64K x) 64).2), .int ((ftF P Q w f ll n x).2.2), .int ((ftF P Q w f ll n x).2.1), .int fw])), (mp, .inl (X.2.1, 12, .inl (M)))]) (wn := [(mo, .inr (3, [.ref mp, .ref ms, .ref mt, .int sts, .int al, .ref mq, .long ((b3F P Q f ll (t64I x) (t64J x) (t64K x) 64).2), .int ((ftF P Q w f ll n x).2.2), .int ((ftF P Q w f ll n x).2.1), .int fw])), (mp, .inl (X.2.1, 12, .inl (M)))]) (r_V C (As := [.int (nI (t64I x)), .int (nI (t64J x)), .int (nI (t64K x))]) (rest := [.int ((ftF P Q w f ll n x).1)]) (kX3_bandsOfThree l X mo mp ms mt mq sts al v3 ((ftF P Q w f ll n x).2.2) ((ftF P Q w f ll n x).2.1) fw M n P Q (nI w) f ll (t64I x) (t64J x) (t64K x) (by first | assumption | omega | decide) (by first | assumption | omega | decide) (by first | assumption | omega | decide) (by first | assumption | omega | decide) (by first | assumption | omega | decide)) (cwV 3 C.ts gX3_findAll_X3_bandsOfThree rfl rfl rfl (by decide +kernel) ⟨Nat.le_of_ble_eq_true rfl, Nat.le_of_ble_eq_true rfl⟩) (q0 := 0) rfl rfl [0, 1] (by decide) rfl rfl (Nat.le_of_ble_eq_true rfl) rfl dX3_findAll_126 ⟨Nat.zero_le _, Nat.zero_le _⟩) [0, 1] [] [0, 1] rfl rfl (by decide) (by decide) (by decide) rfl ?_
                  refine s_iadd C (pc := 129) dX3_findAll_129 ?_
                  refine s_istore_n C (pc := 130) (ls' := [(1, .int (((ftF P Q w f ll n x).1) + ((b3F P Q f ll (t64I x) (t64J x) (t64K x) 64).1))), (5, .int (nI (t64K x))), (4, .int (nI (t64J x))), (3, .int (nI (t64I x))), (0, .ref mo), (2, .int (nI x))]) dX3_findAll_130 rfl (by decide) rfl ?_
                  obtain ⟨q, hq2, hq1⟩ := hsm.2 (t64I x) (t64J x) (t64K x) g1.1 g2.1 g2.2
                  refine s_aload_n C (pc := 131) dX3_findAll_131 rfl 4 rfl ?_
                  refine s_iconst C (pc := 132) (v := 1) dX3_findAll_132 (by decide) ?_
                  refine s_iload_n C (pc := 133) dX3_findAll_133 rfl 3 rfl ?_
                  refine s_ishl C (pc := 134) dX3_findAll_134 ?_
                  refine s_iconst C (pc := 135) (v := 1) dX3_findAll_135 (by decide) ?_
                  refine s_iload C (pc := 136) dX3_findAll_136 2 rfl ?_
                  refine s_ishl C (pc := 138) dX3_findAll_138 ?_
                  refine s_ior C (pc := 139) dX3_findAll_139 ?_
                  refine s_iconst C (pc := 140) (v := 1) dX3_findAll_140 (by decide) ?_
                  refine s_iload C (pc := 141) dX3_findAll_141 1 rfl ?_
                  refine s_ishl C (pc := 143) dX3_findAll_143 ?_
                  refine s_ior C (pc := 144) dX3_findAll_144 ?_
                  refine s_callv C (pc := 145) (wr := [(mp, .inl (X.2.1, 12, .inl (M)))]) (wc' := [(mo, .inr (3, [.ref mp, .ref ms, .ref mt, .int sts, .int al, .ref mq, .long ((b3F P Q f ll (t64I x) (t64J x) (t64K x) 64).2), .int ((ntF ((b3F P Q f ll (t64I x) (t64J x) (t64K x) 64).2) (((1 <<< ((nI (t64I x)) &&& 31)) ||| (1 <<< ((nI (t64J x)) &&& 31))) ||| (1 <<< ((nI (t64K x)) &&& 31))) (((ftF P Q w f ll n x).2.1), ((ftF P Q w f ll n x).2.2))).2), .int ((ntF ((b3F P Q f ll (t64I x) (t64J x) (t64K x) 64).2) (((1 <<< ((nI (t64I x)) &&& 31)) ||| (1 <<< ((nI (t64J x)) &&& 31))) ||| (1 <<< ((nI (t64K x)) &&& 31))) (((ftF P Q w f ll n x).2.1), ((ftF P Q w f ll n x).2.2))).1), .int fw]))]) (wn := [(mo, .inr (3, [.ref mp, .ref ms, .ref mt, .int sts, .int al, .ref mq, .long ((b3F P Q f ll (t64I x) (t64J x) (t64K x) 64).2), .int ((ntF ((b3F P Q f ll (t64I x) (t64J x) (t64K x) 64).2) (((1 <<< ((nI (t64I x)) &&& 31)) ||| (1 <<< ((nI (t64J x)) &&& 31))) ||| (1 <<< ((nI (t64K x)) &&& 31))) (((ftF P Q w f ll n x).2.1), ((ftF P Q w f ll n x).2.2))).2), .int ((ntF ((b3F P Q f ll (t64I x) (t64J x) (t64K x) 64).2) (((1 <<< ((nI (t64I x)) &&& 31)) ||| (1 <<< ((nI (t64J x)) &&& 31))) ||| (1 <<< ((nI (t64K x)) &&& 31))) (((ftF P Q w f ll n x).2.1), ((ftF P Q w f ll n x).2.2))).1), .int fw])), (mp, .inl (X.2.1, 12, .inl (M)))]) (r_V C (As := [.int (((1 <<< ((nI (t64I x)) &&& 31)) ||| (1 <<< ((nI (t64J x)) &&& 31))) ||| (1 <<< ((nI (t64K x)) &&& 31)))]) (rest := []) (kX3_note l X mo mp ms mt mq sts al ((b3F P Q f ll (t64I x) (t64J x) (t64K x) 64).2) ((ftF P Q w f ll n x).2.2) ((ftF P Q w f ll n x).2.1) fw (((1 <<< ((nI (t64I x)) &&& 31)) ||| (1 <<< ((nI (t64J x)) &&& 31))) ||| (1 <<< ((nI (t64K x)) &&& 31))) q hq1 hq2) (cwV 1 C.ts gX3_findAll_X3_note rfl rfl rfl (by decide +kernel) ⟨Nat.le_of_ble_eq_true rfl, Nat.le_of_ble_eq_true rfl⟩) (q0 := 0) rfl rfl [0] (by decide) rfl rfl (Nat.le_of_ble_eq_true rfl) rfl dX3_findAll_145 ⟨Nat.zero_le _, Nat.zero_le _⟩) [0] [1] [1, 0] rfl rfl (by decide) (by decide) (by decide) rfl ?_
                  refine s_iinc C (pc := 148) (v := nI (x + 1)) (ls' := [(2, .int (nI (x + 1))), (1, .int (((ftF P Q w f ll n x).1) + ((b3F P Q f ll (t64I x) (t64J x) (t64K x) 64).1))), (5, .int (nI (t64K x))), (4, .int (nI (t64J x))), (3, .int (nI (t64I x))), (0, .ref mo)]) dX3_findAll_148 5 rfl (nI_1 _) (by decide) rfl ?_
                  refine s_goto C (pc := 151) (tgt := 75) dX3_findAll_151 (by decide) ?_
                  refine s_loc C (ls' := [(0, .ref mo), (1, .int (((ftF P Q w f ll n x).1) + ((b3F P Q f ll (t64I x) (t64J x) (t64K x) 64).1))), (2, .int (nI (x + 1)))]) [5, 1, 0] rfl ?_
                  have hb := ih75 (x + 1) ((b3F P Q f ll (t64I x) (t64J x) (t64K x) 64).2) (by omega) (by omega)
                  rw [show ftF P Q w f ll n (x + 1) = ((ftF P Q w f ll n x).1 + (b3F P Q f ll (t64I x) (t64J x) (t64K x) 64).1, ntF (b3F P Q f ll (t64I x) (t64J x) (t64K x) 64).2 ((1 : Int32) <<< (nI (t64I x) &&& 31) ||| (1 : Int32) <<< (nI (t64J x) &&& 31) ||| (1 : Int32) <<< (nI (t64K x) &&& 31)) (ftF P Q w f ll n x).2) from if_pos ⟨g1.1, g2.1, g2.2⟩] at hb
                  exact hb
        refine s_loc C (ls' := [(0, .ref mo), (1, .int ((foF P Q w f ll n n).1)), (2, .int 0)]) [1, 2, 0] rfl ?_
        exact L75 65 0 v (Nat.zero_le _) (by omega)
      · skip
        have e23 := nat_nle (a := n) (b := i) (by omega) (by omega) c23
        refine s_iload_n C (pc := 26) dX3_findAll_26 rfl 2 rfl ?_
        refine s_iconst C (pc := 27) (v := 1) dX3_findAll_27 (by decide) ?_
        refine s_iadd C (pc := 28) dX3_findAll_28 ?_
        refine s_top C (y := nI (i + 1)) (nI_add _ _) ?_
        refine s_istore_n C (pc := 29) (ls' := [(3, .int (nI (i + 1))), (0, .ref mo), (1, .int ((foF P Q w f ll n i).1)), (2, .int (nI i))]) dX3_findAll_29 rfl (by decide) rfl ?_
        have L30 : ∀ (n_ : Nat) (d : Nat) (v2 : Int64), (d ≤ n - (i + 1)) → n - (i + 1) + 1 ≤ d + n_ → g [(mo, .inr (3, [.ref mp, .ref ms, .ref mt, .int sts, .int al, .ref mq, .long v2, .int ((fiF P Q w f ll i (foF P Q w f ll n i) d).2.2), .int ((fiF P Q w f ll i (foF P Q w f ll n i) d).2.1), .int fw])), (mp, .inl (X.2.1, 12, .inl (M)))] 30 [(0, .ref mo), (1, .int ((fiF P Q w f ll i (foF P Q w f ll n i) d).1)), (2, .int (nI i)), (3, .int (nI (i + 1 + d)))] [] := by
          intro n_
          induction n_ with
          | zero =>
            intro d v2 hd hf
            exact absurd hf (by omega)
          | succ n_ ih30 =>
            intro d v2 hd hf30
            refine s_iload_n C (pc := 30) dX3_findAll_30 rfl 3 rfl ?_
            refine s_aload_n C (pc := 31) dX3_findAll_31 rfl 0 rfl ?_
            refine s_get C (pc := 32) (T := TX3) (N := 10) (fun _ h => (List.mem_cons_of_mem _ (List.mem_append_right _ h))) 0 rfl rfl 0 (by decide) (List.mem_of_getElem? (i := 3) rfl) rfl rfl dX3_findAll_32 ?_
            refine s_iconst C (pc := 35) (v := 0) dX3_findAll_35 (by decide) ?_
            refine s_iald C (pc := 36) 1 rfl 0 rfl (by decide) (by decide) dX3_findAll_36 ?_
            refine s_top C (y := nI n) (hM.1) ?_
            refine s_icmp_ge C (pc := 37) (tgt := 67) dX3_findAll_37 (by decide) (fun c37 => ?_) (fun c37 => ?_)
            · skip
              have e37 := nat_le (a := n) (b := (i + 1 + d)) (by omega) (by omega) c37
              have hs0 : n - (i + 1) = d := by omega
              subst hs0
              refine s_iinc C (pc := 67) (v := nI (i + 1)) (ls' := [(2, .int (nI (i + 1))), (0, .ref mo), (1, .int ((fiF P Q w f ll i (foF P Q w f ll n i) (n - (i + 1))).1)), (3, .int (nI (i + 1 + (n - (i + 1)))))]) dX3_findAll_67 2 rfl (nI_1 _) (by decide) rfl ?_
              refine s_goto C (pc := 70) (tgt := 16) dX3_findAll_70 (by decide) ?_
              refine s_loc C (ls' := [(0, .ref mo), (1, .int ((fiF P Q w f ll i (foF P Q w f ll n i) (n - (i + 1))).1)), (2, .int (nI (i + 1)))]) [1, 2, 0] rfl ?_
              exact ih16 (i + 1) v2 (by omega) (by omega)
            · skip
              have e37 := nat_nle (a := n) (b := (i + 1 + d)) (by omega) (by omega) c37
              refine s_iload_n C (pc := 40) dX3_findAll_40 rfl 1 rfl ?_
              refine s_aload_n C (pc := 41) dX3_findAll_41 rfl 0 rfl ?_
              refine s_iload_n C (pc := 42) dX3_findAll_42 rfl 2 rfl ?_
              refine s_iload_n C (pc := 43) dX3_findAll_43 rfl 3 rfl ?_
              refine s_iconst C (pc := 44) (v := 3) dX3_findAll_44 (by decide) ?_
              refine s_calli C (pc := 45) (wr := []) (wc' := [(mo, .inr (3, [.ref mp, .ref ms, .ref mt, .int sts, .int al, .ref mq, .long ((okF P Q w f ll i (i + 1 + d) 3 (wd4 w)).2), .int ((fiF P Q w f ll i (foF P Q w f ll n i) d).2.2), .int ((fiF P Q w f ll i (foF P Q w f ll n i) d).2.1), .int fw])), (mp, .inl (X.2.1, 12, .inl (M)))]) (wn := [(mo, .inr (3, [.ref mp, .ref ms, .ref mt, .int sts, .int al, .ref mq, .long ((okF P Q w f ll i (i + 1 + d) 3 (wd4 w)).2), .int ((fiF P Q w f ll i (foF P Q w f ll n i) d).2.2), .int ((fiF P Q w f ll i (foF P Q w f ll n i) d).2.1), .int fw])), (mp, .inl (X.2.1, 12, .inl (M)))]) (r_V C (As := [.int (nI i), .int (nI (i + 1 + d)), .int 3]) (rest := [.int ((fiF P Q w f ll i (foF P Q w f ll n i) d).1)]) (kX3_ofKind l X mo mp ms mt mq sts al v2 ((fiF P Q w f ll i (foF P Q w f ll n i) d).2.2) ((fiF P Q w f ll i (foF P Q w f ll n i) d).2.1) fw M n P Q w f ll i (i + 1 + d) 3 (by first | assumption | omega | decide) (by first | assumption | omega | decide) (by first | assumption | omega | decide) (by first | assumption | omega | decide) (by first | assumption | omega | decide)) (cwV 3 C.ts gX3_findAll_X3_ofKind rfl rfl rfl (by decide +kernel) ⟨Nat.le_of_ble_eq_true rfl, Nat.le_of_ble_eq_true rfl⟩) (q0 := 0) rfl rfl [0, 1] (by decide) rfl rfl (Nat.le_of_ble_eq_true rfl) rfl dX3_findAll_45 ⟨Nat.zero_le _, Nat.zero_le _⟩) [0, 1] [] [0, 1] rfl rfl (by decide) (by decide) (by decide) rfl ?_
              refine s_iadd C (pc := 48) dX3_findAll_48 ?_
              refine s_istore_n C (pc := 49) (ls' := [(1, .int (((fiF P Q w f ll i (foF P Q w f ll n i) d).1) + ((okF P Q w f ll i (i + 1 + d) 3 (wd4 w)).1))), (0, .ref mo), (2, .int (nI i)), (3, .int (nI (i + 1 + d)))]) dX3_findAll_49 rfl (by decide) rfl ?_
              obtain ⟨q, hq2, hq1⟩ := hsm.1 i (i + 1 + d) (by omega) (by omega)
              refine s_aload_n C (pc := 50) dX3_findAll_50 rfl 1 rfl ?_
              refine s_iconst C (pc := 51) (v := 1) dX3_findAll_51 (by decide) ?_
              refine s_iload_n C (pc := 52) dX3_findAll_52 rfl 2 rfl ?_
              refine s_ishl C (pc := 53) dX3_findAll_53 ?_
              refine s_iconst C (pc := 54) (v := 1) dX3_findAll_54 (by decide) ?_
              refine s_iload_n C (pc := 55) dX3_findAll_55 rfl 3 rfl ?_
              refine s_ishl C (pc := 56) dX3_findAll_56 ?_
              refine s_ior C (pc := 57) dX3_findAll_57 ?_
              refine s_callv C (pc := 58) (wr := [(mp, .inl (X.2.1, 12, .inl (M)))]) (wc' := [(mo, .inr (3, [.ref mp, .ref ms, .ref mt, .int sts, .int al, .ref mq, .long ((okF P Q w f ll i (i + 1 + d) 3 (wd4 w)).2), .int ((ntF ((okF P Q w f ll i (i + 1 + d) 3 (wd4 w)).2) ((1 <<< ((nI i) &&& 31)) ||| (1 <<< ((nI (i + 1 + d)) &&& 31))) (((fiF P Q w f ll i (foF P Q w f ll n i) d).2.1), ((fiF P Q w f ll i (foF P Q w f ll n i) d).2.2))).2), .int ((ntF ((okF P Q w f ll i (i + 1 + d) 3 (wd4 w)).2) ((1 <<< ((nI i) &&& 31)) ||| (1 <<< ((nI (i + 1 + d)) &&& 31))) (((fiF P Q w f ll i (foF P Q w f ll n i) d).2.1), ((fiF P Q w f ll i (foF P Q w f ll n i) d).2.2))).1), .int fw]))]) (wn := [(mo, .inr (3, [.ref mp, .ref ms, .ref mt, .int sts, .int al, .ref mq, .long ((okF P Q w f ll i (i + 1 + d) 3 (wd4 w)).2), .int ((ntF ((okF P Q w f ll i (i + 1 + d) 3 (wd4 w)).2) ((1 <<< ((nI i) &&& 31)) ||| (1 <<< ((nI (i + 1 + d)) &&& 31))) (((fiF P Q w f ll i (foF P Q w f ll n i) d).2.1), ((fiF P Q w f ll i (foF P Q w f ll n i) d).2.2))).2), .int ((ntF ((okF P Q w f ll i (i + 1 + d) 3 (wd4 w)).2) ((1 <<< ((nI i) &&& 31)) ||| (1 <<< ((nI (i + 1 + d)) &&& 31))) (((fiF P Q w f ll i (foF P Q w f ll n i) d).2.1), ((fiF P Q w f ll i (foF P Q w f ll n i) d).2.2))).1), .int fw])), (mp, .inl (X.2.1, 12, .inl (M)))]) (r_V C (As := [.int ((1 <<< ((nI i) &&& 31)) ||| (1 <<< ((nI (i + 1 + d)) &&& 31)))]) (rest := []) (kX3_note l X mo mp ms mt mq sts al ((okF P Q w f ll i (i + 1 + d) 3 (wd4 w)).2) ((fiF P Q w f ll i (foF P Q w f ll n i) d).2.2) ((fiF P Q w f ll i (foF P Q w f ll n i) d).2.1) fw ((1 <<< ((nI i) &&& 31)) ||| (1 <<< ((nI (i + 1 + d)) &&& 31))) q hq1 hq2) (cwV 1 C.ts gX3_findAll_X3_note rfl rfl rfl (by decide +kernel) ⟨Nat.le_of_ble_eq_true rfl, Nat.le_of_ble_eq_true rfl⟩) (q0 := 0) rfl rfl [0] (by decide) rfl rfl (Nat.le_of_ble_eq_true rfl) rfl dX3_findAll_58 ⟨Nat.zero_le _, Nat.zero_le _⟩) [0] [1] [1, 0] rfl rfl (by decide) (by decide) (by decide) rfl ?_
              refine s_iinc C (pc := 61) (v := nI ((i + 1 + d) + 1)) (ls' := [(3, .int (nI ((i + 1 + d) + 1))), (1, .int (((fiF P Q w f ll i (foF P Q w f ll n i) d).1) + ((okF P Q w f ll i (i + 1 + d) 3 (wd4 w)).1))), (0, .ref mo), (2, .int (nI i))]) dX3_findAll_61 3 rfl (nI_1 _) (by decide) rfl ?_
              refine s_goto C (pc := 64) (tgt := 30) dX3_findAll_64 (by decide) ?_
              refine s_loc C (ls' := [(0, .ref mo), (1, .int (((fiF P Q w f ll i (foF P Q w f ll n i) d).1) + ((okF P Q w f ll i (i + 1 + d) 3 (wd4 w)).1))), (2, .int (nI i)), (3, .int (nI ((i + 1 + d) + 1)))]) [2, 1, 3, 0] rfl ?_
              exact ih30 (d + 1) ((okF P Q w f ll i (i + 1 + d) 3 (wd4 w)).2) (by omega) (by omega)
        refine s_loc C (ls' := [(0, .ref mo), (1, .int ((foF P Q w f ll n i).1)), (2, .int (nI i)), (3, .int (nI (i + 1)))]) [1, 2, 3, 0] rfl ?_
        exact L30 (n - (i + 1) + 1) 0 v (Nat.zero_le _) (by omega)
  refine s_loc C (ls' := [(0, .ref mo), (1, .int 0), (2, .int 0)]) [2, 1, 0] rfl ?_
  exact L16 (n + 1) 0 wd (Nat.zero_le _) (by omega)

set_option maxHeartbeats 4000000 in
set_option maxRecDepth 100000 in
theorem kX3_allBands (l : Launch) (X : XT) (mo mp ms mt mq : Nat) (sts al : Int32) (wd : Int64) (wS wo fw : Int32) (M : Nat → Int32) (n : Nat) (P Q : Nat → Int32) (w : Nat) (f ll : Int32) (hM : MR M n P Q (nI w) f ll) (hn : n ≤ 4) (hw : w = 1 ∨ w = 2) (hsm : smW P Q w f ll n) : KIx l yX3_allBands wsX3_allBands ({ frames := 5, cells := 0, slots := 0, locals := 137 }) X [.ref mo] [(mo, .inr (3, [.ref mp, .ref ms, .ref mt, .int sts, .int al, .ref mq, .long wd, .int wS, .int wo, .int fw])), (mp, .inl (X.2.1, 12, .inl (M)))] (fun u : Int32 × Int64 × Int32 × Int32 × Int32 => [(mo, .inr (3, [.ref mp, .ref ms, .ref mt, .int sts, .int u.1, .ref mq, .long u.2.1, .int u.2.2.1, .int u.2.2.2.1, .int u.2.2.2.2])), (mp, .inl (X.2.1, 12, .inl (M)))]) (fun _ => True) ((faL P Q w f ll n).1) := by
  refine k_ofIx (cc := cX3_allBands) (own := RX3) (maxL := 1) (ret := (some .int)) (ls0 := [(0, .ref mo)]) (by decide) rfl rfl (Nat.le_of_ble_eq_true rfl) rfl ?_
  intro p e s m args below meth c A g C hr hlk
  refine s_aload_n C (pc := 0) dX3_allBands_0 rfl 0 rfl ?_
  refine s_calliX C (pc := 1) (wr := []) (wc' := (fun u1_1 : Int64 => [(mo, .inr (3, [.ref mp, .ref ms, .ref mt, .int sts, .int al, .ref mq, .long u1_1, .int ((faL P Q w f ll n).2.2), .int ((faL P Q w f ll n).2.1), .int fw])), (mp, .inl (X.2.1, 12, .inl (M)))])) (wn := (fun u1_1 : Int64 => [(mo, .inr (3, [.ref mp, .ref ms, .ref mt, .int sts, .int al, .ref mq, .long u1_1, .int ((faL P Q w f ll n).2.2), .int ((faL P Q w f ll n).2.1), .int fw])), (mp, .inl (X.2.1, 12, .inl (M)))])) (r_V C (As := []) (rest := []) (kX3_findAll l X mo mp ms mt mq sts al wd wS wo fw M n P Q w f ll (by first | assumption | omega | decide) (by first | assumption | omega | decide) (by first | assumption | omega | decide) (by first | assumption | omega | decide)) (cwV 0 C.ts gX3_allBands_X3_findAll rfl rfl rfl (by decide +kernel) ⟨Nat.le_of_ble_eq_true rfl, Nat.le_of_ble_eq_true rfl⟩) (q0 := 0) rfl rfl [0, 1] (by decide) rfl rfl (Nat.le_of_ble_eq_true rfl) rfl dX3_allBands_1 ⟨Nat.zero_le _, Nat.zero_le _⟩) [0, 1] [] [0, 1] rfl rfl (by decide) (by decide) (by decide) (fun _ => rfl) (fun u1_1 _ => ?_)
  exact s_iretX C (pc := 4) hr hlk ((al, u1_1, (faL P Q w f ll n).2.2, (faL P Q w f ll n).2.1, fw)) trivial [0, 1] (by decide) (rfl) (rfl) dX3_allBands_4

set_option maxHeartbeats 4000000 in
set_option maxRecDepth 100000 in
theorem kX3_worstPlates (l : Launch) (X : XT) (mo mp ms mt mq : Nat) (sts al : Int32) (wd : Int64) (wS wo fw : Int32) (M : Nat → Int32) (n : Nat) (P Q : Nat → Int32) (w : Nat) (f ll : Int32) (hM : MR M n P Q (nI w) f ll) (hn : n ≤ 4) (hw : w = 1 ∨ w = 2) (hsm : smW P Q w f ll n) : KIx l yX3_worstPlates wsX3_worstPlates ({ frames := 5, cells := 0, slots := 0, locals := 137 }) X [.ref mo] [(mo, .inr (3, [.ref mp, .ref ms, .ref mt, .int sts, .int al, .ref mq, .long wd, .int wS, .int wo, .int fw])), (mp, .inl (X.2.1, 12, .inl (M)))] (fun u : Int32 × Int64 × Int32 × Int32 × Int32 => [(mo, .inr (3, [.ref mp, .ref ms, .ref mt, .int sts, .int u.1, .ref mq, .long u.2.1, .int u.2.2.1, .int u.2.2.2.1, .int u.2.2.2.2])), (mp, .inl (X.2.1, 12, .inl (M)))]) (fun _ => True) ((faL P Q w f ll n).2.2) := by
  refine k_ofIx (cc := cX3_worstPlates) (own := RX3) (maxL := 2) (ret := (some .int)) (ls0 := [(0, .ref mo)]) (by decide) rfl rfl (Nat.le_of_ble_eq_true rfl) rfl ?_
  intro p e s m args below meth c A g C hr hlk
  refine s_aload_n C (pc := 0) dX3_worstPlates_0 rfl 0 rfl ?_
  refine s_calliX C (pc := 1) (wr := []) (wc' := (fun u1_1 : Int64 => [(mo, .inr (3, [.ref mp, .ref ms, .ref mt, .int sts, .int al, .ref mq, .long u1_1, .int ((faL P Q w f ll n).2.2), .int ((faL P Q w f ll n).2.1), .int fw])), (mp, .inl (X.2.1, 12, .inl (M)))])) (wn := (fun u1_1 : Int64 => [(mo, .inr (3, [.ref mp, .ref ms, .ref mt, .int sts, .int al, .ref mq, .long u1_1, .int ((faL P Q w f ll n).2.2), .int ((faL P Q w f ll n).2.1), .int fw])), (mp, .inl (X.2.1, 12, .inl (M)))])) (r_V C (As := []) (rest := []) (kX3_findAll l X mo mp ms mt mq sts al wd wS wo fw M n P Q w f ll (by first | assumption | omega | decide) (by first | assumption | omega | decide) (by first | assumption | omega | decide) (by first | assumption | omega | decide)) (cwV 0 C.ts gX3_worstPlates_X3_findAll rfl rfl rfl (by decide +kernel) ⟨Nat.le_of_ble_eq_true rfl, Nat.le_of_ble_eq_true rfl⟩) (q0 := 0) rfl rfl [0, 1] (by decide) rfl rfl (Nat.le_of_ble_eq_true rfl) rfl dX3_worstPlates_1 ⟨Nat.zero_le _, Nat.zero_le _⟩) [0, 1] [] [0, 1] rfl rfl (by decide) (by decide) (by decide) (fun _ => rfl) (fun u1_1 _ => ?_)
  refine s_istore_n C (pc := 4) (ls' := [(1, .int ((faL P Q w f ll n).1)), (0, .ref mo)]) dX3_worstPlates_4 rfl (by decide) rfl ?_
  refine s_aload_n C (pc := 5) dX3_worstPlates_5 rfl 1 rfl ?_
  refine s_get C (pc := 6) (T := TX3) (N := 10) (fun _ h => (List.mem_cons_of_mem _ (List.mem_append_right _ h))) 0 rfl rfl 7 (by decide) (List.mem_of_getElem? (i := 1) rfl) rfl rfl dX3_worstPlates_6 ?_
  exact s_iretX C (pc := 9) hr hlk ((al, u1_1, (faL P Q w f ll n).2.2, (faL P Q w f ll n).2.1, fw)) trivial [0, 1] (by decide) (rfl) (rfl) dX3_worstPlates_9

set_option maxHeartbeats 4000000 in
set_option maxRecDepth 100000 in
theorem kX3_worstPeriod (l : Launch) (X : XT) (mo mp ms mt mq : Nat) (sts al : Int32) (wd : Int64) (wS wo fw : Int32) (M : Nat → Int32) (n : Nat) (P Q : Nat → Int32) (w : Nat) (f ll : Int32) (hM : MR M n P Q (nI w) f ll) (hn : n ≤ 4) (hw : w = 1 ∨ w = 2) (hsm : smW P Q w f ll n) : KIx l yX3_worstPeriod wsX3_worstPeriod ({ frames := 5, cells := 0, slots := 0, locals := 137 }) X [.ref mo] [(mo, .inr (3, [.ref mp, .ref ms, .ref mt, .int sts, .int al, .ref mq, .long wd, .int wS, .int wo, .int fw])), (mp, .inl (X.2.1, 12, .inl (M)))] (fun u : Int32 × Int64 × Int32 × Int32 × Int32 => [(mo, .inr (3, [.ref mp, .ref ms, .ref mt, .int sts, .int u.1, .ref mq, .long u.2.1, .int u.2.2.1, .int u.2.2.2.1, .int u.2.2.2.2])), (mp, .inl (X.2.1, 12, .inl (M)))]) (fun _ => True) ((faL P Q w f ll n).2.1) := by
  refine k_ofIx (cc := cX3_worstPeriod) (own := RX3) (maxL := 2) (ret := (some .int)) (ls0 := [(0, .ref mo)]) (by decide) rfl rfl (Nat.le_of_ble_eq_true rfl) rfl ?_
  intro p e s m args below meth c A g C hr hlk
  refine s_aload_n C (pc := 0) dX3_worstPeriod_0 rfl 0 rfl ?_
  refine s_calliX C (pc := 1) (wr := []) (wc' := (fun u1_1 : Int64 => [(mo, .inr (3, [.ref mp, .ref ms, .ref mt, .int sts, .int al, .ref mq, .long u1_1, .int ((faL P Q w f ll n).2.2), .int ((faL P Q w f ll n).2.1), .int fw])), (mp, .inl (X.2.1, 12, .inl (M)))])) (wn := (fun u1_1 : Int64 => [(mo, .inr (3, [.ref mp, .ref ms, .ref mt, .int sts, .int al, .ref mq, .long u1_1, .int ((faL P Q w f ll n).2.2), .int ((faL P Q w f ll n).2.1), .int fw])), (mp, .inl (X.2.1, 12, .inl (M)))])) (r_V C (As := []) (rest := []) (kX3_findAll l X mo mp ms mt mq sts al wd wS wo fw M n P Q w f ll (by first | assumption | omega | decide) (by first | assumption | omega | decide) (by first | assumption | omega | decide) (by first | assumption | omega | decide)) (cwV 0 C.ts gX3_worstPeriod_X3_findAll rfl rfl rfl (by decide +kernel) ⟨Nat.le_of_ble_eq_true rfl, Nat.le_of_ble_eq_true rfl⟩) (q0 := 0) rfl rfl [0, 1] (by decide) rfl rfl (Nat.le_of_ble_eq_true rfl) rfl dX3_worstPeriod_1 ⟨Nat.zero_le _, Nat.zero_le _⟩) [0, 1] [] [0, 1] rfl rfl (by decide) (by decide) (by decide) (fun _ => rfl) (fun u1_1 _ => ?_)
  refine s_istore_n C (pc := 4) (ls' := [(1, .int ((faL P Q w f ll n).1)), (0, .ref mo)]) dX3_worstPeriod_4 rfl (by decide) rfl ?_
  refine s_aload_n C (pc := 5) dX3_worstPeriod_5 rfl 1 rfl ?_
  refine s_get C (pc := 6) (T := TX3) (N := 10) (fun _ h => (List.mem_cons_of_mem _ (List.mem_append_right _ h))) 0 rfl rfl 8 (by decide) (List.mem_of_getElem? (i := 1) rfl) rfl rfl dX3_worstPeriod_6 ?_
  exact s_iretX C (pc := 9) hr hlk ((al, u1_1, (faL P Q w f ll n).2.2, (faL P Q w f ll n).2.1, fw)) trivial [0, 1] (by decide) (rfl) (rfl) dX3_worstPeriod_9

set_option maxHeartbeats 4000000 in
set_option maxRecDepth 100000 in
theorem kX3_worstPair (l : Launch) (X : XT) (mo mp ms mt mq : Nat) (sts al : Int32) (wd : Int64) (wS wo fw : Int32) (M : Nat → Int32) (n : Nat) (P Q : Nat → Int32) (w : Nat) (f ll : Int32) (hM : MR M n P Q (nI w) f ll) (hn : n ≤ 4) (hw : w = 1 ∨ w = 2) : KIx l yX3_worstPair wsX3_worstPair ({ frames := 4, cells := 0, slots := 0, locals := 112 }) X [.ref mo] [(mo, .inr (3, [.ref mp, .ref ms, .ref mt, .int sts, .int al, .ref mq, .long wd, .int wS, .int wo, .int fw])), (mp, .inl (X.2.1, 12, .inl (M)))] (fun u : Int32 × Int64 × Int32 × Int32 × Int32 => [(mo, .inr (3, [.ref mp, .ref ms, .ref mt, .int sts, .int u.1, .ref mq, .long u.2.1, .int u.2.2.1, .int u.2.2.2.1, .int u.2.2.2.2])), (mp, .inl (X.2.1, 12, .inl (M)))]) (fun _ => True) ((mqO P Q w f ll n n).1) := by
  refine k_ofIx (cc := cX3_worstPair) (own := RX3) (maxL := 6) (ret := (some .int)) (ls0 := [(0, .ref mo)]) (by decide) rfl rfl (Nat.le_of_ble_eq_true rfl) rfl ?_
  intro p e s m args below meth c A g C hr hlk
  refine s_bipush C (pc := 0) (v := (-4)) dX3_worstPair_0 (by decide) ?_
  refine s_istore_n C (pc := 2) (ls' := [(1, .int (-4)), (0, .ref mo)]) dX3_worstPair_2 rfl (by decide) rfl ?_
  refine s_bipush C (pc := 3) (v := (-4)) dX3_worstPair_3 (by decide) ?_
  refine s_istore_n C (pc := 5) (ls' := [(2, .int (-4)), (1, .int (-4)), (0, .ref mo)]) dX3_worstPair_5 rfl (by decide) rfl ?_
  refine s_iconst C (pc := 6) (v := 0) dX3_worstPair_6 (by decide) ?_
  refine s_istore_n C (pc := 7) (ls' := [(3, .int 0), (2, .int (-4)), (1, .int (-4)), (0, .ref mo)]) dX3_worstPair_7 rfl (by decide) rfl ?_
  have L8 : ∀ (n_ : Nat) (i : Nat) (v : Int64), (i ≤ n) → n + 1 ≤ i + n_ → g [(mo, .inr (3, [.ref mp, .ref ms, .ref mt, .int sts, .int al, .ref mq, .long v, .int wS, .int wo, .int fw])), (mp, .inl (X.2.1, 12, .inl (M)))] 8 [(0, .ref mo), (1, .int ((mqO P Q w f ll n i).1)), (2, .int ((mqO P Q w f ll n i).2)), (3, .int (nI i))] [] := by
    intro n_
    induction n_ with
    | zero =>
      intro i v hii hf
      exact absurd hf (by omega)
    | succ n_ ih8 =>
      intro i v hii hf8
      refine s_iload_n C (pc := 8) dX3_worstPair_8 rfl 3 rfl ?_
      refine s_aload_n C (pc := 9) dX3_worstPair_9 rfl 0 rfl ?_
      refine s_get C (pc := 10) (T := TX3) (N := 10) (fun _ h => (List.mem_cons_of_mem _ (List.mem_append_right _ h))) 0 rfl rfl 0 (by decide) (List.mem_of_getElem? (i := 1) rfl) rfl rfl dX3_worstPair_10 ?_
      refine s_iconst C (pc := 13) (v := 0) dX3_worstPair_13 (by decide) ?_
      refine s_iald C (pc := 14) 1 rfl 0 rfl (by decide) (by decide) dX3_worstPair_14 ?_
      refine s_top C (y := nI n) (hM.1) ?_
      refine s_icmp_ge C (pc := 15) (tgt := 87) dX3_worstPair_15 (by decide) (fun c15 => ?_) (fun c15 => ?_)
      · skip
        have e15 := nat_le (a := n) (b := i) (by omega) (by omega) c15
        have hs0 : n = i := by omega
        subst hs0
        refine s_iload_n C (pc := 87) dX3_worstPair_87 rfl 1 rfl ?_
        exact s_iretX C (pc := 88) hr hlk ((al, v, wS, wo, fw)) trivial [0, 1] (by decide) (rfl) (rfl) dX3_worstPair_88
      · skip
        have e15 := nat_nle (a := n) (b := i) (by omega) (by omega) c15
        refine s_iload_n C (pc := 18) dX3_worstPair_18 rfl 3 rfl ?_
        refine s_iconst C (pc := 19) (v := 1) dX3_worstPair_19 (by decide) ?_
        refine s_iadd C (pc := 20) dX3_worstPair_20 ?_
        refine s_top C (y := nI (i + 1)) (nI_add _ _) ?_
        refine s_istore C (pc := 21) (ls' := [(4, .int (nI (i + 1))), (0, .ref mo), (1, .int ((mqO P Q w f ll n i).1)), (2, .int ((mqO P Q w f ll n i).2)), (3, .int (nI i))]) dX3_worstPair_21 (by decide) rfl ?_
        have L23 : ∀ (n_ : Nat) (d : Nat) (v2 : Int64), (d ≤ n - (i + 1)) → n - (i + 1) + 1 ≤ d + n_ → g [(mo, .inr (3, [.ref mp, .ref ms, .ref mt, .int sts, .int al, .ref mq, .long v2, .int wS, .int wo, .int fw])), (mp, .inl (X.2.1, 12, .inl (M)))] 23 [(0, .ref mo), (1, .int ((mqI P Q w f ll i (mqO P Q w f ll n i) d).1)), (2, .int ((mqI P Q w f ll i (mqO P Q w f ll n i) d).2)), (3, .int (nI i)), (4, .int (nI (i + 1 + d)))] [] := by
          intro n_
          induction n_ with
          | zero =>
            intro d v2 hd hf
            exact absurd hf (by omega)
          | succ n_ ih23 =>
            intro d v2 hd hf23
            refine s_iload C (pc := 23) dX3_worstPair_23 4 rfl ?_
            refine s_aload_n C (pc := 25) dX3_worstPair_25 rfl 0 rfl ?_
            refine s_get C (pc := 26) (T := TX3) (N := 10) (fun _ h => (List.mem_cons_of_mem _ (List.mem_append_right _ h))) 0 rfl rfl 0 (by decide) (List.mem_of_getElem? (i := 1) rfl) rfl rfl dX3_worstPair_26 ?_
            refine s_iconst C (pc := 29) (v := 0) dX3_worstPair_29 (by decide) ?_
            refine s_iald C (pc := 30) 1 rfl 0 rfl (by decide) (by decide) dX3_worstPair_30 ?_
            refine s_top C (y := nI n) (hM.1) ?_
            refine s_icmp_ge C (pc := 31) (tgt := 81) dX3_worstPair_31 (by decide) (fun c31 => ?_) (fun c31 => ?_)
            · skip
              have e31 := nat_le (a := n) (b := (i + 1 + d)) (by omega) (by omega) c31
              have hs0 : n - (i + 1) = d := by omega
              subst hs0
              refine s_iinc C (pc := 81) (v := nI (i + 1)) (ls' := [(3, .int (nI (i + 1))), (0, .ref mo), (1, .int ((mqI P Q w f ll i (mqO P Q w f ll n i) (n - (i + 1))).1)), (2, .int ((mqI P Q w f ll i (mqO P Q w f ll n i) (n - (i + 1))).2)), (4, .int (nI (i + 1 + (n - (i + 1)))))]) dX3_worstPair_81 3 rfl (nI_1 _) (by decide) rfl ?_
              refine s_goto C (pc := 84) (tgt := 8) dX3_worstPair_84 (by decide) ?_
              refine s_loc C (ls' := [(0, .ref mo), (1, .int ((mqI P Q w f ll i (mqO P Q w f ll n i) (n - (i + 1))).1)), (2, .int ((mqI P Q w f ll i (mqO P Q w f ll n i) (n - (i + 1))).2)), (3, .int (nI (i + 1)))]) [1, 2, 3, 0] rfl ?_
              exact ih8 (i + 1) v2 (by omega) (by omega)
            · skip
              have e31 := nat_nle (a := n) (b := (i + 1 + d)) (by omega) (by omega) c31
              refine s_aload_n C (pc := 34) dX3_worstPair_34 rfl 0 rfl ?_
              refine s_iload_n C (pc := 35) dX3_worstPair_35 rfl 3 rfl ?_
              refine s_iload C (pc := 36) dX3_worstPair_36 4 rfl ?_
              refine s_iconst C (pc := 38) (v := 3) dX3_worstPair_38 (by decide) ?_
              refine s_calli C (pc := 39) (wr := []) (wc' := [(mo, .inr (3, [.ref mp, .ref ms, .ref mt, .int sts, .int al, .ref mq, .long ((okF P Q w f ll i (i + 1 + d) 3 (wd4 w)).2), .int wS, .int wo, .int fw])), (mp, .inl (X.2.1, 12, .inl (M)))]) (wn := [(mo, .inr (3, [.ref mp, .ref ms, .ref mt, .int sts, .int al, .ref mq, .long ((okF P Q w f ll i (i + 1 + d) 3 (wd4 w)).2), .int wS, .int wo, .int fw])), (mp, .inl (X.2.1, 12, .inl (M)))]) (r_V C (As := [.int (nI i), .int (nI (i + 1 + d)), .int 3]) (rest := []) (kX3_ofKind l X mo mp ms mt mq sts al v2 wS wo fw M n P Q w f ll i (i + 1 + d) 3 (by first | assumption | omega | decide) (by first | assumption | omega | decide) (by first | assumption | omega | decide) (by first | assumption | omega | decide) (by first | assumption | omega | decide)) (cwV 3 C.ts gX3_worstPair_X3_ofKind rfl rfl rfl (by decide +kernel) ⟨Nat.le_of_ble_eq_true rfl, Nat.le_of_ble_eq_true rfl⟩) (q0 := 0) rfl rfl [0, 1] (by decide) rfl rfl (Nat.le_of_ble_eq_true rfl) rfl dX3_worstPair_39 ⟨Nat.zero_le _, Nat.zero_le _⟩) [0, 1] [] [0, 1] rfl rfl (by decide) (by decide) (by decide) rfl ?_
              refine s_istore C (pc := 42) (ls' := [(5, .int ((okF P Q w f ll i (i + 1 + d) 3 (wd4 w)).1)), (0, .ref mo), (1, .int ((mqI P Q w f ll i (mqO P Q w f ll n i) d).1)), (2, .int ((mqI P Q w f ll i (mqO P Q w f ll n i) d).2)), (3, .int (nI i)), (4, .int (nI (i + 1 + d)))]) dX3_worstPair_42 (by decide) rfl ?_
              refine s_iload C (pc := 44) dX3_worstPair_44 0 rfl ?_
              refine s_iload_n C (pc := 46) dX3_worstPair_46 rfl 3 rfl ?_
              refine s_icmp_le C (pc := 47) (tgt := 60) dX3_worstPair_47 (by decide) (fun c47 => ?_) (fun c47 => ?_)
              · skip
                refine s_iload_n C (pc := 60) dX3_worstPair_60 rfl 2 rfl ?_
                refine s_istore_n C (pc := 61) (ls' := [(1, .int ((mqI P Q w f ll i (mqO P Q w f ll n i) d).1)), (5, .int ((okF P Q w f ll i (i + 1 + d) 3 (wd4 w)).1)), (0, .ref mo), (2, .int ((mqI P Q w f ll i (mqO P Q w f ll n i) d).2)), (3, .int (nI i)), (4, .int (nI (i + 1 + d)))]) dX3_worstPair_61 rfl (by decide) rfl ?_
                refine s_iload C (pc := 62) dX3_worstPair_62 1 rfl ?_
                refine s_iload_n C (pc := 64) dX3_worstPair_64 rfl 3 rfl ?_
                refine s_icmp_le C (pc := 65) (tgt := 73) dX3_worstPair_65 (by decide) (fun c65 => ?_) (fun h => absurd (c47) h)
                refine s_iload_n C (pc := 73) dX3_worstPair_73 rfl 3 rfl ?_
                refine s_istore_n C (pc := 74) (ls' := [(2, .int ((mqI P Q w f ll i (mqO P Q w f ll n i) d).2)), (1, .int ((mqI P Q w f ll i (mqO P Q w f ll n i) d).1)), (5, .int ((okF P Q w f ll i (i + 1 + d) 3 (wd4 w)).1)), (0, .ref mo), (3, .int (nI i)), (4, .int (nI (i + 1 + d)))]) dX3_worstPair_74 rfl (by decide) rfl ?_
                refine s_iinc C (pc := 75) (v := nI ((i + 1 + d) + 1)) (ls' := [(4, .int (nI ((i + 1 + d) + 1))), (2, .int ((mqI P Q w f ll i (mqO P Q w f ll n i) d).2)), (1, .int ((mqI P Q w f ll i (mqO P Q w f ll n i) d).1)), (5, .int ((okF P Q w f ll i (i + 1 + d) 3 (wd4 w)).1)), (0, .ref mo), (3, .int (nI i))]) dX3_worstPair_75 5 rfl (nI_1 _) (by decide) rfl ?_
                refine s_goto C (pc := 78) (tgt := 23) dX3_worstPair_78 (by decide) ?_
                refine s_loc C (ls' := [(0, .ref mo), (1, .int ((mqI P Q w f ll i (mqO P Q w f ll n i) d).1)), (2, .int ((mqI P Q w f ll i (mqO P Q w f ll n i) d).2)), (3, .int (nI i)), (4, .int (nI ((i + 1 + d) + 1)))]) [4, 2, 1, 5, 0] rfl ?_
                have hb := ih23 (d + 1) ((okF P Q w f ll i (i + 1 + d) 3 (wd4 w)).2) (by omega) (by omega)
                rw [show mqI P Q w f ll i (mqO P Q w f ll n i) (d + 1) = mqI P Q w f ll i (mqO P Q w f ll n i) d from if_pos c47] at hb
                exact hb
              · skip
                refine s_bipush C (pc := 50) (v := 10) dX3_worstPair_50 (by decide) ?_
                refine s_iload_n C (pc := 52) dX3_worstPair_52 rfl 4 rfl ?_
                refine s_imul C (pc := 53) dX3_worstPair_53 ?_
                refine s_iload C (pc := 54) dX3_worstPair_54 5 rfl ?_
                refine s_iadd C (pc := 56) dX3_worstPair_56 ?_
                refine s_goto C (pc := 57) (tgt := 61) dX3_worstPair_57 (by decide) ?_
                refine s_istore_n C (pc := 61) (ls' := [(1, .int ((10 * (nI i)) + (nI (i + 1 + d)))), (5, .int ((okF P Q w f ll i (i + 1 + d) 3 (wd4 w)).1)), (0, .ref mo), (2, .int ((mqI P Q w f ll i (mqO P Q w f ll n i) d).2)), (3, .int (nI i)), (4, .int (nI (i + 1 + d)))]) dX3_worstPair_61 rfl (by decide) rfl ?_
                refine s_iload C (pc := 62) dX3_worstPair_62 1 rfl ?_
                refine s_iload_n C (pc := 64) dX3_worstPair_64 rfl 3 rfl ?_
                refine s_icmp_le C (pc := 65) (tgt := 73) dX3_worstPair_65 (by decide) (fun h => absurd h (c47)) (fun c65 => ?_)
                refine s_iload C (pc := 68) dX3_worstPair_68 1 rfl ?_
                refine s_goto C (pc := 70) (tgt := 74) dX3_worstPair_70 (by decide) ?_
                refine s_istore_n C (pc := 74) (ls' := [(2, .int ((okF P Q w f ll i (i + 1 + d) 3 (wd4 w)).1)), (1, .int ((10 * (nI i)) + (nI (i + 1 + d)))), (5, .int ((okF P Q w f ll i (i + 1 + d) 3 (wd4 w)).1)), (0, .ref mo), (3, .int (nI i)), (4, .int (nI (i + 1 + d)))]) dX3_worstPair_74 rfl (by decide) rfl ?_
                refine s_iinc C (pc := 75) (v := nI ((i + 1 + d) + 1)) (ls' := [(4, .int (nI ((i + 1 + d) + 1))), (2, .int ((okF P Q w f ll i (i + 1 + d) 3 (wd4 w)).1)), (1, .int ((10 * (nI i)) + (nI (i + 1 + d)))), (5, .int ((okF P Q w f ll i (i + 1 + d) 3 (wd4 w)).1)), (0, .ref mo), (3, .int (nI i))]) dX3_worstPair_75 5 rfl (nI_1 _) (by decide) rfl ?_
                refine s_goto C (pc := 78) (tgt := 23) dX3_worstPair_78 (by decide) ?_
                refine s_loc C (ls' := [(0, .ref mo), (1, .int ((10 * (nI i)) + (nI (i + 1 + d)))), (2, .int ((okF P Q w f ll i (i + 1 + d) 3 (wd4 w)).1)), (3, .int (nI i)), (4, .int (nI ((i + 1 + d) + 1)))]) [4, 2, 1, 5, 0] rfl ?_
                have hb := ih23 (d + 1) ((okF P Q w f ll i (i + 1 + d) 3 (wd4 w)).2) (by omega) (by omega)
                rw [show mqI P Q w f ll i (mqO P Q w f ll n i) (d + 1) = (10 * nI i + nI (i + 1 + d), (okF P Q w f ll i (i + 1 + d) 3 (wd4 w)).1) from if_neg c47] at hb
                exact hb
        refine s_loc C (ls' := [(0, .ref mo), (1, .int ((mqO P Q w f ll n i).1)), (2, .int ((mqO P Q w f ll n i).2)), (3, .int (nI i)), (4, .int (nI (i + 1)))]) [1, 2, 3, 4, 0] rfl ?_
        exact L23 (n - (i + 1) + 1) 0 v (Nat.zero_le _) (by omega)
  refine s_loc C (ls' := [(0, .ref mo), (1, .int (-4)), (2, .int (-4)), (3, .int 0)]) [3, 2, 1, 0] rfl ?_
  exact L8 (n + 1) 0 wd (Nat.zero_le _) (by omega)

set_option maxHeartbeats 4000000 in
set_option maxRecDepth 100000 in
theorem kX3_size (l : Launch) (X : XT) (v : Int32)  : KI l yX3_size wsX3_size ({ frames := 0, cells := 0, slots := 0, locals := 0 }) X [.int v] [] [] (szI v) := by
  refine k_ofI (cc := cX3_size) (own := RX3) (maxL := 1) (ret := (some .int)) (ls0 := [(0, .int v)]) (by decide) rfl rfl (Nat.le_of_ble_eq_true rfl) rfl ?_
  intro p e s m args below meth c A g C hr hlk
  refine s_iload_n C (pc := 0) dX3_size_0 rfl 0 rfl ?_
  refine s_if_ge C (pc := 1) (tgt := 9) dX3_size_1 (by decide) (fun c1 => ?_) (fun c1 => ?_)
  · skip
    refine s_iload_n C (pc := 9) dX3_size_9 rfl 0 rfl ?_
    exact s_iret C (pc := 10) hr hlk [] (by decide) (rfl) ((if_pos c1).symm) dX3_size_10
  · skip
    refine s_iload_n C (pc := 4) dX3_size_4 rfl 0 rfl ?_
    refine s_ineg C (pc := 5) dX3_size_5 ?_
    refine s_goto C (pc := 6) (tgt := 10) dX3_size_6 (by decide) ?_
    exact s_iret C (pc := 10) hr hlk [] (by decide) (rfl) ((if_neg c1).symm) dX3_size_10

set_option maxHeartbeats 4000000 in
set_option maxRecDepth 100000 in
theorem kX3_isRange (l : Launch) (X : XT) (mo mp ms mt mq : Nat) (sts al : Int32) (wd : Int64) (wS wo fw : Int32) (M : Nat → Int32) (n : Nat) (P Q : Nat → Int32) (o f ll : Int32) (i low high : Int32) (hM : MR M n P Q o f ll) (hn : n ≤ 4) : KI l yX3_isRange wsX3_isRange ({ frames := 2, cells := 0, slots := 0, locals := 43 }) X [.ref mo, .int i, .int low, .int high] [(mo, .inr (3, [.ref mp, .ref ms, .ref mt, .int sts, .int al, .ref mq, .long wd, .int wS, .int wo, .int fw])), (mp, .inl (X.2.1, 12, .inl (M)))] [(mo, .inr (3, [.ref mp, .ref ms, .ref mt, .int sts, .int al, .ref mq, .long wd, .int wS, .int wo, .int fw])), (mp, .inl (X.2.1, 12, .inl (M)))] (bI (hv n i ∧ (1 ≤ low ∧ low ≤ 800) ∧ (low ≤ high ∧ high ≤ 800))) := by
  refine k_ofI (cc := cX3_isRange) (own := RX3) (maxL := 4) (ret := (some .boolean)) (ls0 := [(0, .ref mo), (1, .int i), (2, .int low), (3, .int high)]) (by decide) rfl rfl (Nat.le_of_ble_eq_true rfl) rfl ?_
  intro p e s m args below meth c A g C hr hlk
  refine s_aload_n C (pc := 0) dX3_isRange_0 rfl 0 rfl ?_
  refine s_iload_n C (pc := 1) dX3_isRange_1 rfl 1 rfl ?_
  refine s_calli C (pc := 2) (wr := []) (wc' := [(mo, .inr (3, [.ref mp, .ref ms, .ref mt, .int sts, .int al, .ref mq, .long wd, .int wS, .int wo, .int fw])), (mp, .inl (X.2.1, 12, .inl (M)))]) (wn := [(mo, .inr (3, [.ref mp, .ref ms, .ref mt, .int sts, .int al, .ref mq, .long wd, .int wS, .int wo, .int fw])), (mp, .inl (X.2.1, 12, .inl (M)))]) (r_V C (As := [.int i]) (rest := []) (kX3_isPlate l X mo mp ms mt mq sts al wd wS wo fw M n P Q o f ll i (by first | assumption | omega | decide) (by first | assumption | omega | decide)) (cwV 1 C.ts gX3_isRange_X3_isPlate rfl rfl rfl (by decide +kernel) ⟨Nat.le_of_ble_eq_true rfl, Nat.le_of_ble_eq_true rfl⟩) (q0 := 0) rfl rfl [0, 1] (by decide) rfl rfl (Nat.le_of_ble_eq_true rfl) rfl dX3_isRange_2 ⟨Nat.zero_le _, Nat.zero_le _⟩) [0, 1] [] [0, 1] rfl rfl (by decide) (by decide) (by decide) rfl ?_
  refine s_bif_eq C (pc := 5) (tgt := 34) dX3_isRange_5 (by decide) (fun c5 => ?_) (fun c5 => ?_)
  · skip
    refine s_iconst C (pc := 34) (v := 0) dX3_isRange_34 (by decide) ?_
    exact s_zret C (pc := 35) hr hlk [0, 1] (by decide) (rfl) rfl ((bI_neg (fun hh => (c5) (hh.1))).symm) dX3_isRange_35
  · skip
    refine s_iload_n C (pc := 8) dX3_isRange_8 rfl 2 rfl ?_
    refine s_iconst C (pc := 9) (v := 1) dX3_isRange_9 (by decide) ?_
    refine s_sipush C (pc := 10) (v := 800) dX3_isRange_10 (by decide) ?_
    refine s_calli C (pc := 13) (wr := [(mo, .inr (3, [.ref mp, .ref ms, .ref mt, .int sts, .int al, .ref mq, .long wd, .int wS, .int wo, .int fw])), (mp, .inl (X.2.1, 12, .inl (M)))]) (wc' := []) (wn := [(mo, .inr (3, [.ref mp, .ref ms, .ref mt, .int sts, .int al, .ref mq, .long wd, .int wS, .int wo, .int fw])), (mp, .inl (X.2.1, 12, .inl (M)))]) (r_S C (As := [.int low, .int 1, .int 800]) (rest := []) (kX3_in l X low 1 800 ) (va_cwS 3 C.ts gX3_isRange_X3_in rfl rfl rfl (by decide +kernel) ⟨Nat.le_of_ble_eq_true rfl, Nat.le_of_ble_eq_true rfl⟩) [] (by decide) rfl rfl (Nat.le_of_ble_eq_true rfl) rfl dX3_isRange_13 ⟨Nat.zero_le _, Nat.zero_le _⟩) [] [0, 1] [0, 1] rfl rfl (by decide) (by decide) (by decide) rfl ?_
    refine s_bif_eq C (pc := 16) (tgt := 34) dX3_isRange_16 (by decide) (fun c16 => ?_) (fun c16 => ?_)
    · skip
      refine s_iconst C (pc := 34) (v := 0) dX3_isRange_34 (by decide) ?_
      exact s_zret C (pc := 35) hr hlk [0, 1] (by decide) (rfl) rfl ((bI_neg (fun hh => (c16) (hh.2.1))).symm) dX3_isRange_35
    · skip
      refine s_iload_n C (pc := 19) dX3_isRange_19 rfl 3 rfl ?_
      refine s_iload_n C (pc := 20) dX3_isRange_20 rfl 2 rfl ?_
      refine s_sipush C (pc := 21) (v := 800) dX3_isRange_21 (by decide) ?_
      refine s_calli C (pc := 24) (wr := [(mo, .inr (3, [.ref mp, .ref ms, .ref mt, .int sts, .int al, .ref mq, .long wd, .int wS, .int wo, .int fw])), (mp, .inl (X.2.1, 12, .inl (M)))]) (wc' := []) (wn := [(mo, .inr (3, [.ref mp, .ref ms, .ref mt, .int sts, .int al, .ref mq, .long wd, .int wS, .int wo, .int fw])), (mp, .inl (X.2.1, 12, .inl (M)))]) (r_S C (As := [.int high, .int low, .int 800]) (rest := []) (kX3_in l X high low 800 ) (va_cwS 3 C.ts gX3_isRange_X3_in rfl rfl rfl (by decide +kernel) ⟨Nat.le_of_ble_eq_true rfl, Nat.le_of_ble_eq_true rfl⟩) [] (by decide) rfl rfl (Nat.le_of_ble_eq_true rfl) rfl dX3_isRange_24 ⟨Nat.zero_le _, Nat.zero_le _⟩) [] [0, 1] [0, 1] rfl rfl (by decide) (by decide) (by decide) rfl ?_
      refine s_bif_eq C (pc := 27) (tgt := 34) dX3_isRange_27 (by decide) (fun c27 => ?_) (fun c27 => ?_)
      · skip
        refine s_iconst C (pc := 34) (v := 0) dX3_isRange_34 (by decide) ?_
        exact s_zret C (pc := 35) hr hlk [0, 1] (by decide) (rfl) rfl ((bI_neg (fun hh => (c27) (hh.2.2))).symm) dX3_isRange_35
      · skip
        refine s_iconst C (pc := 30) (v := 1) dX3_isRange_30 (by decide) ?_
        refine s_goto C (pc := 31) (tgt := 35) dX3_isRange_31 (by decide) ?_
        exact s_zret C (pc := 35) hr hlk [0, 1] (by decide) (rfl) rfl ((bI_pos ⟨c5, c16, c27⟩).symm) dX3_isRange_35

set_option maxHeartbeats 4000000 in
set_option maxRecDepth 100000 in
theorem kX3_search (l : Launch) (X : XT) (mo mp ms mt mq : Nat) (sts al : Int32) (wd : Int64) (wS wo fw : Int32) (M : Nat → Int32) (n : Nat) (P Q : Nat → Int32) (w : Nat) (f ll : Int32) (k : Nat) (low high : Int32) (hM : MR M n P Q (nI w) f ll) (hk : k < n) (hn : n ≤ 4) (hw : w = 1 ∨ w = 2) (hS : ∀ x y : Nat, 1 ≤ x → x ≤ 20 → y ≤ 20 → smW (upd P k (nI x)) (upd Q k (nI y)) w f ll n) : KIx l yX3_search wsX3_search ({ frames := 5, cells := 0, slots := 0, locals := 137 }) X [.ref mo, .int (nI k), .int low, .int high] [(mo, .inr (3, [.ref mp, .ref ms, .ref mt, .int sts, .int al, .ref mq, .long wd, .int wS, .int wo, .int fw])), (mp, .inl (X.2.1, 12, .inl (M)))] (fun u : Int64 × Int32 × Int32 => [(mo, .inr (3, [.ref mp, .ref ms, .ref mt, .int sts, .int al, .ref mq, .long u.1, .int u.2.1, .int u.2.2, .int ((msL P Q w f ll n k low high).2.1)])), (mp, .inl (X.2.1, 12, .inl (M)))]) (fun _ => True) ((msL P Q w f ll n k low high).1) := by
  refine k_ofIx (cc := cX3_search) (own := RX3) (maxL := 14) (ret := (some .int)) (ls0 := [(0, .ref mo), (1, .int (nI k)), (2, .int low), (3, .int high)]) (by decide) rfl rfl (Nat.le_of_ble_eq_true rfl) rfl ?_
  intro p e s m args below meth c A g C hr hlk
  refine s_aload_n C (pc := 0) dX3_search_0 rfl 0 rfl ?_
  refine s_iload_n C (pc := 1) dX3_search_1 rfl 1 rfl ?_
  refine s_calli C (pc := 2) (wr := []) (wc' := [(mo, .inr (3, [.ref mp, .ref ms, .ref mt, .int sts, .int al, .ref mq, .long wd, .int wS, .int wo, .int fw])), (mp, .inl (X.2.1, 12, .inl (M)))]) (wn := [(mo, .inr (3, [.ref mp, .ref ms, .ref mt, .int sts, .int al, .ref mq, .long wd, .int wS, .int wo, .int fw])), (mp, .inl (X.2.1, 12, .inl (M)))]) (r_V C (As := [.int (nI k)]) (rest := []) (kX3_firstOf l X mo mp ms mt mq sts al wd wS wo fw M n P Q (nI w) f ll k (by first | assumption | omega | decide) (by first | assumption | omega | decide) (by first | assumption | omega | decide)) (cwV 1 C.ts gX3_search_X3_firstOf rfl rfl rfl (by decide +kernel) ⟨Nat.le_of_ble_eq_true rfl, Nat.le_of_ble_eq_true rfl⟩) (q0 := 0) rfl rfl [0, 1] (by decide) rfl rfl (Nat.le_of_ble_eq_true rfl) rfl dX3_search_2 ⟨Nat.zero_le _, Nat.zero_le _⟩) [0, 1] [] [0, 1] rfl rfl (by decide) (by decide) (by decide) rfl ?_
  refine s_istore C (pc := 5) (ls' := [(4, .int (P k)), (0, .ref mo), (1, .int (nI k)), (2, .int low), (3, .int high)]) dX3_search_5 (by decide) rfl ?_
  refine s_aload_n C (pc := 7) dX3_search_7 rfl 1 rfl ?_
  refine s_iload_n C (pc := 8) dX3_search_8 rfl 2 rfl ?_
  refine s_calli C (pc := 9) (wr := []) (wc' := [(mo, .inr (3, [.ref mp, .ref ms, .ref mt, .int sts, .int al, .ref mq, .long wd, .int wS, .int wo, .int fw])), (mp, .inl (X.2.1, 12, .inl (M)))]) (wn := [(mo, .inr (3, [.ref mp, .ref ms, .ref mt, .int sts, .int al, .ref mq, .long wd, .int wS, .int wo, .int fw])), (mp, .inl (X.2.1, 12, .inl (M)))]) (r_V C (As := [.int (nI k)]) (rest := []) (kX3_secondOf l X mo mp ms mt mq sts al wd wS wo fw M n P Q (nI w) f ll k (by first | assumption | omega | decide) (by first | assumption | omega | decide) (by first | assumption | omega | decide)) (cwV 1 C.ts gX3_search_X3_secondOf rfl rfl rfl (by decide +kernel) ⟨Nat.le_of_ble_eq_true rfl, Nat.le_of_ble_eq_true rfl⟩) (q0 := 0) rfl rfl [0, 1] (by decide) rfl rfl (Nat.le_of_ble_eq_true rfl) rfl dX3_search_9 ⟨Nat.zero_le _, Nat.zero_le _⟩) [0, 1] [] [0, 1] rfl rfl (by decide) (by decide) (by decide) rfl ?_
  refine s_istore C (pc := 12) (ls' := [(5, .int (Q k)), (4, .int (P k)), (0, .ref mo), (1, .int (nI k)), (2, .int low), (3, .int high)]) dX3_search_12 (by decide) rfl ?_
  refine s_aload_n C (pc := 14) dX3_search_14 rfl 2 rfl ?_
  refine s_iload_n C (pc := 15) dX3_search_15 rfl 3 rfl ?_
  refine s_calli C (pc := 16) (wr := []) (wc' := [(mo, .inr (3, [.ref mp, .ref ms, .ref mt, .int sts, .int al, .ref mq, .long wd, .int wS, .int wo, .int fw])), (mp, .inl (X.2.1, 12, .inl (M)))]) (wn := [(mo, .inr (3, [.ref mp, .ref ms, .ref mt, .int sts, .int al, .ref mq, .long wd, .int wS, .int wo, .int fw])), (mp, .inl (X.2.1, 12, .inl (M)))]) (r_V C (As := [.int (nI k)]) (rest := []) (kX3_areaOf l X mo mp ms mt mq sts al wd wS wo fw M n P Q (nI w) f ll k (by first | assumption | omega | decide) (by first | assumption | omega | decide) (by first | assumption | omega | decide)) (cwV 1 C.ts gX3_search_X3_areaOf rfl rfl rfl (by decide +kernel) ⟨Nat.le_of_ble_eq_true rfl, Nat.le_of_ble_eq_true rfl⟩) (q0 := 0) rfl rfl [0, 1] (by decide) rfl rfl (Nat.le_of_ble_eq_true rfl) rfl dX3_search_16 ⟨Nat.zero_le _, Nat.zero_le _⟩) [0, 1] [] [0, 1] rfl rfl (by decide) (by decide) (by decide) rfl ?_
  refine s_istore C (pc := 19) (ls' := [(6, .int (ar P Q k)), (5, .int (Q k)), (4, .int (P k)), (0, .ref mo), (1, .int (nI k)), (2, .int low), (3, .int high)]) dX3_search_19 (by decide) rfl ?_
  refine s_bipush C (pc := 21) (v := (-4)) dX3_search_21 (by decide) ?_
  refine s_istore C (pc := 23) (ls' := [(7, .int (-4)), (6, .int (ar P Q k)), (5, .int (Q k)), (4, .int (P k)), (0, .ref mo), (1, .int (nI k)), (2, .int low), (3, .int high)]) dX3_search_23 (by decide) rfl ?_
  refine s_iconst C (pc := 25) (v := 0) dX3_search_25 (by decide) ?_
  refine s_istore C (pc := 26) (ls' := [(8, .int 0), (7, .int (-4)), (6, .int (ar P Q k)), (5, .int (Q k)), (4, .int (P k)), (0, .ref mo), (1, .int (nI k)), (2, .int low), (3, .int high)]) dX3_search_26 (by decide) rfl ?_
  refine s_aload_n C (pc := 28) dX3_search_28 rfl 5 rfl ?_
  refine s_bipush C (pc := 29) (v := (-4)) dX3_search_29 (by decide) ?_
  refine s_put C (pc := 31) (T := TX3) (N := 10) (ws' := [(mo, .inr (3, [.ref mp, .ref ms, .ref mt, .int sts, .int al, .ref mq, .long wd, .int wS, .int wo, .int (-4)])), (mp, .inl (X.2.1, 12, .inl (M)))]) (fun _ h => (List.mem_cons_of_mem _ (List.mem_append_right _ h))) 0 rfl rfl tyX3 tyX3_ok nmX3 9 (by decide) (List.mem_of_getElem? (i := 1) rfl) rfl rfl rfl rfl (Nat.le_of_ble_eq_true rfl) rfl dX3_search_31 ?_
  refine s_arrI C (ws' := [(mo, .inr (3, [.ref mp, .ref ms, .ref mt, .int sts, .int al, .ref mq, .long wd, .int wS, .int wo, .int (-4)])), (mp, .inl (X.2.1, 12, .inl (upd (upd M (4 + 2 * k) (P k)) (4 + 2 * k + 1) (Q k))))]) 1 rfl (fun j _ => fu_self (hM.2.2.2.2 k hk).1 (hM.2.2.2.2 k hk).2 j) rfl ?_
  refine s_iconst C (pc := 34) (v := 1) dX3_search_34 (by decide) ?_
  refine s_istore C (pc := 35) (ls' := [(9, .int 1), (8, .int 0), (7, .int (-4)), (6, .int (ar P Q k)), (5, .int (Q k)), (4, .int (P k)), (0, .ref mo), (1, .int (nI k)), (2, .int low), (3, .int high)]) dX3_search_35 (by decide) rfl ?_
  have L37 : ∀ (n_ : Nat) (x : Nat) (u : Int64 × Int32 × Int32) (tx ty : Int32), (x ≤ 20) → 21 ≤ x + n_ → g [(mo, .inr (3, [.ref mp, .ref ms, .ref mt, .int sts, .int al, .ref mq, .long u.1, .int u.2.1, .int u.2.2, .int ((msA P Q w f ll n k low high x).2.1)])), (mp, .inl (X.2.1, 12, .inl (upd (upd M (4 + 2 * k) tx) (4 + 2 * k + 1) ty)))] 37 [(0, .ref mo), (1, .int (nI k)), (2, .int low), (3, .int high), (4, .int (P k)), (5, .int (Q k)), (6, .int (ar P Q k)), (7, .int ((msA P Q w f ll n k low high x).1)), (8, .int ((msA P Q w f ll n k low high x).2.2)), (9, .int (nI (x + 1)))] [] := by
    intro n_
    induction n_ with
    | zero =>
      intro x u tx ty hx hf
      exact absurd hf (by omega)
    | succ n_ ih37 =>
      intro x u tx ty hx hf37
      refine s_iload C (pc := 37) dX3_search_37 9 rfl ?_
      refine s_bipush C (pc := 39) (v := 20) dX3_search_39 (by decide) ?_
      refine s_icmp_gt C (pc := 41) (tgt := 222) dX3_search_41 (by decide) (fun c41 => ?_) (fun c41 => ?_)
      · skip
        have e41 := nat_lt (a := 20) (b := (x + 1)) (by omega) (by omega) c41
        have hs0 : 20 = x := by omega
        subst hs0
        refine s_aload_n C (pc := 222) dX3_search_222 rfl 0 rfl ?_
        refine s_get C (pc := 223) (T := TX3) (N := 10) (fun _ h => (List.mem_cons_of_mem _ (List.mem_append_right _ h))) 0 rfl rfl 0 (by decide) (List.mem_of_getElem? (i := 2) rfl) rfl rfl dX3_search_223 ?_
        refine s_iconst C (pc := 226) (v := 4) dX3_search_226 (by decide) ?_
        refine s_iconst C (pc := 227) (v := 2) dX3_search_227 (by decide) ?_
        refine s_iload_n C (pc := 228) dX3_search_228 rfl 1 rfl ?_
        refine s_imul C (pc := 229) dX3_search_229 ?_
        refine s_iadd C (pc := 230) dX3_search_230 ?_
        refine s_iload C (pc := 231) dX3_search_231 4 rfl ?_
        refine s_iast C (pc := 233) (ws' := [(mo, .inr (3, [.ref mp, .ref ms, .ref mt, .int sts, .int al, .ref mq, .long u.1, .int u.2.1, .int u.2.2, .int ((msA P Q w f ll n k low high 20).2.1)])), (mp, .inl (X.2.1, 12, .inl (upd (upd (upd M (4 + 2 * k) tx) (4 + 2 * k + 1) ty) (4 + 2 * k) (P k))))]) 1 rfl (4 + 2 * k) (ix4 k) (by omega) (by decide) rfl dX3_search_233 ?_
        refine s_aload_n C (pc := 234) dX3_search_234 rfl 0 rfl ?_
        refine s_get C (pc := 235) (T := TX3) (N := 10) (fun _ h => (List.mem_cons_of_mem _ (List.mem_append_right _ h))) 0 rfl rfl 0 (by decide) (List.mem_of_getElem? (i := 2) rfl) rfl rfl dX3_search_235 ?_
        refine s_iconst C (pc := 238) (v := 4) dX3_search_238 (by decide) ?_
        refine s_iconst C (pc := 239) (v := 2) dX3_search_239 (by decide) ?_
        refine s_iload_n C (pc := 240) dX3_search_240 rfl 1 rfl ?_
        refine s_imul C (pc := 241) dX3_search_241 ?_
        refine s_iadd C (pc := 242) dX3_search_242 ?_
        refine s_iconst C (pc := 243) (v := 1) dX3_search_243 (by decide) ?_
        refine s_iadd C (pc := 244) dX3_search_244 ?_
        refine s_iload C (pc := 245) dX3_search_245 5 rfl ?_
        refine s_iast C (pc := 247) (ws' := [(mo, .inr (3, [.ref mp, .ref ms, .ref mt, .int sts, .int al, .ref mq, .long u.1, .int u.2.1, .int u.2.2, .int ((msA P Q w f ll n k low high 20).2.1)])), (mp, .inl (X.2.1, 12, .inl (upd (upd (upd (upd M (4 + 2 * k) tx) (4 + 2 * k + 1) ty) (4 + 2 * k) (P k)) (4 + 2 * k + 1) (Q k))))]) 1 rfl (4 + 2 * k + 1) (by rw [ix4, nI_1]) (by omega) (by decide) rfl dX3_search_247 ?_
        refine s_arrI C (ws' := [(mo, .inr (3, [.ref mp, .ref ms, .ref mt, .int sts, .int al, .ref mq, .long u.1, .int u.2.1, .int u.2.2, .int ((msA P Q w f ll n k low high 20).2.1)])), (mp, .inl (X.2.1, 12, .inl (M)))]) 1 rfl (fun j _ => ((fu_upd j).trans (fu_self (hM.2.2.2.2 k hk).1 (hM.2.2.2.2 k hk).2 j).symm)) rfl ?_
        refine s_iload C (pc := 248) dX3_search_248 7 rfl ?_
        exact s_iretX C (pc := 250) hr hlk ((u.1, u.2.1, u.2.2)) trivial [0, 1] (by decide) (by rw [msL_eq]; rfl) (by rw [msL_eq]) dX3_search_250
      · skip
        have e41 := nat_nlt (a := 20) (b := (x + 1)) (by omega) (by omega) c41
        refine s_iconst C (pc := 44) (v := 0) dX3_search_44 (by decide) ?_
        refine s_istore C (pc := 45) (ls' := [(10, .int 0), (0, .ref mo), (1, .int (nI k)), (2, .int low), (3, .int high), (4, .int (P k)), (5, .int (Q k)), (6, .int (ar P Q k)), (7, .int ((msA P Q w f ll n k low high x).1)), (8, .int ((msA P Q w f ll n k low high x).2.2)), (9, .int (nI (x + 1)))]) dX3_search_45 (by decide) rfl ?_
        have L47 : ∀ (n_ : Nat) (y : Nat) (u2 : Int64 × Int32 × Int32) (sx sy : Int32), (y ≤ 21) → 22 ≤ y + n_ → g [(mo, .inr (3, [.ref mp, .ref ms, .ref mt, .int sts, .int al, .ref mq, .long u2.1, .int u2.2.1, .int u2.2.2, .int ((msR P Q w f ll n k low high (x + 1) (msA P Q w f ll n k low high x) y).2.1)])), (mp, .inl (X.2.1, 12, .inl (upd (upd M (4 + 2 * k) sx) (4 + 2 * k + 1) sy)))] 47 [(0, .ref mo), (1, .int (nI k)), (2, .int low), (3, .int high), (4, .int (P k)), (5, .int (Q k)), (6, .int (ar P Q k)), (7, .int ((msR P Q w f ll n k low high (x + 1) (msA P Q w f ll n k low high x) y).1)), (8, .int ((msR P Q w f ll n k low high (x + 1) (msA P Q w f ll n k low high x) y).2.2)), (9, .int (nI (x + 1))), (10, .int (nI y))] [] := by
          intro n_
          induction n_ with
          | zero =>
            intro y u2 sx sy hy hf
            exact absurd hf (by omega)
          | succ n_ ih47 =>
            intro y u2 sx sy hy hf47
            refine s_iload C (pc := 47) dX3_search_47 10 rfl ?_
            refine s_bipush C (pc := 49) (v := 20) dX3_search_49 (by decide) ?_
            refine s_icmp_gt C (pc := 51) (tgt := 216) dX3_search_51 (by decide) (fun c51 => ?_) (fun c51 => ?_)
            · skip
              have e51 := nat_lt (a := 20) (b := y) (by omega) (by omega) c51
              have hs0 : 21 = y := by omega
              subst hs0
              refine s_iinc C (pc := 216) (v := nI ((x + 1) + 1)) (ls' := [(9, .int (nI ((x + 1) + 1))), (0, .ref mo), (1, .int (nI k)), (2, .int low), (3, .int high), (4, .int (P k)), (5, .int (Q k)), (6, .int (ar P Q k)), (7, .int ((msR P Q w f ll n k low high (x + 1) (msA P Q w f ll n k low high x) 21).1)), (8, .int ((msR P Q w f ll n k low high (x + 1) (msA P Q w f ll n k low high x) 21).2.2)), (10, .int (nI 21))]) dX3_search_216 9 rfl (nI_1 _) (by decide) rfl ?_
              refine s_goto C (pc := 219) (tgt := 37) dX3_search_219 (by decide) ?_
              refine s_loc C (ls' := [(0, .ref mo), (1, .int (nI k)), (2, .int low), (3, .int high), (4, .int (P k)), (5, .int (Q k)), (6, .int (ar P Q k)), (7, .int ((msR P Q w f ll n k low high (x + 1) (msA P Q w f ll n k low high x) 21).1)), (8, .int ((msR P Q w f ll n k low high (x + 1) (msA P Q w f ll n k low high x) 21).2.2)), (9, .int (nI ((x + 1) + 1)))]) [1, 2, 3, 4, 5, 6, 7, 8, 9, 0] rfl ?_
              exact ih37 (x + 1) (u2.1, u2.2.1, u2.2.2) sx sy (by omega) (by omega)
            · skip
              have e51 := nat_nlt (a := 20) (b := y) (by omega) (by omega) c51
              refine s_iload C (pc := 54) dX3_search_54 9 rfl ?_
              refine s_iload C (pc := 56) dX3_search_56 9 rfl ?_
              refine s_imul C (pc := 58) dX3_search_58 ?_
              refine s_iload C (pc := 59) dX3_search_59 10 rfl ?_
              refine s_iload C (pc := 61) dX3_search_61 10 rfl ?_
              refine s_imul C (pc := 63) dX3_search_63 ?_
              refine s_iadd C (pc := 64) dX3_search_64 ?_
              refine s_istore C (pc := 65) (ls' := [(11, .int (((nI (x + 1)) * (nI (x + 1))) + ((nI y) * (nI y)))), (0, .ref mo), (1, .int (nI k)), (2, .int low), (3, .int high), (4, .int (P k)), (5, .int (Q k)), (6, .int (ar P Q k)), (7, .int ((msR P Q w f ll n k low high (x + 1) (msA P Q w f ll n k low high x) y).1)), (8, .int ((msR P Q w f ll n k low high (x + 1) (msA P Q w f ll n k low high x) y).2.2)), (9, .int (nI (x + 1))), (10, .int (nI y))]) dX3_search_65 (by decide) rfl ?_
              refine s_iload C (pc := 67) dX3_search_67 0 rfl ?_
              refine s_iload_n C (pc := 69) dX3_search_69 rfl 3 rfl ?_
              refine s_iload_n C (pc := 70) dX3_search_70 rfl 4 rfl ?_
              refine s_calli C (pc := 71) (wr := [(mo, .inr (3, [.ref mp, .ref ms, .ref mt, .int sts, .int al, .ref mq, .long u2.1, .int u2.2.1, .int u2.2.2, .int ((msR P Q w f ll n k low high (x + 1) (msA P Q w f ll n k low high x) y).2.1)])), (mp, .inl (X.2.1, 12, .inl (upd (upd M (4 + 2 * k) sx) (4 + 2 * k + 1) sy)))]) (wc' := []) (wn := [(mo, .inr (3, [.ref mp, .ref ms, .ref mt, .int sts, .int al, .ref mq, .long u2.1, .int u2.2.1, .int u2.2.2, .int ((msR P Q w f ll n k low high (x + 1) (msA P Q w f ll n k low high x) y).2.1)])), (mp, .inl (X.2.1, 12, .inl (upd (upd M (4 + 2 * k) sx) (4 + 2 * k + 1) sy)))]) (r_S C (As := [.int (((nI (x + 1)) * (nI (x + 1))) + ((nI y) * (nI y))), .int low, .int high]) (rest := []) (kX3_in l X (((nI (x + 1)) * (nI (x + 1))) + ((nI y) * (nI y))) low high ) (va_cwS 3 C.ts gX3_search_X3_in rfl rfl rfl (by decide +kernel) ⟨Nat.le_of_ble_eq_true rfl, Nat.le_of_ble_eq_true rfl⟩) [] (by decide) rfl rfl (Nat.le_of_ble_eq_true rfl) rfl dX3_search_71 ⟨Nat.zero_le _, Nat.zero_le _⟩) [] [0, 1] [0, 1] rfl rfl (by decide) (by decide) (by decide) rfl ?_
              refine s_bif_eq C (pc := 74) (tgt := 210) dX3_search_74 (by decide) (fun c74 => ?_) (fun c74 => ?_)
              · skip
                refine s_iinc C (pc := 210) (v := nI (y + 1)) (ls' := [(10, .int (nI (y + 1))), (11, .int (((nI (x + 1)) * (nI (x + 1))) + ((nI y) * (nI y)))), (0, .ref mo), (1, .int (nI k)), (2, .int low), (3, .int high), (4, .int (P k)), (5, .int (Q k)), (6, .int (ar P Q k)), (7, .int ((msR P Q w f ll n k low high (x + 1) (msA P Q w f ll n k low high x) y).1)), (8, .int ((msR P Q w f ll n k low high (x + 1) (msA P Q w f ll n k low high x) y).2.2)), (9, .int (nI (x + 1)))]) dX3_search_210 11 rfl (nI_1 _) (by decide) rfl ?_
                refine s_goto C (pc := 213) (tgt := 47) dX3_search_213 (by decide) ?_
                refine s_loc C (ls' := [(0, .ref mo), (1, .int (nI k)), (2, .int low), (3, .int high), (4, .int (P k)), (5, .int (Q k)), (6, .int (ar P Q k)), (7, .int ((msR P Q w f ll n k low high (x + 1) (msA P Q w f ll n k low high x) y).1)), (8, .int ((msR P Q w f ll n k low high (x + 1) (msA P Q w f ll n k low high x) y).2.2)), (9, .int (nI (x + 1))), (10, .int (nI (y + 1)))]) [2, 3, 4, 5, 6, 7, 8, 9, 10, 11, 0] rfl ?_
                have hb := ih47 (y + 1) (u2.1, u2.2.1, u2.2.2) sx sy (by omega) (by omega)
                rw [show msR P Q w f ll n k low high (x + 1) (msA P Q w f ll n k low high x) (y + 1) = msR P Q w f ll n k low high (x + 1) (msA P Q w f ll n k low high x) y from if_neg c74] at hb
                exact hb
              · skip
                refine s_aload_n C (pc := 77) dX3_search_77 rfl 1 rfl ?_
                refine s_get C (pc := 78) (T := TX3) (N := 10) (fun _ h => (List.mem_cons_of_mem _ (List.mem_append_right _ h))) 0 rfl rfl 0 (by decide) (List.mem_of_getElem? (i := 2) rfl) rfl rfl dX3_search_78 ?_
                refine s_iconst C (pc := 81) (v := 4) dX3_search_81 (by decide) ?_
                refine s_iconst C (pc := 82) (v := 2) dX3_search_82 (by decide) ?_
                refine s_iload_n C (pc := 83) dX3_search_83 rfl 2 rfl ?_
                refine s_imul C (pc := 84) dX3_search_84 ?_
                refine s_iadd C (pc := 85) dX3_search_85 ?_
                refine s_iload C (pc := 86) dX3_search_86 10 rfl ?_
                refine s_iast C (pc := 88) (ws' := [(mo, .inr (3, [.ref mp, .ref ms, .ref mt, .int sts, .int al, .ref mq, .long u2.1, .int u2.2.1, .int u2.2.2, .int ((msR P Q w f ll n k low high (x + 1) (msA P Q w f ll n k low high x) y).2.1)])), (mp, .inl (X.2.1, 12, .inl (upd (upd (upd M (4 + 2 * k) sx) (4 + 2 * k + 1) sy) (4 + 2 * k) (nI (x + 1)))))]) 1 rfl (4 + 2 * k) (ix4 k) (by omega) (by decide) rfl dX3_search_88 ?_
                refine s_aload_n C (pc := 89) dX3_search_89 rfl 1 rfl ?_
                refine s_get C (pc := 90) (T := TX3) (N := 10) (fun _ h => (List.mem_cons_of_mem _ (List.mem_append_right _ h))) 0 rfl rfl 0 (by decide) (List.mem_of_getElem? (i := 2) rfl) rfl rfl dX3_search_90 ?_
                refine s_iconst C (pc := 93) (v := 4) dX3_search_93 (by decide) ?_
                refine s_iconst C (pc := 94) (v := 2) dX3_search_94 (by decide) ?_
                refine s_iload_n C (pc := 95) dX3_search_95 rfl 2 rfl ?_
                refine s_imul C (pc := 96) dX3_search_96 ?_
                refine s_iadd C (pc := 97) dX3_search_97 ?_
                refine s_iconst C (pc := 98) (v := 1) dX3_search_98 (by decide) ?_
                refine s_iadd C (pc := 99) dX3_search_99 ?_
                refine s_iload C (pc := 100) dX3_search_100 11 rfl ?_
                refine s_iast C (pc := 102) (ws' := [(mo, .inr (3, [.ref mp, .ref ms, .ref mt, .int sts, .int al, .ref mq, .long u2.1, .int u2.2.1, .int u2.2.2, .int ((msR P Q w f ll n k low high (x + 1) (msA P Q w f ll n k low high x) y).2.1)])), (mp, .inl (X.2.1, 12, .inl (upd (upd (upd (upd M (4 + 2 * k) sx) (4 + 2 * k + 1) sy) (4 + 2 * k) (nI (x + 1))) (4 + 2 * k + 1) (nI y))))]) 1 rfl (4 + 2 * k + 1) (by rw [ix4, nI_1]) (by omega) (by decide) rfl dX3_search_102 ?_
                refine s_arrI C (ws' := [(mo, .inr (3, [.ref mp, .ref ms, .ref mt, .int sts, .int al, .ref mq, .long u2.1, .int u2.2.1, .int u2.2.2, .int ((msR P Q w f ll n k low high (x + 1) (msA P Q w f ll n k low high x) y).2.1)])), (mp, .inl (X.2.1, 12, .inl (upd (upd M (4 + 2 * k) (nI (x + 1))) (4 + 2 * k + 1) (nI y))))]) 1 rfl (fun j _ => fu_upd j) rfl ?_
                refine s_aload_n C (pc := 103) dX3_search_103 rfl 1 rfl ?_
                refine s_calliX C (pc := 104) (wr := []) (wc' := (fun u104_1 : Int64 => [(mo, .inr (3, [.ref mp, .ref ms, .ref mt, .int sts, .int al, .ref mq, .long u104_1, .int ((faL (upd P k (nI (x + 1))) (upd Q k (nI y)) w f ll n).2.2), .int ((faL (upd P k (nI (x + 1))) (upd Q k (nI y)) w f ll n).2.1), .int ((msR P Q w f ll n k low high (x + 1) (msA P Q w f ll n k low high x) y).2.1)])), (mp, .inl (X.2.1, 12, .inl ((upd (upd M (4 + 2 * k) (nI (x + 1))) (4 + 2 * k + 1) (nI y)))))])) (wn := (fun u104_1 : Int64 => [(mo, .inr (3, [.ref mp, .ref ms, .ref mt, .int sts, .int al, .ref mq, .long u104_1, .int ((faL (upd P k (nI (x + 1))) (upd Q k (nI y)) w f ll n).2.2), .int ((faL (upd P k (nI (x + 1))) (upd Q k (nI y)) w f ll n).2.1), .int ((msR P Q w f ll n k low high (x + 1) (msA P Q w f ll n k low high x) y).2.1)])), (mp, .inl (X.2.1, 12, .inl ((upd (upd M (4 + 2 * k) (nI (x + 1))) (4 + 2 * k + 1) (nI y)))))])) (r_V C (As := []) (rest := []) (kX3_findAll l X mo mp ms mt mq sts al u2.1 u2.2.1 u2.2.2 ((msR P Q w f ll n k low high (x + 1) (msA P Q w f ll n k low high x) y).2.1) (upd (upd M (4 + 2 * k) (nI (x + 1))) (4 + 2 * k + 1) (nI y)) n (upd P k (nI (x + 1))) (upd Q k (nI y)) w f ll (MR_upd hM k _ _) (by first | assumption | omega | decide) (by first | assumption | omega | decide) (hS (x + 1) y (by omega) (by omega) (by omega))) (cwV 0 C.ts gX3_search_X3_findAll rfl rfl rfl (by decide +kernel) ⟨Nat.le_of_ble_eq_true rfl, Nat.le_of_ble_eq_true rfl⟩) (q0 := 0) rfl rfl [0, 1] (by decide) rfl rfl (Nat.le_of_ble_eq_true rfl) rfl dX3_search_104 ⟨Nat.zero_le _, Nat.zero_le _⟩) [0, 1] [] [0, 1] rfl rfl (by decide) (by decide) (by decide) (fun _ => rfl) (fun u104_1 _ => ?_)
                refine s_istore C (pc := 107) (ls' := [(12, .int ((faL (upd P k (nI (x + 1))) (upd Q k (nI y)) w f ll n).1)), (11, .int (((nI (x + 1)) * (nI (x + 1))) + ((nI y) * (nI y)))), (0, .ref mo), (1, .int (nI k)), (2, .int low), (3, .int high), (4, .int (P k)), (5, .int (Q k)), (6, .int (ar P Q k)), (7, .int ((msR P Q w f ll n k low high (x + 1) (msA P Q w f ll n k low high x) y).1)), (8, .int ((msR P Q w f ll n k low high (x + 1) (msA P Q w f ll n k low high x) y).2.2)), (9, .int (nI (x + 1))), (10, .int (nI y))]) dX3_search_107 (by decide) rfl ?_
                refine s_iload C (pc := 109) dX3_search_109 9 rfl ?_
                refine s_if_lt C (pc := 111) (tgt := 145) dX3_search_111 (by decide) (fun c111 => ?_) (fun c111 => ?_)
                · skip
                  refine s_iconst C (pc := 145) (v := 1) dX3_search_145 (by decide) ?_
                  refine s_goto C (pc := 146) (tgt := 150) dX3_search_146 (by decide) ?_
                  refine s_istore C (pc := 150) (ls' := [(13, .int 1), (12, .int ((faL (upd P k (nI (x + 1))) (upd Q k (nI y)) w f ll n).1)), (11, .int (((nI (x + 1)) * (nI (x + 1))) + ((nI y) * (nI y)))), (0, .ref mo), (1, .int (nI k)), (2, .int low), (3, .int high), (4, .int (P k)), (5, .int (Q k)), (6, .int (ar P Q k)), (7, .int ((msR P Q w f ll n k low high (x + 1) (msA P Q w f ll n k low high x) y).1)), (8, .int ((msR P Q w f ll n k low high (x + 1) (msA P Q w f ll n k low high x) y).2.2)), (9, .int (nI (x + 1))), (10, .int (nI y))]) dX3_search_150 (by decide) rfl ?_
                  refine s_iload C (pc := 152) dX3_search_152 0 rfl ?_
                  refine s_if_eq C (pc := 154) (tgt := 168) dX3_search_154 (by decide) (fun h => absurd h (by decide)) (fun c154 => ?_)
                  refine s_bipush C (pc := 157) (v := 100) dX3_search_157 (by decide) ?_
                  refine s_iload C (pc := 159) dX3_search_159 12 rfl ?_
                  refine s_imul C (pc := 161) dX3_search_161 ?_
                  refine s_iload C (pc := 162) dX3_search_162 13 rfl ?_
                  refine s_iadd C (pc := 164) dX3_search_164 ?_
                  refine s_goto C (pc := 165) (tgt := 170) dX3_search_165 (by decide) ?_
                  refine s_istore C (pc := 170) (ls' := [(7, .int ((100 * (nI (x + 1))) + (nI y))), (13, .int 1), (12, .int ((faL (upd P k (nI (x + 1))) (upd Q k (nI y)) w f ll n).1)), (11, .int (((nI (x + 1)) * (nI (x + 1))) + ((nI y) * (nI y)))), (0, .ref mo), (1, .int (nI k)), (2, .int low), (3, .int high), (4, .int (P k)), (5, .int (Q k)), (6, .int (ar P Q k)), (8, .int ((msR P Q w f ll n k low high (x + 1) (msA P Q w f ll n k low high x) y).2.2)), (9, .int (nI (x + 1))), (10, .int (nI y))]) dX3_search_170 (by decide) rfl ?_
                  refine s_aload_n C (pc := 172) dX3_search_172 rfl 4 rfl ?_
                  refine s_iload C (pc := 173) dX3_search_173 1 rfl ?_
                  refine s_if_eq C (pc := 175) (tgt := 183) dX3_search_175 (by decide) (fun h => absurd h (by decide)) (fun c175 => ?_)
                  refine s_iload C (pc := 178) dX3_search_178 2 rfl ?_
                  refine s_goto C (pc := 180) (tgt := 187) dX3_search_180 (by decide) ?_
                  refine s_put C (pc := 187) (T := TX3) (N := 10) (ws' := [(mo, .inr (3, [.ref mp, .ref ms, .ref mt, .int sts, .int al, .ref mq, .long u104_1, .int ((faL (upd P k (nI (x + 1))) (upd Q k (nI y)) w f ll n).2.2), .int ((faL (upd P k (nI (x + 1))) (upd Q k (nI y)) w f ll n).2.1), .int ((faL (upd P k (nI (x + 1))) (upd Q k (nI y)) w f ll n).1)])), (mp, .inl (X.2.1, 12, .inl ((upd (upd M (4 + 2 * k) (nI (x + 1))) (4 + 2 * k + 1) (nI y)))))]) (fun _ h => (List.mem_cons_of_mem _ (List.mem_append_right _ h))) 0 rfl rfl tyX3 tyX3_ok nmX3 9 (by decide) (List.mem_of_getElem? (i := 1) rfl) rfl rfl rfl rfl (Nat.le_of_ble_eq_true rfl) rfl dX3_search_187 ?_
                  refine s_iload C (pc := 190) dX3_search_190 1 rfl ?_
                  refine s_if_eq C (pc := 192) (tgt := 206) dX3_search_192 (by decide) (fun h => absurd h (by decide)) (fun c192 => ?_)
                  refine s_iload C (pc := 195) dX3_search_195 3 rfl ?_
                  refine s_iload C (pc := 197) dX3_search_197 10 rfl ?_
                  refine s_isub C (pc := 199) dX3_search_199 ?_
                  refine s_calli C (pc := 200) (wr := [(mo, .inr (3, [.ref mp, .ref ms, .ref mt, .int sts, .int al, .ref mq, .long u104_1, .int ((faL (upd P k (nI (x + 1))) (upd Q k (nI y)) w f ll n).2.2), .int ((faL (upd P k (nI (x + 1))) (upd Q k (nI y)) w f ll n).2.1), .int ((faL (upd P k (nI (x + 1))) (upd Q k (nI y)) w f ll n).1)])), (mp, .inl (X.2.1, 12, .inl ((upd (upd M (4 + 2 * k) (nI (x + 1))) (4 + 2 * k + 1) (nI y)))))]) (wc' := []) (wn := [(mo, .inr (3, [.ref mp, .ref ms, .ref mt, .int sts, .int al, .ref mq, .long u104_1, .int ((faL (upd P k (nI (x + 1))) (upd Q k (nI y)) w f ll n).2.2), .int ((faL (upd P k (nI (x + 1))) (upd Q k (nI y)) w f ll n).2.1), .int ((faL (upd P k (nI (x + 1))) (upd Q k (nI y)) w f ll n).1)])), (mp, .inl (X.2.1, 12, .inl ((upd (upd M (4 + 2 * k) (nI (x + 1))) (4 + 2 * k + 1) (nI y)))))]) (r_S C (As := [.int ((((nI (x + 1)) * (nI (x + 1))) + ((nI y) * (nI y))) - (ar P Q k))]) (rest := []) (kX3_size l X ((((nI (x + 1)) * (nI (x + 1))) + ((nI y) * (nI y))) - (ar P Q k)) ) (va_cwS 1 C.ts gX3_search_X3_size rfl rfl rfl (by decide +kernel) ⟨Nat.le_of_ble_eq_true rfl, Nat.le_of_ble_eq_true rfl⟩) [] (by decide) rfl rfl (Nat.le_of_ble_eq_true rfl) rfl dX3_search_200 ⟨Nat.zero_le _, Nat.zero_le _⟩) [] [0, 1] [0, 1] rfl rfl (by decide) (by decide) (by decide) rfl ?_
                  refine s_goto C (pc := 203) (tgt := 208) dX3_search_203 (by decide) ?_
                  refine s_istore C (pc := 208) (ls' := [(8, .int (szI ((((nI (x + 1)) * (nI (x + 1))) + ((nI y) * (nI y))) - (ar P Q k)))), (7, .int ((100 * (nI (x + 1))) + (nI y))), (13, .int 1), (12, .int ((faL (upd P k (nI (x + 1))) (upd Q k (nI y)) w f ll n).1)), (11, .int (((nI (x + 1)) * (nI (x + 1))) + ((nI y) * (nI y)))), (0, .ref mo), (1, .int (nI k)), (2, .int low), (3, .int high), (4, .int (P k)), (5, .int (Q k)), (6, .int (ar P Q k)), (9, .int (nI (x + 1))), (10, .int (nI y))]) dX3_search_208 (by decide) rfl ?_
                  refine s_iinc C (pc := 210) (v := nI (y + 1)) (ls' := [(10, .int (nI (y + 1))), (8, .int (szI ((((nI (x + 1)) * (nI (x + 1))) + ((nI y) * (nI y))) - (ar P Q k)))), (7, .int ((100 * (nI (x + 1))) + (nI y))), (13, .int 1), (12, .int ((faL (upd P k (nI (x + 1))) (upd Q k (nI y)) w f ll n).1)), (11, .int (((nI (x + 1)) * (nI (x + 1))) + ((nI y) * (nI y)))), (0, .ref mo), (1, .int (nI k)), (2, .int low), (3, .int high), (4, .int (P k)), (5, .int (Q k)), (6, .int (ar P Q k)), (9, .int (nI (x + 1)))]) dX3_search_210 13 rfl (nI_1 _) (by decide) rfl ?_
                  refine s_goto C (pc := 213) (tgt := 47) dX3_search_213 (by decide) ?_
                  refine s_loc C (ls' := [(0, .ref mo), (1, .int (nI k)), (2, .int low), (3, .int high), (4, .int (P k)), (5, .int (Q k)), (6, .int (ar P Q k)), (7, .int ((100 * (nI (x + 1))) + (nI y))), (8, .int (szI ((((nI (x + 1)) * (nI (x + 1))) + ((nI y) * (nI y))) - (ar P Q k)))), (9, .int (nI (x + 1))), (10, .int (nI (y + 1)))]) [6, 7, 8, 9, 10, 11, 12, 2, 1, 13, 0] rfl ?_
                  have hb := ih47 (y + 1) (u104_1, (faL (upd P k (nI (x + 1))) (upd Q k (nI y)) w f ll n).2.2, (faL (upd P k (nI (x + 1))) (upd Q k (nI y)) w f ll n).2.1) (nI (x + 1)) (nI y) (by omega) (by omega)
                  rw [show msR P Q w f ll n k low high (x + 1) (msA P Q w f ll n k low high x) (y + 1) = (100 * nI (x + 1) + nI y, (faL (upd P k (nI (x + 1))) (upd Q k (nI y)) w f ll n).1, szI ((nI (x + 1) * nI (x + 1) + nI y * nI y) - ar P Q k)) from (if_pos c74).trans (if_pos (Or.inl c111))] at hb
                  exact hb
                · skip
                  refine s_iload C (pc := 114) dX3_search_114 0 rfl ?_
                  refine s_aload_n C (pc := 116) dX3_search_116 rfl 2 rfl ?_
                  refine s_get C (pc := 117) (T := TX3) (N := 10) (fun _ h => (List.mem_cons_of_mem _ (List.mem_append_right _ h))) 0 rfl rfl 9 (by decide) (List.mem_of_getElem? (i := 1) rfl) rfl rfl dX3_search_117 ?_
                  refine s_icmp_lt C (pc := 120) (tgt := 145) dX3_search_120 (by decide) (fun c120 => ?_) (fun c120 => ?_)
                  · skip
                    refine s_iconst C (pc := 145) (v := 1) dX3_search_145 (by decide) ?_
                    refine s_goto C (pc := 146) (tgt := 150) dX3_search_146 (by decide) ?_
                    refine s_istore C (pc := 150) (ls' := [(13, .int 1), (12, .int ((faL (upd P k (nI (x + 1))) (upd Q k (nI y)) w f ll n).1)), (11, .int (((nI (x + 1)) * (nI (x + 1))) + ((nI y) * (nI y)))), (0, .ref mo), (1, .int (nI k)), (2, .int low), (3, .int high), (4, .int (P k)), (5, .int (Q k)), (6, .int (ar P Q k)), (7, .int ((msR P Q w f ll n k low high (x + 1) (msA P Q w f ll n k low high x) y).1)), (8, .int ((msR P Q w f ll n k low high (x + 1) (msA P Q w f ll n k low high x) y).2.2)), (9, .int (nI (x + 1))), (10, .int (nI y))]) dX3_search_150 (by decide) rfl ?_
                    refine s_iload C (pc := 152) dX3_search_152 0 rfl ?_
                    refine s_if_eq C (pc := 154) (tgt := 168) dX3_search_154 (by decide) (fun h => absurd h (by decide)) (fun c154 => ?_)
                    refine s_bipush C (pc := 157) (v := 100) dX3_search_157 (by decide) ?_
                    refine s_iload C (pc := 159) dX3_search_159 12 rfl ?_
                    refine s_imul C (pc := 161) dX3_search_161 ?_
                    refine s_iload C (pc := 162) dX3_search_162 13 rfl ?_
                    refine s_iadd C (pc := 164) dX3_search_164 ?_
                    refine s_goto C (pc := 165) (tgt := 170) dX3_search_165 (by decide) ?_
                    refine s_istore C (pc := 170) (ls' := [(7, .int ((100 * (nI (x + 1))) + (nI y))), (13, .int 1), (12, .int ((faL (upd P k (nI (x + 1))) (upd Q k (nI y)) w f ll n).1)), (11, .int (((nI (x + 1)) * (nI (x + 1))) + ((nI y) * (nI y)))), (0, .ref mo), (1, .int (nI k)), (2, .int low), (3, .int high), (4, .int (P k)), (5, .int (Q k)), (6, .int (ar P Q k)), (8, .int ((msR P Q w f ll n k low high (x + 1) (msA P Q w f ll n k low high x) y).2.2)), (9, .int (nI (x + 1))), (10, .int (nI y))]) dX3_search_170 (by decide) rfl ?_
                    refine s_aload_n C (pc := 172) dX3_search_172 rfl 4 rfl ?_
                    refine s_iload C (pc := 173) dX3_search_173 1 rfl ?_
                    refine s_if_eq C (pc := 175) (tgt := 183) dX3_search_175 (by decide) (fun h => absurd h (by decide)) (fun c175 => ?_)
                    refine s_iload C (pc := 178) dX3_search_178 2 rfl ?_
                    refine s_goto C (pc := 180) (tgt := 187) dX3_search_180 (by decide) ?_
                    refine s_put C (pc := 187) (T := TX3) (N := 10) (ws' := [(mo, .inr (3, [.ref mp, .ref ms, .ref mt, .int sts, .int al, .ref mq, .long u104_1, .int ((faL (upd P k (nI (x + 1))) (upd Q k (nI y)) w f ll n).2.2), .int ((faL (upd P k (nI (x + 1))) (upd Q k (nI y)) w f ll n).2.1), .int ((faL (upd P k (nI (x + 1))) (upd Q k (nI y)) w f ll n).1)])), (mp, .inl (X.2.1, 12, .inl ((upd (upd M (4 + 2 * k) (nI (x + 1))) (4 + 2 * k + 1) (nI y)))))]) (fun _ h => (List.mem_cons_of_mem _ (List.mem_append_right _ h))) 0 rfl rfl tyX3 tyX3_ok nmX3 9 (by decide) (List.mem_of_getElem? (i := 1) rfl) rfl rfl rfl rfl (Nat.le_of_ble_eq_true rfl) rfl dX3_search_187 ?_
                    refine s_iload C (pc := 190) dX3_search_190 1 rfl ?_
                    refine s_if_eq C (pc := 192) (tgt := 206) dX3_search_192 (by decide) (fun h => absurd h (by decide)) (fun c192 => ?_)
                    refine s_iload C (pc := 195) dX3_search_195 3 rfl ?_
                    refine s_iload C (pc := 197) dX3_search_197 10 rfl ?_
                    refine s_isub C (pc := 199) dX3_search_199 ?_
                    refine s_calli C (pc := 200) (wr := [(mo, .inr (3, [.ref mp, .ref ms, .ref mt, .int sts, .int al, .ref mq, .long u104_1, .int ((faL (upd P k (nI (x + 1))) (upd Q k (nI y)) w f ll n).2.2), .int ((faL (upd P k (nI (x + 1))) (upd Q k (nI y)) w f ll n).2.1), .int ((faL (upd P k (nI (x + 1))) (upd Q k (nI y)) w f ll n).1)])), (mp, .inl (X.2.1, 12, .inl ((upd (upd M (4 + 2 * k) (nI (x + 1))) (4 + 2 * k + 1) (nI y)))))]) (wc' := []) (wn := [(mo, .inr (3, [.ref mp, .ref ms, .ref mt, .int sts, .int al, .ref mq, .long u104_1, .int ((faL (upd P k (nI (x + 1))) (upd Q k (nI y)) w f ll n).2.2), .int ((faL (upd P k (nI (x + 1))) (upd Q k (nI y)) w f ll n).2.1), .int ((faL (upd P k (nI (x + 1))) (upd Q k (nI y)) w f ll n).1)])), (mp, .inl (X.2.1, 12, .inl ((upd (upd M (4 + 2 * k) (nI (x + 1))) (4 + 2 * k + 1) (nI y)))))]) (r_S C (As := [.int ((((nI (x + 1)) * (nI (x + 1))) + ((nI y) * (nI y))) - (ar P Q k))]) (rest := []) (kX3_size l X ((((nI (x + 1)) * (nI (x + 1))) + ((nI y) * (nI y))) - (ar P Q k)) ) (va_cwS 1 C.ts gX3_search_X3_size rfl rfl rfl (by decide +kernel) ⟨Nat.le_of_ble_eq_true rfl, Nat.le_of_ble_eq_true rfl⟩) [] (by decide) rfl rfl (Nat.le_of_ble_eq_true rfl) rfl dX3_search_200 ⟨Nat.zero_le _, Nat.zero_le _⟩) [] [0, 1] [0, 1] rfl rfl (by decide) (by decide) (by decide) rfl ?_
                    refine s_goto C (pc := 203) (tgt := 208) dX3_search_203 (by decide) ?_
                    refine s_istore C (pc := 208) (ls' := [(8, .int (szI ((((nI (x + 1)) * (nI (x + 1))) + ((nI y) * (nI y))) - (ar P Q k)))), (7, .int ((100 * (nI (x + 1))) + (nI y))), (13, .int 1), (12, .int ((faL (upd P k (nI (x + 1))) (upd Q k (nI y)) w f ll n).1)), (11, .int (((nI (x + 1)) * (nI (x + 1))) + ((nI y) * (nI y)))), (0, .ref mo), (1, .int (nI k)), (2, .int low), (3, .int high), (4, .int (P k)), (5, .int (Q k)), (6, .int (ar P Q k)), (9, .int (nI (x + 1))), (10, .int (nI y))]) dX3_search_208 (by decide) rfl ?_
                    refine s_iinc C (pc := 210) (v := nI (y + 1)) (ls' := [(10, .int (nI (y + 1))), (8, .int (szI ((((nI (x + 1)) * (nI (x + 1))) + ((nI y) * (nI y))) - (ar P Q k)))), (7, .int ((100 * (nI (x + 1))) + (nI y))), (13, .int 1), (12, .int ((faL (upd P k (nI (x + 1))) (upd Q k (nI y)) w f ll n).1)), (11, .int (((nI (x + 1)) * (nI (x + 1))) + ((nI y) * (nI y)))), (0, .ref mo), (1, .int (nI k)), (2, .int low), (3, .int high), (4, .int (P k)), (5, .int (Q k)), (6, .int (ar P Q k)), (9, .int (nI (x + 1)))]) dX3_search_210 13 rfl (nI_1 _) (by decide) rfl ?_
                    refine s_goto C (pc := 213) (tgt := 47) dX3_search_213 (by decide) ?_
                    refine s_loc C (ls' := [(0, .ref mo), (1, .int (nI k)), (2, .int low), (3, .int high), (4, .int (P k)), (5, .int (Q k)), (6, .int (ar P Q k)), (7, .int ((100 * (nI (x + 1))) + (nI y))), (8, .int (szI ((((nI (x + 1)) * (nI (x + 1))) + ((nI y) * (nI y))) - (ar P Q k)))), (9, .int (nI (x + 1))), (10, .int (nI (y + 1)))]) [6, 7, 8, 9, 10, 11, 12, 2, 1, 13, 0] rfl ?_
                    have hb := ih47 (y + 1) (u104_1, (faL (upd P k (nI (x + 1))) (upd Q k (nI y)) w f ll n).2.2, (faL (upd P k (nI (x + 1))) (upd Q k (nI y)) w f ll n).2.1) (nI (x + 1)) (nI y) (by omega) (by omega)
                    rw [show msR P Q w f ll n k low high (x + 1) (msA P Q w f ll n k low high x) (y + 1) = (100 * nI (x + 1) + nI y, (faL (upd P k (nI (x + 1))) (upd Q k (nI y)) w f ll n).1, szI ((nI (x + 1) * nI (x + 1) + nI y * nI y) - ar P Q k)) from (if_pos c74).trans (if_pos (Or.inr (Or.inl c120)))] at hb
                    exact hb
                  · skip
                    refine s_iload C (pc := 123) dX3_search_123 0 rfl ?_
                    refine s_aload_n C (pc := 125) dX3_search_125 rfl 2 rfl ?_
                    refine s_get C (pc := 126) (T := TX3) (N := 10) (fun _ h => (List.mem_cons_of_mem _ (List.mem_append_right _ h))) 0 rfl rfl 9 (by decide) (List.mem_of_getElem? (i := 1) rfl) rfl rfl dX3_search_126 ?_
                    refine s_icmp_ne C (pc := 129) (tgt := 149) dX3_search_129 (by decide) (fun c129 => ?_) (fun c129 => ?_)
                    · skip
                      refine s_iconst C (pc := 149) (v := 0) dX3_search_149 (by decide) ?_
                      refine s_istore C (pc := 150) (ls' := [(13, .int 0), (12, .int ((faL (upd P k (nI (x + 1))) (upd Q k (nI y)) w f ll n).1)), (11, .int (((nI (x + 1)) * (nI (x + 1))) + ((nI y) * (nI y)))), (0, .ref mo), (1, .int (nI k)), (2, .int low), (3, .int high), (4, .int (P k)), (5, .int (Q k)), (6, .int (ar P Q k)), (7, .int ((msR P Q w f ll n k low high (x + 1) (msA P Q w f ll n k low high x) y).1)), (8, .int ((msR P Q w f ll n k low high (x + 1) (msA P Q w f ll n k low high x) y).2.2)), (9, .int (nI (x + 1))), (10, .int (nI y))]) dX3_search_150 (by decide) rfl ?_
                      refine s_iload C (pc := 152) dX3_search_152 0 rfl ?_
                      refine s_if_eq C (pc := 154) (tgt := 168) dX3_search_154 (by decide) (fun c154 => ?_) (fun h => absurd (by decide) h)
                      refine s_iload C (pc := 168) dX3_search_168 10 rfl ?_
                      refine s_istore C (pc := 170) (ls' := [(7, .int ((msR P Q w f ll n k low high (x + 1) (msA P Q w f ll n k low high x) y).1)), (13, .int 0), (12, .int ((faL (upd P k (nI (x + 1))) (upd Q k (nI y)) w f ll n).1)), (11, .int (((nI (x + 1)) * (nI (x + 1))) + ((nI y) * (nI y)))), (0, .ref mo), (1, .int (nI k)), (2, .int low), (3, .int high), (4, .int (P k)), (5, .int (Q k)), (6, .int (ar P Q k)), (8, .int ((msR P Q w f ll n k low high (x + 1) (msA P Q w f ll n k low high x) y).2.2)), (9, .int (nI (x + 1))), (10, .int (nI y))]) dX3_search_170 (by decide) rfl ?_
                      refine s_aload_n C (pc := 172) dX3_search_172 rfl 4 rfl ?_
                      refine s_iload C (pc := 173) dX3_search_173 1 rfl ?_
                      refine s_if_eq C (pc := 175) (tgt := 183) dX3_search_175 (by decide) (fun c175 => ?_) (fun h => absurd (by decide) h)
                      refine s_aload_n C (pc := 183) dX3_search_183 rfl 4 rfl ?_
                      refine s_get C (pc := 184) (T := TX3) (N := 10) (fun _ h => (List.mem_cons_of_mem _ (List.mem_append_right _ h))) 0 rfl rfl 9 (by decide) (List.mem_of_getElem? (i := 1) rfl) rfl rfl dX3_search_184 ?_
                      refine s_put C (pc := 187) (T := TX3) (N := 10) (ws' := [(mo, .inr (3, [.ref mp, .ref ms, .ref mt, .int sts, .int al, .ref mq, .long u104_1, .int ((faL (upd P k (nI (x + 1))) (upd Q k (nI y)) w f ll n).2.2), .int ((faL (upd P k (nI (x + 1))) (upd Q k (nI y)) w f ll n).2.1), .int ((msR P Q w f ll n k low high (x + 1) (msA P Q w f ll n k low high x) y).2.1)])), (mp, .inl (X.2.1, 12, .inl ((upd (upd M (4 + 2 * k) (nI (x + 1))) (4 + 2 * k + 1) (nI y)))))]) (fun _ h => (List.mem_cons_of_mem _ (List.mem_append_right _ h))) 0 rfl rfl tyX3 tyX3_ok nmX3 9 (by decide) (List.mem_of_getElem? (i := 1) rfl) rfl rfl rfl rfl (Nat.le_of_ble_eq_true rfl) rfl dX3_search_187 ?_
                      refine s_iload C (pc := 190) dX3_search_190 1 rfl ?_
                      refine s_if_eq C (pc := 192) (tgt := 206) dX3_search_192 (by decide) (fun c192 => ?_) (fun h => absurd (by decide) h)
                      refine s_iload C (pc := 206) dX3_search_206 11 rfl ?_
                      refine s_istore C (pc := 208) (ls' := [(8, .int ((msR P Q w f ll n k low high (x + 1) (msA P Q w f ll n k low high x) y).2.2)), (7, .int ((msR P Q w f ll n k low high (x + 1) (msA P Q w f ll n k low high x) y).1)), (13, .int 0), (12, .int ((faL (upd P k (nI (x + 1))) (upd Q k (nI y)) w f ll n).1)), (11, .int (((nI (x + 1)) * (nI (x + 1))) + ((nI y) * (nI y)))), (0, .ref mo), (1, .int (nI k)), (2, .int low), (3, .int high), (4, .int (P k)), (5, .int (Q k)), (6, .int (ar P Q k)), (9, .int (nI (x + 1))), (10, .int (nI y))]) dX3_search_208 (by decide) rfl ?_
                      refine s_iinc C (pc := 210) (v := nI (y + 1)) (ls' := [(10, .int (nI (y + 1))), (8, .int ((msR P Q w f ll n k low high (x + 1) (msA P Q w f ll n k low high x) y).2.2)), (7, .int ((msR P Q w f ll n k low high (x + 1) (msA P Q w f ll n k low high x) y).1)), (13, .int 0), (12, .int ((faL (upd P k (nI (x + 1))) (upd Q k (nI y)) w f ll n).1)), (11, .int (((nI (x + 1)) * (nI (x + 1))) + ((nI y) * (nI y)))), (0, .ref mo), (1, .int (nI k)), (2, .int low), (3, .int high), (4, .int (P k)), (5, .int (Q k)), (6, .int (ar P Q k)), (9, .int (nI (x + 1)))]) dX3_search_210 13 rfl (nI_1 _) (by decide) rfl ?_
                      refine s_goto C (pc := 213) (tgt := 47) dX3_search_213 (by decide) ?_
                      refine s_loc C (ls' := [(0, .ref mo), (1, .int (nI k)), (2, .int low), (3, .int high), (4, .int (P k)), (5, .int (Q k)), (6, .int (ar P Q k)), (7, .int ((msR P Q w f ll n k low high (x + 1) (msA P Q w f ll n k low high x) y).1)), (8, .int ((msR P Q w f ll n k low high (x + 1) (msA P Q w f ll n k low high x) y).2.2)), (9, .int (nI (x + 1))), (10, .int (nI (y + 1)))]) [6, 7, 8, 9, 10, 11, 12, 2, 1, 13, 0] rfl ?_
                      have hb := ih47 (y + 1) (u104_1, (faL (upd P k (nI (x + 1))) (upd Q k (nI y)) w f ll n).2.2, (faL (upd P k (nI (x + 1))) (upd Q k (nI y)) w f ll n).2.1) (nI (x + 1)) (nI y) (by omega) (by omega)
                      rw [show msR P Q w f ll n k low high (x + 1) (msA P Q w f ll n k low high x) (y + 1) = msR P Q w f ll n k low high (x + 1) (msA P Q w f ll n k low high x) y from (if_pos c74).trans (if_neg (fun hh => hh.elim c111 (fun hh => hh.elim c120 (fun hh => c129 hh.1))))] at hb
                      exact hb
                    · skip
                      refine s_iload C (pc := 132) dX3_search_132 1 rfl ?_
                      refine s_iload C (pc := 134) dX3_search_134 8 rfl ?_
                      refine s_isub C (pc := 136) dX3_search_136 ?_
                      refine s_calli C (pc := 137) (wr := [(mo, .inr (3, [.ref mp, .ref ms, .ref mt, .int sts, .int al, .ref mq, .long u104_1, .int ((faL (upd P k (nI (x + 1))) (upd Q k (nI y)) w f ll n).2.2), .int ((faL (upd P k (nI (x + 1))) (upd Q k (nI y)) w f ll n).2.1), .int ((msR P Q w f ll n k low high (x + 1) (msA P Q w f ll n k low high x) y).2.1)])), (mp, .inl (X.2.1, 12, .inl ((upd (upd M (4 + 2 * k) (nI (x + 1))) (4 + 2 * k + 1) (nI y)))))]) (wc' := []) (wn := [(mo, .inr (3, [.ref mp, .ref ms, .ref mt, .int sts, .int al, .ref mq, .long u104_1, .int ((faL (upd P k (nI (x + 1))) (upd Q k (nI y)) w f ll n).2.2), .int ((faL (upd P k (nI (x + 1))) (upd Q k (nI y)) w f ll n).2.1), .int ((msR P Q w f ll n k low high (x + 1) (msA P Q w f ll n k low high x) y).2.1)])), (mp, .inl (X.2.1, 12, .inl ((upd (upd M (4 + 2 * k) (nI (x + 1))) (4 + 2 * k + 1) (nI y)))))]) (r_S C (As := [.int ((((nI (x + 1)) * (nI (x + 1))) + ((nI y) * (nI y))) - (ar P Q k))]) (rest := []) (kX3_size l X ((((nI (x + 1)) * (nI (x + 1))) + ((nI y) * (nI y))) - (ar P Q k)) ) (va_cwS 1 C.ts gX3_search_X3_size rfl rfl rfl (by decide +kernel) ⟨Nat.le_of_ble_eq_true rfl, Nat.le_of_ble_eq_true rfl⟩) [] (by decide) rfl rfl (Nat.le_of_ble_eq_true rfl) rfl dX3_search_137 ⟨Nat.zero_le _, Nat.zero_le _⟩) [] [0, 1] [0, 1] rfl rfl (by decide) (by decide) (by decide) rfl ?_
                      refine s_iload C (pc := 140) dX3_search_140 10 rfl ?_
                      refine s_icmp_ge C (pc := 142) (tgt := 149) dX3_search_142 (by decide) (fun c142 => ?_) (fun c142 => ?_)
                      · skip
                        refine s_iconst C (pc := 149) (v := 0) dX3_search_149 (by decide) ?_
                        refine s_istore C (pc := 150) (ls' := [(13, .int 0), (12, .int ((faL (upd P k (nI (x + 1))) (upd Q k (nI y)) w f ll n).1)), (11, .int (((nI (x + 1)) * (nI (x + 1))) + ((nI y) * (nI y)))), (0, .ref mo), (1, .int (nI k)), (2, .int low), (3, .int high), (4, .int (P k)), (5, .int (Q k)), (6, .int (ar P Q k)), (7, .int ((msR P Q w f ll n k low high (x + 1) (msA P Q w f ll n k low high x) y).1)), (8, .int ((msR P Q w f ll n k low high (x + 1) (msA P Q w f ll n k low high x) y).2.2)), (9, .int (nI (x + 1))), (10, .int (nI y))]) dX3_search_150 (by decide) rfl ?_
                        refine s_iload C (pc := 152) dX3_search_152 0 rfl ?_
                        refine s_if_eq C (pc := 154) (tgt := 168) dX3_search_154 (by decide) (fun c154 => ?_) (fun h => absurd (by decide) h)
                        refine s_iload C (pc := 168) dX3_search_168 10 rfl ?_
                        refine s_istore C (pc := 170) (ls' := [(7, .int ((msR P Q w f ll n k low high (x + 1) (msA P Q w f ll n k low high x) y).1)), (13, .int 0), (12, .int ((faL (upd P k (nI (x + 1))) (upd Q k (nI y)) w f ll n).1)), (11, .int (((nI (x + 1)) * (nI (x + 1))) + ((nI y) * (nI y)))), (0, .ref mo), (1, .int (nI k)), (2, .int low), (3, .int high), (4, .int (P k)), (5, .int (Q k)), (6, .int (ar P Q k)), (8, .int ((msR P Q w f ll n k low high (x + 1) (msA P Q w f ll n k low high x) y).2.2)), (9, .int (nI (x + 1))), (10, .int (nI y))]) dX3_search_170 (by decide) rfl ?_
                        refine s_aload_n C (pc := 172) dX3_search_172 rfl 4 rfl ?_
                        refine s_iload C (pc := 173) dX3_search_173 1 rfl ?_
                        refine s_if_eq C (pc := 175) (tgt := 183) dX3_search_175 (by decide) (fun c175 => ?_) (fun h => absurd (by decide) h)
                        refine s_aload_n C (pc := 183) dX3_search_183 rfl 4 rfl ?_
                        refine s_get C (pc := 184) (T := TX3) (N := 10) (fun _ h => (List.mem_cons_of_mem _ (List.mem_append_right _ h))) 0 rfl rfl 9 (by decide) (List.mem_of_getElem? (i := 1) rfl) rfl rfl dX3_search_184 ?_
                        refine s_put C (pc := 187) (T := TX3) (N := 10) (ws' := [(mo, .inr (3, [.ref mp, .ref ms, .ref mt, .int sts, .int al, .ref mq, .long u104_1, .int ((faL (upd P k (nI (x + 1))) (upd Q k (nI y)) w f ll n).2.2), .int ((faL (upd P k (nI (x + 1))) (upd Q k (nI y)) w f ll n).2.1), .int ((msR P Q w f ll n k low high (x + 1) (msA P Q w f ll n k low high x) y).2.1)])), (mp, .inl (X.2.1, 12, .inl ((upd (upd M (4 + 2 * k) (nI (x + 1))) (4 + 2 * k + 1) (nI y)))))]) (fun _ h => (List.mem_cons_of_mem _ (List.mem_append_right _ h))) 0 rfl rfl tyX3 tyX3_ok nmX3 9 (by decide) (List.mem_of_getElem? (i := 1) rfl) rfl rfl rfl rfl (Nat.le_of_ble_eq_true rfl) rfl dX3_search_187 ?_
                        refine s_iload C (pc := 190) dX3_search_190 1 rfl ?_
                        refine s_if_eq C (pc := 192) (tgt := 206) dX3_search_192 (by decide) (fun c192 => ?_) (fun h => absurd (by decide) h)
                        refine s_iload C (pc := 206) dX3_search_206 11 rfl ?_
                        refine s_istore C (pc := 208) (ls' := [(8, .int ((msR P Q w f ll n k low high (x + 1) (msA P Q w f ll n k low high x) y).2.2)), (7, .int ((msR P Q w f ll n k low high (x + 1) (msA P Q w f ll n k low high x) y).1)), (13, .int 0), (12, .int ((faL (upd P k (nI (x + 1))) (upd Q k (nI y)) w f ll n).1)), (11, .int (((nI (x + 1)) * (nI (x + 1))) + ((nI y) * (nI y)))), (0, .ref mo), (1, .int (nI k)), (2, .int low), (3, .int high), (4, .int (P k)), (5, .int (Q k)), (6, .int (ar P Q k)), (9, .int (nI (x + 1))), (10, .int (nI y))]) dX3_search_208 (by decide) rfl ?_
                        refine s_iinc C (pc := 210) (v := nI (y + 1)) (ls' := [(10, .int (nI (y + 1))), (8, .int ((msR P Q w f ll n k low high (x + 1) (msA P Q w f ll n k low high x) y).2.2)), (7, .int ((msR P Q w f ll n k low high (x + 1) (msA P Q w f ll n k low high x) y).1)), (13, .int 0), (12, .int ((faL (upd P k (nI (x + 1))) (upd Q k (nI y)) w f ll n).1)), (11, .int (((nI (x + 1)) * (nI (x + 1))) + ((nI y) * (nI y)))), (0, .ref mo), (1, .int (nI k)), (2, .int low), (3, .int high), (4, .int (P k)), (5, .int (Q k)), (6, .int (ar P Q k)), (9, .int (nI (x + 1)))]) dX3_search_210 13 rfl (nI_1 _) (by decide) rfl ?_
                        refine s_goto C (pc := 213) (tgt := 47) dX3_search_213 (by decide) ?_
                        refine s_loc C (ls' := [(0, .ref mo), (1, .int (nI k)), (2, .int low), (3, .int high), (4, .int (P k)), (5, .int (Q k)), (6, .int (ar P Q k)), (7, .int ((msR P Q w f ll n k low high (x + 1) (msA P Q w f ll n k low high x) y).1)), (8, .int ((msR P Q w f ll n k low high (x + 1) (msA P Q w f ll n k low high x) y).2.2)), (9, .int (nI (x + 1))), (10, .int (nI (y + 1)))]) [6, 7, 8, 9, 10, 11, 12, 2, 1, 13, 0] rfl ?_
                        have hb := ih47 (y + 1) (u104_1, (faL (upd P k (nI (x + 1))) (upd Q k (nI y)) w f ll n).2.2, (faL (upd P k (nI (x + 1))) (upd Q k (nI y)) w f ll n).2.1) (nI (x + 1)) (nI y) (by omega) (by omega)
                        rw [show msR P Q w f ll n k low high (x + 1) (msA P Q w f ll n k low high x) (y + 1) = msR P Q w f ll n k low high (x + 1) (msA P Q w f ll n k low high x) y from (if_pos c74).trans (if_neg (fun hh => hh.elim c111 (fun hh => hh.elim c120 (fun hh => absurd c142 (Int32.not_le.mpr hh.2)))))] at hb
                        exact hb
                      · skip
                        refine s_iconst C (pc := 145) (v := 1) dX3_search_145 (by decide) ?_
                        refine s_goto C (pc := 146) (tgt := 150) dX3_search_146 (by decide) ?_
                        refine s_istore C (pc := 150) (ls' := [(13, .int 1), (12, .int ((faL (upd P k (nI (x + 1))) (upd Q k (nI y)) w f ll n).1)), (11, .int (((nI (x + 1)) * (nI (x + 1))) + ((nI y) * (nI y)))), (0, .ref mo), (1, .int (nI k)), (2, .int low), (3, .int high), (4, .int (P k)), (5, .int (Q k)), (6, .int (ar P Q k)), (7, .int ((msR P Q w f ll n k low high (x + 1) (msA P Q w f ll n k low high x) y).1)), (8, .int ((msR P Q w f ll n k low high (x + 1) (msA P Q w f ll n k low high x) y).2.2)), (9, .int (nI (x + 1))), (10, .int (nI y))]) dX3_search_150 (by decide) rfl ?_
                        refine s_iload C (pc := 152) dX3_search_152 0 rfl ?_
                        refine s_if_eq C (pc := 154) (tgt := 168) dX3_search_154 (by decide) (fun h => absurd h (by decide)) (fun c154 => ?_)
                        refine s_bipush C (pc := 157) (v := 100) dX3_search_157 (by decide) ?_
                        refine s_iload C (pc := 159) dX3_search_159 12 rfl ?_
                        refine s_imul C (pc := 161) dX3_search_161 ?_
                        refine s_iload C (pc := 162) dX3_search_162 13 rfl ?_
                        refine s_iadd C (pc := 164) dX3_search_164 ?_
                        refine s_goto C (pc := 165) (tgt := 170) dX3_search_165 (by decide) ?_
                        refine s_istore C (pc := 170) (ls' := [(7, .int ((100 * (nI (x + 1))) + (nI y))), (13, .int 1), (12, .int ((faL (upd P k (nI (x + 1))) (upd Q k (nI y)) w f ll n).1)), (11, .int (((nI (x + 1)) * (nI (x + 1))) + ((nI y) * (nI y)))), (0, .ref mo), (1, .int (nI k)), (2, .int low), (3, .int high), (4, .int (P k)), (5, .int (Q k)), (6, .int (ar P Q k)), (8, .int ((msR P Q w f ll n k low high (x + 1) (msA P Q w f ll n k low high x) y).2.2)), (9, .int (nI (x + 1))), (10, .int (nI y))]) dX3_search_170 (by decide) rfl ?_
                        refine s_aload_n C (pc := 172) dX3_search_172 rfl 4 rfl ?_
                        refine s_iload C (pc := 173) dX3_search_173 1 rfl ?_
                        refine s_if_eq C (pc := 175) (tgt := 183) dX3_search_175 (by decide) (fun h => absurd h (by decide)) (fun c175 => ?_)
                        refine s_iload C (pc := 178) dX3_search_178 2 rfl ?_
                        refine s_goto C (pc := 180) (tgt := 187) dX3_search_180 (by decide) ?_
                        refine s_put C (pc := 187) (T := TX3) (N := 10) (ws' := [(mo, .inr (3, [.ref mp, .ref ms, .ref mt, .int sts, .int al, .ref mq, .long u104_1, .int ((faL (upd P k (nI (x + 1))) (upd Q k (nI y)) w f ll n).2.2), .int ((faL (upd P k (nI (x + 1))) (upd Q k (nI y)) w f ll n).2.1), .int ((faL (upd P k (nI (x + 1))) (upd Q k (nI y)) w f ll n).1)])), (mp, .inl (X.2.1, 12, .inl ((upd (upd M (4 + 2 * k) (nI (x + 1))) (4 + 2 * k + 1) (nI y)))))]) (fun _ h => (List.mem_cons_of_mem _ (List.mem_append_right _ h))) 0 rfl rfl tyX3 tyX3_ok nmX3 9 (by decide) (List.mem_of_getElem? (i := 1) rfl) rfl rfl rfl rfl (Nat.le_of_ble_eq_true rfl) rfl dX3_search_187 ?_
                        refine s_iload C (pc := 190) dX3_search_190 1 rfl ?_
                        refine s_if_eq C (pc := 192) (tgt := 206) dX3_search_192 (by decide) (fun h => absurd h (by decide)) (fun c192 => ?_)
                        refine s_iload C (pc := 195) dX3_search_195 3 rfl ?_
                        refine s_iload C (pc := 197) dX3_search_197 10 rfl ?_
                        refine s_isub C (pc := 199) dX3_search_199 ?_
                        refine s_calli C (pc := 200) (wr := [(mo, .inr (3, [.ref mp, .ref ms, .ref mt, .int sts, .int al, .ref mq, .long u104_1, .int ((faL (upd P k (nI (x + 1))) (upd Q k (nI y)) w f ll n).2.2), .int ((faL (upd P k (nI (x + 1))) (upd Q k (nI y)) w f ll n).2.1), .int ((faL (upd P k (nI (x + 1))) (upd Q k (nI y)) w f ll n).1)])), (mp, .inl (X.2.1, 12, .inl ((upd (upd M (4 + 2 * k) (nI (x + 1))) (4 + 2 * k + 1) (nI y)))))]) (wc' := []) (wn := [(mo, .inr (3, [.ref mp, .ref ms, .ref mt, .int sts, .int al, .ref mq, .long u104_1, .int ((faL (upd P k (nI (x + 1))) (upd Q k (nI y)) w f ll n).2.2), .int ((faL (upd P k (nI (x + 1))) (upd Q k (nI y)) w f ll n).2.1), .int ((faL (upd P k (nI (x + 1))) (upd Q k (nI y)) w f ll n).1)])), (mp, .inl (X.2.1, 12, .inl ((upd (upd M (4 + 2 * k) (nI (x + 1))) (4 + 2 * k + 1) (nI y)))))]) (r_S C (As := [.int ((((nI (x + 1)) * (nI (x + 1))) + ((nI y) * (nI y))) - (ar P Q k))]) (rest := []) (kX3_size l X ((((nI (x + 1)) * (nI (x + 1))) + ((nI y) * (nI y))) - (ar P Q k)) ) (va_cwS 1 C.ts gX3_search_X3_size rfl rfl rfl (by decide +kernel) ⟨Nat.le_of_ble_eq_true rfl, Nat.le_of_ble_eq_true rfl⟩) [] (by decide) rfl rfl (Nat.le_of_ble_eq_true rfl) rfl dX3_search_200 ⟨Nat.zero_le _, Nat.zero_le _⟩) [] [0, 1] [0, 1] rfl rfl (by decide) (by decide) (by decide) rfl ?_
                        refine s_goto C (pc := 203) (tgt := 208) dX3_search_203 (by decide) ?_
                        refine s_istore C (pc := 208) (ls' := [(8, .int (szI ((((nI (x + 1)) * (nI (x + 1))) + ((nI y) * (nI y))) - (ar P Q k)))), (7, .int ((100 * (nI (x + 1))) + (nI y))), (13, .int 1), (12, .int ((faL (upd P k (nI (x + 1))) (upd Q k (nI y)) w f ll n).1)), (11, .int (((nI (x + 1)) * (nI (x + 1))) + ((nI y) * (nI y)))), (0, .ref mo), (1, .int (nI k)), (2, .int low), (3, .int high), (4, .int (P k)), (5, .int (Q k)), (6, .int (ar P Q k)), (9, .int (nI (x + 1))), (10, .int (nI y))]) dX3_search_208 (by decide) rfl ?_
                        refine s_iinc C (pc := 210) (v := nI (y + 1)) (ls' := [(10, .int (nI (y + 1))), (8, .int (szI ((((nI (x + 1)) * (nI (x + 1))) + ((nI y) * (nI y))) - (ar P Q k)))), (7, .int ((100 * (nI (x + 1))) + (nI y))), (13, .int 1), (12, .int ((faL (upd P k (nI (x + 1))) (upd Q k (nI y)) w f ll n).1)), (11, .int (((nI (x + 1)) * (nI (x + 1))) + ((nI y) * (nI y)))), (0, .ref mo), (1, .int (nI k)), (2, .int low), (3, .int high), (4, .int (P k)), (5, .int (Q k)), (6, .int (ar P Q k)), (9, .int (nI (x + 1)))]) dX3_search_210 13 rfl (nI_1 _) (by decide) rfl ?_
                        refine s_goto C (pc := 213) (tgt := 47) dX3_search_213 (by decide) ?_
                        refine s_loc C (ls' := [(0, .ref mo), (1, .int (nI k)), (2, .int low), (3, .int high), (4, .int (P k)), (5, .int (Q k)), (6, .int (ar P Q k)), (7, .int ((100 * (nI (x + 1))) + (nI y))), (8, .int (szI ((((nI (x + 1)) * (nI (x + 1))) + ((nI y) * (nI y))) - (ar P Q k)))), (9, .int (nI (x + 1))), (10, .int (nI (y + 1)))]) [6, 7, 8, 9, 10, 11, 12, 2, 1, 13, 0] rfl ?_
                        have hb := ih47 (y + 1) (u104_1, (faL (upd P k (nI (x + 1))) (upd Q k (nI y)) w f ll n).2.2, (faL (upd P k (nI (x + 1))) (upd Q k (nI y)) w f ll n).2.1) (nI (x + 1)) (nI y) (by omega) (by omega)
                        rw [show msR P Q w f ll n k low high (x + 1) (msA P Q w f ll n k low high x) (y + 1) = (100 * nI (x + 1) + nI y, (faL (upd P k (nI (x + 1))) (upd Q k (nI y)) w f ll n).1, szI ((nI (x + 1) * nI (x + 1) + nI y * nI y) - ar P Q k)) from (if_pos c74).trans (if_pos (Or.inr (Or.inr ⟨c129, Int32.not_le.mp c142⟩)))] at hb
                        exact hb
        refine s_loc C (ls' := [(0, .ref mo), (1, .int (nI k)), (2, .int low), (3, .int high), (4, .int (P k)), (5, .int (Q k)), (6, .int (ar P Q k)), (7, .int ((msA P Q w f ll n k low high x).1)), (8, .int ((msA P Q w f ll n k low high x).2.2)), (9, .int (nI (x + 1))), (10, .int 0)]) [1, 2, 3, 4, 5, 6, 7, 8, 9, 10, 0] rfl ?_
        exact L47 22 0 (u.1, u.2.1, u.2.2) tx ty (Nat.zero_le _) (by omega)
  refine s_loc C (ls' := [(0, .ref mo), (1, .int (nI k)), (2, .int low), (3, .int high), (4, .int (P k)), (5, .int (Q k)), (6, .int (ar P Q k)), (7, .int (-4)), (8, .int 0), (9, .int 1)]) [6, 7, 8, 9, 5, 4, 3, 2, 1, 0] rfl ?_
  exact L37 21 0 (wd, wS, wo) (P k) (Q k) (Nat.zero_le _) (by omega)

set_option maxHeartbeats 4000000 in
set_option maxRecDepth 100000 in
theorem kX3_bestScreen_bad (l : Launch) (X : XT) (mo mp ms mt mq : Nat) (sts al : Int32) (wd : Int64) (wS wo fw : Int32) (M : Nat → Int32) (n : Nat) (P Q : Nat → Int32) (o f ll : Int32) (i low high : Int32) (hb : ¬ (hv n i ∧ 1 ≤ low ∧ low ≤ high ∧ high ≤ 800)) (hM : MR M n P Q o f ll) (hn : n ≤ 4) : KI l yX3_bestScreen wsX3_bestScreen ({ frames := 3, cells := 0, slots := 0, locals := 66 }) X [.ref mo, .int i, .int low, .int high] [(mo, .inr (3, [.ref mp, .ref ms, .ref mt, .int sts, .int al, .ref mq, .long wd, .int wS, .int wo, .int fw])), (mp, .inl (X.2.1, 12, .inl (M)))] [(mo, .inr (3, [.ref mp, .ref ms, .ref mt, .int sts, .int al, .ref mq, .long wd, .int wS, .int wo, .int fw])), (mp, .inl (X.2.1, 12, .inl (M)))] (-1) := by
  refine k_ofI (cc := cX3_bestScreen) (own := RX3) (maxL := 4) (ret := (some .int)) (ls0 := [(0, .ref mo), (1, .int i), (2, .int low), (3, .int high)]) (by decide) rfl rfl (Nat.le_of_ble_eq_true rfl) rfl ?_
  intro p e s m args below meth c A g C hr hlk
  refine s_aload_n C (pc := 0) dX3_bestScreen_0 rfl 0 rfl ?_
  refine s_iload_n C (pc := 1) dX3_bestScreen_1 rfl 1 rfl ?_
  refine s_iload_n C (pc := 2) dX3_bestScreen_2 rfl 2 rfl ?_
  refine s_iload_n C (pc := 3) dX3_bestScreen_3 rfl 3 rfl ?_
  refine s_calli C (pc := 4) (wr := []) (wc' := [(mo, .inr (3, [.ref mp, .ref ms, .ref mt, .int sts, .int al, .ref mq, .long wd, .int wS, .int wo, .int fw])), (mp, .inl (X.2.1, 12, .inl (M)))]) (wn := [(mo, .inr (3, [.ref mp, .ref ms, .ref mt, .int sts, .int al, .ref mq, .long wd, .int wS, .int wo, .int fw])), (mp, .inl (X.2.1, 12, .inl (M)))]) (r_V C (As := [.int i, .int low, .int high]) (rest := []) (kX3_isRange l X mo mp ms mt mq sts al wd wS wo fw M n P Q o f ll i low high (by first | assumption | omega | decide) (by first | assumption | omega | decide)) (cwV 3 C.ts gX3_bestScreen_X3_isRange rfl rfl rfl (by decide +kernel) ⟨Nat.le_of_ble_eq_true rfl, Nat.le_of_ble_eq_true rfl⟩) (q0 := 0) rfl rfl [0, 1] (by decide) rfl rfl (Nat.le_of_ble_eq_true rfl) rfl dX3_bestScreen_4 ⟨Nat.zero_le _, Nat.zero_le _⟩) [0, 1] [] [0, 1] rfl rfl (by decide) (by decide) (by decide) rfl ?_
  refine s_bif_eq C (pc := 7) (tgt := 20) dX3_bestScreen_7 (by decide) (fun c7 => ?_) (fun h => absurd h (fun hh => hb ⟨hh.1, hh.2.1.1, hh.2.2.1, hh.2.2.2⟩))
  refine s_iconst C (pc := 20) (v := (-1)) dX3_bestScreen_20 (by decide) ?_
  exact s_iret C (pc := 21) hr hlk [0, 1] (by decide) (rfl) (rfl) dX3_bestScreen_21

set_option maxHeartbeats 4000000 in
set_option maxRecDepth 100000 in
theorem kX3_bestScreen_ok (l : Launch) (X : XT) (mo mp ms mt mq : Nat) (sts al : Int32) (wd : Int64) (wS wo fw : Int32) (M : Nat → Int32) (n : Nat) (P Q : Nat → Int32) (w : Nat) (f ll : Int32) (k : Nat) (low high : Int32) (hM : MR M n P Q (nI w) f ll) (hk : k < n) (hn : n ≤ 4) (hw : w = 1 ∨ w = 2) (hS : ∀ x y : Nat, 1 ≤ x → x ≤ 20 → y ≤ 20 → smW (upd P k (nI x)) (upd Q k (nI y)) w f ll n) (hs : 1 ≤ low ∧ low ≤ high ∧ high ≤ 800) : KIx l yX3_bestScreen wsX3_bestScreen ({ frames := 6, cells := 0, slots := 0, locals := 170 }) X [.ref mo, .int (nI k), .int low, .int high] [(mo, .inr (3, [.ref mp, .ref ms, .ref mt, .int sts, .int al, .ref mq, .long wd, .int wS, .int wo, .int fw])), (mp, .inl (X.2.1, 12, .inl (M)))] (fun u : Int32 × Int64 × Int32 × Int32 × Int32 => [(mo, .inr (3, [.ref mp, .ref ms, .ref mt, .int sts, .int u.1, .ref mq, .long u.2.1, .int u.2.2.1, .int u.2.2.2.1, .int u.2.2.2.2])), (mp, .inl (X.2.1, 12, .inl (M)))]) (fun _ => True) ((msL P Q w f ll n k low high).1) := by
  refine k_ofIx (cc := cX3_bestScreen) (own := RX3) (maxL := 4) (ret := (some .int)) (ls0 := [(0, .ref mo), (1, .int (nI k)), (2, .int low), (3, .int high)]) (by decide) rfl rfl (Nat.le_of_ble_eq_true rfl) rfl ?_
  intro p e s m args below meth c A g C hr hlk
  refine s_aload_n C (pc := 0) dX3_bestScreen_0 rfl 0 rfl ?_
  refine s_iload_n C (pc := 1) dX3_bestScreen_1 rfl 1 rfl ?_
  refine s_iload_n C (pc := 2) dX3_bestScreen_2 rfl 2 rfl ?_
  refine s_iload_n C (pc := 3) dX3_bestScreen_3 rfl 3 rfl ?_
  refine s_calli C (pc := 4) (wr := []) (wc' := [(mo, .inr (3, [.ref mp, .ref ms, .ref mt, .int sts, .int al, .ref mq, .long wd, .int wS, .int wo, .int fw])), (mp, .inl (X.2.1, 12, .inl (M)))]) (wn := [(mo, .inr (3, [.ref mp, .ref ms, .ref mt, .int sts, .int al, .ref mq, .long wd, .int wS, .int wo, .int fw])), (mp, .inl (X.2.1, 12, .inl (M)))]) (r_V C (As := [.int (nI k), .int low, .int high]) (rest := []) (kX3_isRange l X mo mp ms mt mq sts al wd wS wo fw M n P Q (nI w) f ll (nI k) low high (by first | assumption | omega | decide) (by first | assumption | omega | decide)) (cwV 3 C.ts gX3_bestScreen_X3_isRange rfl rfl rfl (by decide +kernel) ⟨Nat.le_of_ble_eq_true rfl, Nat.le_of_ble_eq_true rfl⟩) (q0 := 0) rfl rfl [0, 1] (by decide) rfl rfl (Nat.le_of_ble_eq_true rfl) rfl dX3_bestScreen_4 ⟨Nat.zero_le _, Nat.zero_le _⟩) [0, 1] [] [0, 1] rfl rfl (by decide) (by decide) (by decide) rfl ?_
  refine s_bif_eq C (pc := 7) (tgt := 20) dX3_bestScreen_7 (by decide) (fun h => absurd (⟨hv_of (by omega) (by omega), ⟨hs.1, Int32.le_trans hs.2.1 hs.2.2⟩, hs.2⟩) h) (fun c7 => ?_)
  refine s_aload_n C (pc := 10) dX3_bestScreen_10 rfl 0 rfl ?_
  refine s_iload_n C (pc := 11) dX3_bestScreen_11 rfl 1 rfl ?_
  refine s_iload_n C (pc := 12) dX3_bestScreen_12 rfl 2 rfl ?_
  refine s_iload_n C (pc := 13) dX3_bestScreen_13 rfl 3 rfl ?_
  refine s_calliX C (pc := 14) (wr := []) (wc' := (fun u14_1 : Int64 × Int32 × Int32 => [(mo, .inr (3, [.ref mp, .ref ms, .ref mt, .int sts, .int al, .ref mq, .long u14_1.1, .int u14_1.2.1, .int u14_1.2.2, .int ((msL P Q w f ll n k low high).2.1)])), (mp, .inl (X.2.1, 12, .inl (M)))])) (wn := (fun u14_1 : Int64 × Int32 × Int32 => [(mo, .inr (3, [.ref mp, .ref ms, .ref mt, .int sts, .int al, .ref mq, .long u14_1.1, .int u14_1.2.1, .int u14_1.2.2, .int ((msL P Q w f ll n k low high).2.1)])), (mp, .inl (X.2.1, 12, .inl (M)))])) (r_V C (As := [.int (nI k), .int low, .int high]) (rest := []) (kX3_search l X mo mp ms mt mq sts al wd wS wo fw M n P Q w f ll k low high (by first | assumption | omega | decide) (by first | assumption | omega | decide) (by first | assumption | omega | decide) (by first | assumption | omega | decide) (by first | assumption | omega | decide)) (cwV 3 C.ts gX3_bestScreen_X3_search rfl rfl rfl (by decide +kernel) ⟨Nat.le_of_ble_eq_true rfl, Nat.le_of_ble_eq_true rfl⟩) (q0 := 0) rfl rfl [0, 1] (by decide) rfl rfl (Nat.le_of_ble_eq_true rfl) rfl dX3_bestScreen_14 ⟨Nat.zero_le _, Nat.zero_le _⟩) [0, 1] [] [0, 1] rfl rfl (by decide) (by decide) (by decide) (fun _ => rfl) (fun u14_1 _ => ?_)
  refine s_goto C (pc := 17) (tgt := 21) dX3_bestScreen_17 (by decide) ?_
  exact s_iretX C (pc := 21) hr hlk ((al, u14_1.1, u14_1.2.1, u14_1.2.2, (msL P Q w f ll n k low high).2.1)) trivial [0, 1] (by decide) (rfl) (rfl) dX3_bestScreen_21

set_option maxHeartbeats 4000000 in
set_option maxRecDepth 100000 in
theorem kX3_bandsWithBest_bad (l : Launch) (X : XT) (mo mp ms mt mq : Nat) (sts al : Int32) (wd : Int64) (wS wo fw : Int32) (M : Nat → Int32) (n : Nat) (P Q : Nat → Int32) (o f ll : Int32) (i low high : Int32) (hb : ¬ (hv n i ∧ 1 ≤ low ∧ low ≤ high ∧ high ≤ 800)) (hM : MR M n P Q o f ll) (hn : n ≤ 4) : KI l yX3_bandsWithBest wsX3_bandsWithBest ({ frames := 3, cells := 0, slots := 0, locals := 66 }) X [.ref mo, .int i, .int low, .int high] [(mo, .inr (3, [.ref mp, .ref ms, .ref mt, .int sts, .int al, .ref mq, .long wd, .int wS, .int wo, .int fw])), (mp, .inl (X.2.1, 12, .inl (M)))] [(mo, .inr (3, [.ref mp, .ref ms, .ref mt, .int sts, .int al, .ref mq, .long wd, .int wS, .int wo, .int fw])), (mp, .inl (X.2.1, 12, .inl (M)))] (-1) := by
  refine k_ofI (cc := cX3_bandsWithBest) (own := RX3) (maxL := 5) (ret := (some .int)) (ls0 := [(0, .ref mo), (1, .int i), (2, .int low), (3, .int high)]) (by decide) rfl rfl (Nat.le_of_ble_eq_true rfl) rfl ?_
  intro p e s m args below meth c A g C hr hlk
  refine s_aload_n C (pc := 0) dX3_bandsWithBest_0 rfl 0 rfl ?_
  refine s_iload_n C (pc := 1) dX3_bandsWithBest_1 rfl 1 rfl ?_
  refine s_iload_n C (pc := 2) dX3_bandsWithBest_2 rfl 2 rfl ?_
  refine s_iload_n C (pc := 3) dX3_bandsWithBest_3 rfl 3 rfl ?_
  refine s_calli C (pc := 4) (wr := []) (wc' := [(mo, .inr (3, [.ref mp, .ref ms, .ref mt, .int sts, .int al, .ref mq, .long wd, .int wS, .int wo, .int fw])), (mp, .inl (X.2.1, 12, .inl (M)))]) (wn := [(mo, .inr (3, [.ref mp, .ref ms, .ref mt, .int sts, .int al, .ref mq, .long wd, .int wS, .int wo, .int fw])), (mp, .inl (X.2.1, 12, .inl (M)))]) (r_V C (As := [.int i, .int low, .int high]) (rest := []) (kX3_isRange l X mo mp ms mt mq sts al wd wS wo fw M n P Q o f ll i low high (by first | assumption | omega | decide) (by first | assumption | omega | decide)) (cwV 3 C.ts gX3_bandsWithBest_X3_isRange rfl rfl rfl (by decide +kernel) ⟨Nat.le_of_ble_eq_true rfl, Nat.le_of_ble_eq_true rfl⟩) (q0 := 0) rfl rfl [0, 1] (by decide) rfl rfl (Nat.le_of_ble_eq_true rfl) rfl dX3_bandsWithBest_4 ⟨Nat.zero_le _, Nat.zero_le _⟩) [0, 1] [] [0, 1] rfl rfl (by decide) (by decide) (by decide) rfl ?_
  refine s_bif_ne C (pc := 7) (tgt := 12) dX3_bandsWithBest_7 (by decide) (fun h => absurd h (fun hh => hb ⟨hh.1, hh.2.1.1, hh.2.2.1, hh.2.2.2⟩)) (fun c7 => ?_)
  refine s_iconst C (pc := 10) (v := (-1)) dX3_bandsWithBest_10 (by decide) ?_
  exact s_iret C (pc := 11) hr hlk [0, 1] (by decide) (rfl) (rfl) dX3_bandsWithBest_11

set_option maxHeartbeats 4000000 in
set_option maxRecDepth 100000 in
theorem kX3_bandsWithBest_ok (l : Launch) (X : XT) (mo mp ms mt mq : Nat) (sts al : Int32) (wd : Int64) (wS wo fw : Int32) (M : Nat → Int32) (n : Nat) (P Q : Nat → Int32) (w : Nat) (f ll : Int32) (k : Nat) (low high : Int32) (hM : MR M n P Q (nI w) f ll) (hk : k < n) (hn : n ≤ 4) (hw : w = 1 ∨ w = 2) (hS : ∀ x y : Nat, 1 ≤ x → x ≤ 20 → y ≤ 20 → smW (upd P k (nI x)) (upd Q k (nI y)) w f ll n) (hs : 1 ≤ low ∧ low ≤ high ∧ high ≤ 800) : KIx l yX3_bandsWithBest wsX3_bandsWithBest ({ frames := 6, cells := 0, slots := 0, locals := 170 }) X [.ref mo, .int (nI k), .int low, .int high] [(mo, .inr (3, [.ref mp, .ref ms, .ref mt, .int sts, .int al, .ref mq, .long wd, .int wS, .int wo, .int fw])), (mp, .inl (X.2.1, 12, .inl (M)))] (fun u : Int32 × Int64 × Int32 × Int32 × Int32 => [(mo, .inr (3, [.ref mp, .ref ms, .ref mt, .int sts, .int u.1, .ref mq, .long u.2.1, .int u.2.2.1, .int u.2.2.2.1, .int u.2.2.2.2])), (mp, .inl (X.2.1, 12, .inl (M)))]) (fun _ => True) ((msL P Q w f ll n k low high).2.1) := by
  refine k_ofIx (cc := cX3_bandsWithBest) (own := RX3) (maxL := 5) (ret := (some .int)) (ls0 := [(0, .ref mo), (1, .int (nI k)), (2, .int low), (3, .int high)]) (by decide) rfl rfl (Nat.le_of_ble_eq_true rfl) rfl ?_
  intro p e s m args below meth c A g C hr hlk
  refine s_aload_n C (pc := 0) dX3_bandsWithBest_0 rfl 0 rfl ?_
  refine s_iload_n C (pc := 1) dX3_bandsWithBest_1 rfl 1 rfl ?_
  refine s_iload_n C (pc := 2) dX3_bandsWithBest_2 rfl 2 rfl ?_
  refine s_iload_n C (pc := 3) dX3_bandsWithBest_3 rfl 3 rfl ?_
  refine s_calli C (pc := 4) (wr := []) (wc' := [(mo, .inr (3, [.ref mp, .ref ms, .ref mt, .int sts, .int al, .ref mq, .long wd, .int wS, .int wo, .int fw])), (mp, .inl (X.2.1, 12, .inl (M)))]) (wn := [(mo, .inr (3, [.ref mp, .ref ms, .ref mt, .int sts, .int al, .ref mq, .long wd, .int wS, .int wo, .int fw])), (mp, .inl (X.2.1, 12, .inl (M)))]) (r_V C (As := [.int (nI k), .int low, .int high]) (rest := []) (kX3_isRange l X mo mp ms mt mq sts al wd wS wo fw M n P Q (nI w) f ll (nI k) low high (by first | assumption | omega | decide) (by first | assumption | omega | decide)) (cwV 3 C.ts gX3_bandsWithBest_X3_isRange rfl rfl rfl (by decide +kernel) ⟨Nat.le_of_ble_eq_true rfl, Nat.le_of_ble_eq_true rfl⟩) (q0 := 0) rfl rfl [0, 1] (by decide) rfl rfl (Nat.le_of_ble_eq_true rfl) rfl dX3_bandsWithBest_4 ⟨Nat.zero_le _, Nat.zero_le _⟩) [0, 1] [] [0, 1] rfl rfl (by decide) (by decide) (by decide) rfl ?_
  refine s_bif_ne C (pc := 7) (tgt := 12) dX3_bandsWithBest_7 (by decide) (fun c7 => ?_) (fun h => absurd (⟨hv_of (by omega) (by omega), ⟨hs.1, Int32.le_trans hs.2.1 hs.2.2⟩, hs.2⟩) h)
  refine s_aload_n C (pc := 12) dX3_bandsWithBest_12 rfl 0 rfl ?_
  refine s_iload_n C (pc := 13) dX3_bandsWithBest_13 rfl 1 rfl ?_
  refine s_iload_n C (pc := 14) dX3_bandsWithBest_14 rfl 2 rfl ?_
  refine s_iload_n C (pc := 15) dX3_bandsWithBest_15 rfl 3 rfl ?_
  refine s_calliX C (pc := 16) (wr := []) (wc' := (fun u16_1 : Int64 × Int32 × Int32 => [(mo, .inr (3, [.ref mp, .ref ms, .ref mt, .int sts, .int al, .ref mq, .long u16_1.1, .int u16_1.2.1, .int u16_1.2.2, .int ((msL P Q w f ll n k low high).2.1)])), (mp, .inl (X.2.1, 12, .inl (M)))])) (wn := (fun u16_1 : Int64 × Int32 × Int32 => [(mo, .inr (3, [.ref mp, .ref ms, .ref mt, .int sts, .int al, .ref mq, .long u16_1.1, .int u16_1.2.1, .int u16_1.2.2, .int ((msL P Q w f ll n k low high).2.1)])), (mp, .inl (X.2.1, 12, .inl (M)))])) (r_V C (As := [.int (nI k), .int low, .int high]) (rest := []) (kX3_search l X mo mp ms mt mq sts al wd wS wo fw M n P Q w f ll k low high (by first | assumption | omega | decide) (by first | assumption | omega | decide) (by first | assumption | omega | decide) (by first | assumption | omega | decide) (by first | assumption | omega | decide)) (cwV 3 C.ts gX3_bandsWithBest_X3_search rfl rfl rfl (by decide +kernel) ⟨Nat.le_of_ble_eq_true rfl, Nat.le_of_ble_eq_true rfl⟩) (q0 := 0) rfl rfl [0, 1] (by decide) rfl rfl (Nat.le_of_ble_eq_true rfl) rfl dX3_bandsWithBest_16 ⟨Nat.zero_le _, Nat.zero_le _⟩) [0, 1] [] [0, 1] rfl rfl (by decide) (by decide) (by decide) (fun _ => rfl) (fun u16_1 _ => ?_)
  refine s_istore C (pc := 19) (ls' := [(4, .int ((msL P Q w f ll n k low high).1)), (0, .ref mo), (1, .int (nI k)), (2, .int low), (3, .int high)]) dX3_bandsWithBest_19 (by decide) rfl ?_
  refine s_aload_n C (pc := 21) dX3_bandsWithBest_21 rfl 1 rfl ?_
  refine s_get C (pc := 22) (T := TX3) (N := 10) (fun _ h => (List.mem_cons_of_mem _ (List.mem_append_right _ h))) 0 rfl rfl 9 (by decide) (List.mem_of_getElem? (i := 1) rfl) rfl rfl dX3_bandsWithBest_22 ?_
  exact s_iretX C (pc := 25) hr hlk ((al, u16_1.1, u16_1.2.1, u16_1.2.2, (msL P Q w f ll n k low high).2.1)) trivial [0, 1] (by decide) (rfl) (rfl) dX3_bandsWithBest_25

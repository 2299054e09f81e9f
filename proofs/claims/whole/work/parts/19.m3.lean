set_option maxHeartbeats 4000000 in
set_option maxRecDepth 100000 in
theorem kX3_insert (l : Launch) (X : XT) (mo mp ms mt mq : Nat) (sts : Int32) (wd : Int64) (wS wo fw : Int32) (SQ : Nat → Int64) (z : Nat) (v : Int64) (hz : z < 576) : KV l yX3_insert wsX3_insert ({ frames := 0, cells := 0, slots := 0, locals := 0 }) X [.ref mo, .long v] [(mo, .inr (3, [.ref mp, .ref ms, .ref mt, .int sts, .int (nI z), .ref mq, .long wd, .int wS, .int wo, .int fw])), (mq, .inl (X.2.2.1, 576, .inr (.inl (SQ))))] [(mo, .inr (3, [.ref mp, .ref ms, .ref mt, .int sts, .int (nI (z + 1)), .ref mq, .long wd, .int wS, .int wo, .int fw])), (mq, .inl (X.2.2.1, 576, .inr (.inl (insL SQ v z))))] := by
  refine k_ofV (cc := cX3_insert) (own := RX3) (maxL := 4) (ret := none) (ls0 := [(0, .ref mo), (1, .long v)]) (by decide) rfl rfl (Nat.le_of_ble_eq_true rfl) rfl ?_
  intro p e s m args below meth c A g C hr hlk
  refine s_aload_n C (pc := 0) dX3_insert_0 rfl 0 rfl ?_
  refine s_get C (pc := 1) (T := TX3) (N := 10) (fun _ h => (List.mem_cons_of_mem _ (List.mem_append_right _ h))) 0 rfl rfl 4 (by decide) (List.mem_of_getElem? (i := 1) rfl) rfl rfl dX3_insert_1 ?_
  refine s_istore_n C (pc := 4) (ls' := [(3, .int (nI z)), (0, .ref mo), (1, .long v)]) dX3_insert_4 rfl (by decide) rfl ?_
  have L5 : ∀ (n_ : Nat) (q : Nat) (f1 : Nat → Int64), (q ≤ z) → (insL f1 v q = insL SQ v z) → q < n_ → g [(mo, .inr (3, [.ref mp, .ref ms, .ref mt, .int sts, .int (nI z), .ref mq, .long wd, .int wS, .int wo, .int fw])), (mq, .inl (X.2.2.1, 576, .inr (.inl (f1))))] 5 [(0, .ref mo), (1, .long v), (3, .int (nI q))] [] := by
    intro n_
    induction n_ with
    | zero =>
      intro q f1 hq hI hf
      exact absurd hf (by omega)
    | succ n_ ih5 =>
      intro q f1 hq hI hf5
      refine s_iload_n C (pc := 5) dX3_insert_5 rfl 2 rfl ?_
      refine s_if_le C (pc := 6) (tgt := 42) dX3_insert_6 (by decide) (fun c6 => ?_) (fun c6 => ?_)
      · skip
        have e6 := nat_le (a := q) (b := 0) (by omega) (by omega) c6
        have hs0 : 0 = q := by omega
        subst hs0
        refine s_aload_n C (pc := 42) dX3_insert_42 rfl 0 rfl ?_
        refine s_get C (pc := 43) (T := TX3) (N := 10) (fun _ h => (List.mem_cons_of_mem _ (List.mem_append_right _ h))) 0 rfl rfl 5 (by decide) (List.mem_of_getElem? (i := 2) rfl) rfl rfl dX3_insert_43 ?_
        refine s_iload_n C (pc := 46) dX3_insert_46 rfl 2 rfl ?_
        refine s_lload_n C (pc := 47) dX3_insert_47 rfl 1 rfl ?_
        refine s_last C (pc := 48) (ws' := [(mo, .inr (3, [.ref mp, .ref ms, .ref mt, .int sts, .int (nI z), .ref mq, .long wd, .int wS, .int wo, .int fw])), (mq, .inl (X.2.2.1, 576, .inr (.inl (vp_updL f1 0 v))))]) 1 rfl 0 rfl (by omega) (by decide) rfl dX3_insert_48 ?_
        refine s_aload_n C (pc := 49) dX3_insert_49 rfl 0 rfl ?_
        refine s_dup C (pc := 50) dX3_insert_50 rfl ?_
        refine s_get C (pc := 51) (T := TX3) (N := 10) (fun _ h => (List.mem_cons_of_mem _ (List.mem_append_right _ h))) 0 rfl rfl 4 (by decide) (List.mem_of_getElem? (i := 1) rfl) rfl rfl dX3_insert_51 ?_
        refine s_iconst C (pc := 54) (v := 1) dX3_insert_54 (by decide) ?_
        refine s_iadd C (pc := 55) dX3_insert_55 ?_
        refine s_top C (y := nI (z + 1)) (nI_add _ _) ?_
        refine s_put C (pc := 56) (T := TX3) (N := 10) (ws' := [(mo, .inr (3, [.ref mp, .ref ms, .ref mt, .int sts, .int (nI (z + 1)), .ref mq, .long wd, .int wS, .int wo, .int fw])), (mq, .inl (X.2.2.1, 576, .inr (.inl (vp_updL f1 0 v))))]) (fun _ h => (List.mem_cons_of_mem _ (List.mem_append_right _ h))) 0 rfl rfl tyX3 tyX3_ok nmX3 4 (by decide) (List.mem_of_getElem? (i := 1) rfl) rfl rfl rfl rfl (Nat.le_of_ble_eq_true rfl) rfl dX3_insert_56 ?_
        exact s_vret C (pc := 59) hr hlk [0, 1] (by decide) (by rw [← hI]; rfl) dX3_insert_59
      · skip
        have e6 := nat_nle (a := q) (b := 0) (by omega) (by omega) c6
        obtain ⟨q1, hq1⟩ : ∃ q1, q = q1 + 1 := ⟨q - 1, by omega⟩
        subst hq1
        refine s_aload_n C (pc := 9) dX3_insert_9 rfl 0 rfl ?_
        refine s_get C (pc := 10) (T := TX3) (N := 10) (fun _ h => (List.mem_cons_of_mem _ (List.mem_append_right _ h))) 0 rfl rfl 5 (by decide) (List.mem_of_getElem? (i := 2) rfl) rfl rfl dX3_insert_10 ?_
        refine s_iload_n C (pc := 13) dX3_insert_13 rfl 2 rfl ?_
        refine s_iconst C (pc := 14) (v := 1) dX3_insert_14 (by decide) ?_
        refine s_isub C (pc := 15) dX3_insert_15 ?_
        refine s_top C (y := nI q1) (nI_pred _) ?_
        refine s_lald C (pc := 16) 1 rfl q1 rfl (by omega) (by decide) dX3_insert_16 ?_
        refine s_lload_n C (pc := 17) dX3_insert_17 rfl 1 rfl ?_
        refine s_lcmp_le C (pc := 18) (tgt := 42) dX3_insert_18 dX3_insert_19 (by decide) (fun c18 => ?_) (fun c18 => ?_)
        · skip
          refine s_aload_n C (pc := 42) dX3_insert_42 rfl 0 rfl ?_
          refine s_get C (pc := 43) (T := TX3) (N := 10) (fun _ h => (List.mem_cons_of_mem _ (List.mem_append_right _ h))) 0 rfl rfl 5 (by decide) (List.mem_of_getElem? (i := 2) rfl) rfl rfl dX3_insert_43 ?_
          refine s_iload_n C (pc := 46) dX3_insert_46 rfl 2 rfl ?_
          refine s_lload_n C (pc := 47) dX3_insert_47 rfl 1 rfl ?_
          refine s_last C (pc := 48) (ws' := [(mo, .inr (3, [.ref mp, .ref ms, .ref mt, .int sts, .int (nI z), .ref mq, .long wd, .int wS, .int wo, .int fw])), (mq, .inl (X.2.2.1, 576, .inr (.inl (vp_updL f1 (q1 + 1) v))))]) 1 rfl (q1 + 1) rfl (by omega) (by decide) rfl dX3_insert_48 ?_
          refine s_aload_n C (pc := 49) dX3_insert_49 rfl 0 rfl ?_
          refine s_dup C (pc := 50) dX3_insert_50 rfl ?_
          refine s_get C (pc := 51) (T := TX3) (N := 10) (fun _ h => (List.mem_cons_of_mem _ (List.mem_append_right _ h))) 0 rfl rfl 4 (by decide) (List.mem_of_getElem? (i := 1) rfl) rfl rfl dX3_insert_51 ?_
          refine s_iconst C (pc := 54) (v := 1) dX3_insert_54 (by decide) ?_
          refine s_iadd C (pc := 55) dX3_insert_55 ?_
          refine s_top C (y := nI (z + 1)) (nI_add _ _) ?_
          refine s_put C (pc := 56) (T := TX3) (N := 10) (ws' := [(mo, .inr (3, [.ref mp, .ref ms, .ref mt, .int sts, .int (nI (z + 1)), .ref mq, .long wd, .int wS, .int wo, .int fw])), (mq, .inl (X.2.2.1, 576, .inr (.inl (vp_updL f1 (q1 + 1) v))))]) (fun _ h => (List.mem_cons_of_mem _ (List.mem_append_right _ h))) 0 rfl rfl tyX3 tyX3_ok nmX3 4 (by decide) (List.mem_of_getElem? (i := 1) rfl) rfl rfl rfl rfl (Nat.le_of_ble_eq_true rfl) rfl dX3_insert_56 ?_
          exact s_vret C (pc := 59) hr hlk [0, 1] (by decide) (by rw [← hI, show insL f1 v (q1 + 1) = vp_updL f1 (q1 + 1) v from if_pos c18]; rfl) dX3_insert_59
        · skip
          refine s_aload_n C (pc := 22) dX3_insert_22 rfl 0 rfl ?_
          refine s_get C (pc := 23) (T := TX3) (N := 10) (fun _ h => (List.mem_cons_of_mem _ (List.mem_append_right _ h))) 0 rfl rfl 5 (by decide) (List.mem_of_getElem? (i := 2) rfl) rfl rfl dX3_insert_23 ?_
          refine s_iload_n C (pc := 26) dX3_insert_26 rfl 2 rfl ?_
          refine s_aload_n C (pc := 27) dX3_insert_27 rfl 0 rfl ?_
          refine s_get C (pc := 28) (T := TX3) (N := 10) (fun _ h => (List.mem_cons_of_mem _ (List.mem_append_right _ h))) 0 rfl rfl 5 (by decide) (List.mem_of_getElem? (i := 2) rfl) rfl rfl dX3_insert_28 ?_
          refine s_iload_n C (pc := 31) dX3_insert_31 rfl 2 rfl ?_
          refine s_iconst C (pc := 32) (v := 1) dX3_insert_32 (by decide) ?_
          refine s_isub C (pc := 33) dX3_insert_33 ?_
          refine s_top C (y := nI q1) (nI_pred _) ?_
          refine s_lald C (pc := 34) 1 rfl q1 rfl (by omega) (by decide) dX3_insert_34 ?_
          refine s_last C (pc := 35) (ws' := [(mo, .inr (3, [.ref mp, .ref ms, .ref mt, .int sts, .int (nI z), .ref mq, .long wd, .int wS, .int wo, .int fw])), (mq, .inl (X.2.2.1, 576, .inr (.inl (vp_updL f1 (q1 + 1) (f1 q1)))))]) 1 rfl (q1 + 1) rfl (by omega) (by decide) rfl dX3_insert_35 ?_
          refine s_iinc C (pc := 36) (v := nI q1) (ls' := [(3, .int (nI q1)), (0, .ref mo), (1, .long v)]) dX3_insert_36 2 rfl (pk_m1 _) (by decide) rfl ?_
          refine s_goto C (pc := 39) (tgt := 5) dX3_insert_39 (by decide) ?_
          refine s_loc C (ls' := [(0, .ref mo), (1, .long v), (3, .int (nI q1))]) [1, 2, 0] rfl ?_
          exact ih5 q1 (vp_updL f1 (q1 + 1) (f1 q1)) (by omega) (by rw [← hI]; exact (if_neg c18).symm) (by omega)
  refine s_loc C (ls' := [(0, .ref mo), (1, .long v), (3, .int (nI z))]) [1, 2, 0] rfl ?_
  exact L5 (z + 1) z SQ (Nat.le_refl _) rfl (by omega)

set_option maxHeartbeats 4000000 in
set_option maxRecDepth 100000 in
theorem kX3_layWith (l : Launch) (X : XT) (mo mp ms mt mq : Nat) (sts : Int32) (wd : Int64) (wS wo fw : Int32) (M : Nat → Int32) (n : Nat) (P Q : Nat → Int32) (w : Nat) (f ll : Int32) (SQ : Nat → Int64) (z i j : Nat) (a b : Int32) (hM : MR M n P Q (nI w) f ll) (hi : i < n) (hj : j < n) (hn : n ≤ 4) (hw : w = 1 ∨ w = 2) (hz : z + ((2 * w + 1) * (2 * w + 1) - 1) ≤ 576) : KV l yX3_layWith wsX3_layWith ({ frames := 3, cells := 0, slots := 0, locals := 76 }) X [.ref mo, .int (nI i), .int (nI j), .int a, .int b] [(mo, .inr (3, [.ref mp, .ref ms, .ref mt, .int sts, .int (nI z), .ref mq, .long wd, .int wS, .int wo, .int fw])), (mp, .inl (X.2.1, 12, .inl (M))), (mq, .inl (X.2.2.1, 576, .inr (.inl (SQ))))] [(mo, .inr (3, [.ref mp, .ref ms, .ref mt, .int sts, .int (nI (z + (lmL P Q w i j a b).length)), .ref mq, .long wd, .int wS, .int wo, .int fw])), (mp, .inl (X.2.1, 12, .inl (M))), (mq, .inl (X.2.2.1, 576, .inr (.inl (insA SQ z (lmL P Q w i j a b)))))] := by
  refine k_ofV (cc := cX3_layWith) (own := RX3) (maxL := 8) (ret := none) (ls0 := [(0, .ref mo), (1, .int (nI i)), (2, .int (nI j)), (3, .int a), (4, .int b)]) (by decide) rfl rfl (Nat.le_of_ble_eq_true rfl) rfl ?_
  intro p e s m args below meth c A g C hr hlk
  refine s_aload_n C (pc := 0) dX3_layWith_0 rfl 0 rfl ?_
  refine s_get C (pc := 1) (T := TX3) (N := 10) (fun _ h => (List.mem_cons_of_mem _ (List.mem_append_right _ h))) 0 rfl rfl 0 (by decide) (List.mem_of_getElem? (i := 1) rfl) rfl rfl dX3_layWith_1 ?_
  refine s_iconst C (pc := 4) (v := 1) dX3_layWith_4 (by decide) ?_
  refine s_iald C (pc := 5) 1 rfl 1 rfl (by decide) (by decide) dX3_layWith_5 ?_
  refine s_top C (y := nI w) (hM.2.1) ?_
  refine s_istore C (pc := 6) (ls' := [(5, .int (nI w)), (0, .ref mo), (1, .int (nI i)), (2, .int (nI j)), (3, .int a), (4, .int b)]) dX3_layWith_6 (by decide) rfl ?_
  refine s_iload C (pc := 8) dX3_layWith_8 0 rfl ?_
  refine s_ineg C (pc := 10) dX3_layWith_10 ?_
  refine s_top C (y := iI (((0 : Nat) : Int) - (w : Int))) (neg_nI w) ?_
  refine s_istore C (pc := 11) (ls' := [(6, .int (iI (((0 : Nat) : Int) - (w : Int)))), (5, .int (nI w)), (0, .ref mo), (1, .int (nI i)), (2, .int (nI j)), (3, .int a), (4, .int b)]) dX3_layWith_11 (by decide) rfl ?_
  have L13 : ∀ (n_ : Nat) (k : Nat), (k ≤ 2 * w + 1) → 2 * w + 2 ≤ k + n_ → g [(mo, .inr (3, [.ref mp, .ref ms, .ref mt, .int sts, .int (nI (z + (sqAll (lmW P Q i j a b) w k).length)), .ref mq, .long wd, .int wS, .int wo, .int fw])), (mp, .inl (X.2.1, 12, .inl (M))), (mq, .inl (X.2.2.1, 576, .inr (.inl ((insA SQ z (sqAll (lmW P Q i j a b) w k))))))] 13 [(0, .ref mo), (1, .int (nI i)), (2, .int (nI j)), (3, .int a), (4, .int b), (5, .int (nI w)), (6, .int (iI ((k : Int) - (w : Int))))] [] := by
    intro n_
    induction n_ with
    | zero =>
      intro k hk hf
      exact absurd hf (by omega)
    | succ n_ ih13 =>
      intro k hk hf13
      refine s_iload C (pc := 13) dX3_layWith_13 6 rfl ?_
      refine s_iload C (pc := 15) dX3_layWith_15 5 rfl ?_
      refine s_icmp_gt C (pc := 17) (tgt := 71) dX3_layWith_17 (by decide) (fun c17 => ?_) (fun c17 => ?_)
      · skip
        have e17 : 2 * w < k := (cI_lt (by omega) (by omega)).mp c17
        have hs0 : 2 * w + 1 = k := by omega
        subst hs0
        exact s_vret C (pc := 71) hr hlk [0, 1, 2] (by decide) (rfl) dX3_layWith_71
      · skip
        have e17 : k < 2 * w + 1 := Nat.lt_of_not_le (fun z => c17 ((cI_lt (by omega) (by omega)).mpr (by omega)))
        refine s_iload C (pc := 20) dX3_layWith_20 5 rfl ?_
        refine s_ineg C (pc := 22) dX3_layWith_22 ?_
        refine s_top C (y := iI (((0 : Nat) : Int) - (w : Int))) (neg_nI w) ?_
        refine s_istore C (pc := 23) (ls' := [(7, .int (iI (((0 : Nat) : Int) - (w : Int)))), (0, .ref mo), (1, .int (nI i)), (2, .int (nI j)), (3, .int a), (4, .int b), (5, .int (nI w)), (6, .int (iI ((k : Int) - (w : Int))))]) dX3_layWith_23 (by decide) rfl ?_
        have L25 : ∀ (n_ : Nat) (mm : Nat), (mm ≤ 2 * w + 1) → 2 * w + 2 ≤ mm + n_ → g [(mo, .inr (3, [.ref mp, .ref ms, .ref mt, .int sts, .int (nI (z + (sqAll (lmW P Q i j a b) w k ++ sqRow (lmW P Q i j a b) w ((k : Int) - (w : Int)) mm).length)), .ref mq, .long wd, .int wS, .int wo, .int fw])), (mp, .inl (X.2.1, 12, .inl (M))), (mq, .inl (X.2.2.1, 576, .inr (.inl ((insA SQ z (sqAll (lmW P Q i j a b) w k ++ sqRow (lmW P Q i j a b) w ((k : Int) - (w : Int)) mm))))))] 25 [(0, .ref mo), (1, .int (nI i)), (2, .int (nI j)), (3, .int a), (4, .int b), (5, .int (nI w)), (6, .int (iI ((k : Int) - (w : Int)))), (7, .int (iI ((mm : Int) - (w : Int))))] [] := by
          intro n_
          induction n_ with
          | zero =>
            intro mm hm hf
            exact absurd hf (by omega)
          | succ n_ ih25 =>
            intro mm hm hf25
            refine s_iload C (pc := 25) dX3_layWith_25 7 rfl ?_
            refine s_iload C (pc := 27) dX3_layWith_27 5 rfl ?_
            refine s_icmp_gt C (pc := 29) (tgt := 65) dX3_layWith_29 (by decide) (fun c29 => ?_) (fun c29 => ?_)
            · skip
              have e29 : 2 * w < mm := (cI_lt (by omega) (by omega)).mp c29
              have hs0 : 2 * w + 1 = mm := by omega
              subst hs0
              refine s_iinc C (pc := 65) (v := iI (((k + 1 : Nat) : Int) - (w : Int))) (ls' := [(6, .int (iI (((k + 1 : Nat) : Int) - (w : Int)))), (0, .ref mo), (1, .int (nI i)), (2, .int (nI j)), (3, .int a), (4, .int b), (5, .int (nI w)), (7, .int (iI (((2 * w + 1) : Int) - (w : Int))))]) dX3_layWith_65 6 rfl (cI_1 k w) (by decide) rfl ?_
              refine s_goto C (pc := 68) (tgt := 13) dX3_layWith_68 (by decide) ?_
              refine s_loc C (ls' := [(0, .ref mo), (1, .int (nI i)), (2, .int (nI j)), (3, .int a), (4, .int b), (5, .int (nI w)), (6, .int (iI (((k + 1 : Nat) : Int) - (w : Int))))]) [1, 2, 3, 4, 5, 6, 0] rfl ?_
              exact ih13 (k + 1) (by omega) (by omega)
            · skip
              have e29 : mm < 2 * w + 1 := Nat.lt_of_not_le (fun z => c29 ((cI_lt (by omega) (by omega)).mpr (by omega)))
              refine s_iload C (pc := 32) dX3_layWith_32 6 rfl ?_
              refine s_if_ne C (pc := 34) (tgt := 42) dX3_layWith_34 (by decide) (fun c34 => ?_) (fun c34 => ?_)
              · skip
                have hne : ¬ (k = w ∧ mm = w) := fun z => c34 ((cI_0 (by omega) (by omega)).mpr z.1)
                refine s_aload_n C (pc := 42) dX3_layWith_42 rfl 0 rfl ?_
                refine s_aload_n C (pc := 43) dX3_layWith_43 rfl 0 rfl ?_
                refine s_iload_n C (pc := 44) dX3_layWith_44 rfl 1 rfl ?_
                refine s_iload_n C (pc := 45) dX3_layWith_45 rfl 2 rfl ?_
                refine s_iload_n C (pc := 46) dX3_layWith_46 rfl 3 rfl ?_
                refine s_iload C (pc := 47) dX3_layWith_47 4 rfl ?_
                refine s_iload C (pc := 49) dX3_layWith_49 6 rfl ?_
                refine s_iload C (pc := 51) dX3_layWith_51 7 rfl ?_
                refine s_calll C (pc := 53) (wr := [(mq, .inl (X.2.2.1, 576, .inr (.inl ((insA SQ z (sqAll (lmW P Q i j a b) w k ++ sqRow (lmW P Q i j a b) w ((k : Int) - (w : Int)) mm))))))]) (wc' := [(mo, .inr (3, [.ref mp, .ref ms, .ref mt, .int sts, .int (nI (z + (sqAll (lmW P Q i j a b) w k ++ sqRow (lmW P Q i j a b) w ((k : Int) - (w : Int)) mm).length)), .ref mq, .long wd, .int wS, .int wo, .int fw])), (mp, .inl (X.2.1, 12, .inl (M)))]) (wn := [(mo, .inr (3, [.ref mp, .ref ms, .ref mt, .int sts, .int (nI (z + (sqAll (lmW P Q i j a b) w k ++ sqRow (lmW P Q i j a b) w ((k : Int) - (w : Int)) mm).length)), .ref mq, .long wd, .int wS, .int wo, .int fw])), (mp, .inl (X.2.1, 12, .inl (M))), (mq, .inl (X.2.2.1, 576, .inr (.inl ((insA SQ z (sqAll (lmW P Q i j a b) w k ++ sqRow (lmW P Q i j a b) w ((k : Int) - (w : Int)) mm))))))]) (r_V C (As := [.int (nI i), .int (nI j), .int a, .int b, .int (iI ((k : Int) - (w : Int))), .int (iI ((mm : Int) - (w : Int)))]) (rest := [.ref mo]) (kX3_pairSquare l X mo mp ms mt mq sts (nI (z + (sqAll (lmW P Q i j a b) w k ++ sqRow (lmW P Q i j a b) w ((k : Int) - (w : Int)) mm).length)) wd wS wo fw M n P Q (nI w) f ll i j a b (iI ((k : Int) - (w : Int))) (iI ((mm : Int) - (w : Int))) (by first | assumption | omega | decide) (by first | assumption | omega | decide) (by first | assumption | omega | decide) (by first | assumption | omega | decide)) (cwV 6 C.ts gX3_layWith_X3_pairSquare rfl rfl rfl (by decide +kernel) ⟨Nat.le_of_ble_eq_true rfl, Nat.le_of_ble_eq_true rfl⟩) (q0 := 0) rfl rfl [0, 1] (by decide) rfl rfl (Nat.le_of_ble_eq_true rfl) rfl dX3_layWith_53 ⟨Nat.zero_le _, Nat.zero_le _⟩) [0, 1] [2] [1, 2, 0] rfl rfl (by decide) (by decide) (by decide) rfl ?_
                refine s_callv C (pc := 56) (wr := [(mp, .inl (X.2.1, 12, .inl (M)))]) (wc' := [(mo, .inr (3, [.ref mp, .ref ms, .ref mt, .int sts, .int (nI ((z + (sqAll (lmW P Q i j a b) w k ++ sqRow (lmW P Q i j a b) w ((k : Int) - (w : Int)) mm).length) + 1)), .ref mq, .long wd, .int wS, .int wo, .int fw])), (mq, .inl (X.2.2.1, 576, .inr (.inl (insL (insA SQ z (sqAll (lmW P Q i j a b) w k ++ sqRow (lmW P Q i j a b) w ((k : Int) - (w : Int)) mm)) (psL P Q i j a b (iI ((k : Int) - (w : Int))) (iI ((mm : Int) - (w : Int)))) (z + (sqAll (lmW P Q i j a b) w k ++ sqRow (lmW P Q i j a b) w ((k : Int) - (w : Int)) mm).length)))))]) (wn := [(mo, .inr (3, [.ref mp, .ref ms, .ref mt, .int sts, .int (nI ((z + (sqAll (lmW P Q i j a b) w k ++ sqRow (lmW P Q i j a b) w ((k : Int) - (w : Int)) mm).length) + 1)), .ref mq, .long wd, .int wS, .int wo, .int fw])), (mp, .inl (X.2.1, 12, .inl (M))), (mq, .inl (X.2.2.1, 576, .inr (.inl (insL (insA SQ z (sqAll (lmW P Q i j a b) w k ++ sqRow (lmW P Q i j a b) w ((k : Int) - (w : Int)) mm)) (psL P Q i j a b (iI ((k : Int) - (w : Int))) (iI ((mm : Int) - (w : Int)))) (z + (sqAll (lmW P Q i j a b) w k ++ sqRow (lmW P Q i j a b) w ((k : Int) - (w : Int)) mm).length)))))]) (r_V C (As := [.long (psL P Q i j a b (iI ((k : Int) - (w : Int))) (iI ((mm : Int) - (w : Int))))]) (rest := []) (kX3_insert l X mo mp ms mt mq sts wd wS wo fw (insA SQ z (sqAll (lmW P Q i j a b) w k ++ sqRow (lmW P Q i j a b) w ((k : Int) - (w : Int)) mm)) (z + (sqAll (lmW P Q i j a b) w k ++ sqRow (lmW P Q i j a b) w ((k : Int) - (w : Int)) mm).length) (psL P Q i j a b (iI ((k : Int) - (w : Int))) (iI ((mm : Int) - (w : Int)))) (lm_room hw (by omega) (by omega) hne hz)) (cwV 1 C.ts gX3_layWith_X3_insert rfl rfl rfl (by decide +kernel) ⟨Nat.le_of_ble_eq_true rfl, Nat.le_of_ble_eq_true rfl⟩) (q0 := 0) rfl rfl [0, 2] (by decide) rfl rfl (Nat.le_of_ble_eq_true rfl) rfl dX3_layWith_56 ⟨Nat.zero_le _, Nat.zero_le _⟩) [0, 2] [1] [1, 0, 2] rfl rfl (by decide) (by decide) (by decide) rfl ?_
                refine s_iinc C (pc := 59) (v := iI (((mm + 1 : Nat) : Int) - (w : Int))) (ls' := [(7, .int (iI (((mm + 1 : Nat) : Int) - (w : Int)))), (0, .ref mo), (1, .int (nI i)), (2, .int (nI j)), (3, .int a), (4, .int b), (5, .int (nI w)), (6, .int (iI ((k : Int) - (w : Int))))]) dX3_layWith_59 7 rfl (cI_1 mm w) (by decide) rfl ?_
                refine s_goto C (pc := 62) (tgt := 25) dX3_layWith_62 (by decide) ?_
                refine s_loc C (ls' := [(0, .ref mo), (1, .int (nI i)), (2, .int (nI j)), (3, .int a), (4, .int b), (5, .int (nI w)), (6, .int (iI ((k : Int) - (w : Int)))), (7, .int (iI (((mm + 1 : Nat) : Int) - (w : Int))))]) [1, 2, 3, 4, 5, 6, 7, 0] rfl ?_
                have hb := ih25 (mm + 1) (by omega) (by omega)
                rw [sq_step1 (lmW P Q i j a b) w ((k : Int) - (w : Int)) mm (sqAll (lmW P Q i j a b) w k) (fun z => hne ⟨by omega, by omega⟩), show lmW P Q i j a b ((k : Int) - (w : Int)) ((mm : Int) - (w : Int)) = [psL P Q i j a b (iI ((k : Int) - (w : Int))) (iI ((mm : Int) - (w : Int)))] from rfl, (ia_step SQ z (sqAll (lmW P Q i j a b) w k ++ sqRow (lmW P Q i j a b) w ((k : Int) - (w : Int)) mm) _).1, (ia_step SQ z (sqAll (lmW P Q i j a b) w k ++ sqRow (lmW P Q i j a b) w ((k : Int) - (w : Int)) mm) _).2] at hb
                exact hb
              · skip
                refine s_iload C (pc := 37) dX3_layWith_37 7 rfl ?_
                refine s_if_eq C (pc := 39) (tgt := 59) dX3_layWith_39 (by decide) (fun c39 => ?_) (fun c39 => ?_)
                · skip
                  have hx1 : k = w := (cI_0 (by omega) (by omega)).mp c34
                  have hx2 : mm = w := (cI_0 (by omega) (by omega)).mp c39
                  have hxy : ((k : Int) - (w : Int)) = 0 ∧ ((mm : Int) - (w : Int)) = 0 := ⟨by omega, by omega⟩
                  refine s_iinc C (pc := 59) (v := iI (((mm + 1 : Nat) : Int) - (w : Int))) (ls' := [(7, .int (iI (((mm + 1 : Nat) : Int) - (w : Int)))), (0, .ref mo), (1, .int (nI i)), (2, .int (nI j)), (3, .int a), (4, .int b), (5, .int (nI w)), (6, .int (iI ((k : Int) - (w : Int))))]) dX3_layWith_59 7 rfl (cI_1 mm w) (by decide) rfl ?_
                  refine s_goto C (pc := 62) (tgt := 25) dX3_layWith_62 (by decide) ?_
                  refine s_loc C (ls' := [(0, .ref mo), (1, .int (nI i)), (2, .int (nI j)), (3, .int a), (4, .int b), (5, .int (nI w)), (6, .int (iI ((k : Int) - (w : Int)))), (7, .int (iI (((mm + 1 : Nat) : Int) - (w : Int))))]) [1, 2, 3, 4, 5, 6, 7, 0] rfl ?_
                  have hb := ih25 (mm + 1) (by omega) (by omega)
                  rw [sq_step0 (lmW P Q i j a b) w ((k : Int) - (w : Int)) mm (sqAll (lmW P Q i j a b) w k) hxy] at hb
                  exact hb
                · skip
                  have hne : ¬ (k = w ∧ mm = w) := fun z => c39 ((cI_0 (by omega) (by omega)).mpr z.2)
                  refine s_aload_n C (pc := 42) dX3_layWith_42 rfl 0 rfl ?_
                  refine s_aload_n C (pc := 43) dX3_layWith_43 rfl 0 rfl ?_
                  refine s_iload_n C (pc := 44) dX3_layWith_44 rfl 1 rfl ?_
                  refine s_iload_n C (pc := 45) dX3_layWith_45 rfl 2 rfl ?_
                  refine s_iload_n C (pc := 46) dX3_layWith_46 rfl 3 rfl ?_
                  refine s_iload C (pc := 47) dX3_layWith_47 4 rfl ?_
                  refine s_iload C (pc := 49) dX3_layWith_49 6 rfl ?_
                  refine s_iload C (pc := 51) dX3_layWith_51 7 rfl ?_
                  refine s_calll C (pc := 53) (wr := [(mq, .inl (X.2.2.1, 576, .inr (.inl ((insA SQ z (sqAll (lmW P Q i j a b) w k ++ sqRow (lmW P Q i j a b) w ((k : Int) - (w : Int)) mm))))))]) (wc' := [(mo, .inr (3, [.ref mp, .ref ms, .ref mt, .int sts, .int (nI (z + (sqAll (lmW P Q i j a b) w k ++ sqRow (lmW P Q i j a b) w ((k : Int) - (w : Int)) mm).length)), .ref mq, .long wd, .int wS, .int wo, .int fw])), (mp, .inl (X.2.1, 12, .inl (M)))]) (wn := [(mo, .inr (3, [.ref mp, .ref ms, .ref mt, .int sts, .int (nI (z + (sqAll (lmW P Q i j a b) w k ++ sqRow (lmW P Q i j a b) w ((k : Int) - (w : Int)) mm).length)), .ref mq, .long wd, .int wS, .int wo, .int fw])), (mp, .inl (X.2.1, 12, .inl (M))), (mq, .inl (X.2.2.1, 576, .inr (.inl ((insA SQ z (sqAll (lmW P Q i j a b) w k ++ sqRow (lmW P Q i j a b) w ((k : Int) - (w : Int)) mm))))))]) (r_V C (As := [.int (nI i), .int (nI j), .int a, .int b, .int (iI ((k : Int) - (w : Int))), .int (iI ((mm : Int) - (w : Int)))]) (rest := [.ref mo]) (kX3_pairSquare l X mo mp ms mt mq sts (nI (z + (sqAll (lmW P Q i j a b) w k ++ sqRow (lmW P Q i j a b) w ((k : Int) - (w : Int)) mm).length)) wd wS wo fw M n P Q (nI w) f ll i j a b (iI ((k : Int) - (w : Int))) (iI ((mm : Int) - (w : Int))) (by first | assumption | omega | decide) (by first | assumption | omega | decide) (by first | assumption | omega | decide) (by first | assumption | omega | decide)) (cwV 6 C.ts gX3_layWith_X3_pairSquare rfl rfl rfl (by decide +kernel) ⟨Nat.le_of_ble_eq_true rfl, Nat.le_of_ble_eq_true rfl⟩) (q0 := 0) rfl rfl [0, 1] (by decide) rfl rfl (Nat.le_of_ble_eq_true rfl) rfl dX3_layWith_53 ⟨Nat.zero_le _, Nat.zero_le _⟩) [0, 1] [2] [1, 2, 0] rfl rfl (by decide) (by decide) (by decide) rfl ?_
                  refine s_callv C (pc := 56) (wr := [(mp, .inl (X.2.1, 12, .inl (M)))]) (wc' := [(mo, .inr (3, [.ref mp, .ref ms, .ref mt, .int sts, .int (nI ((z + (sqAll (lmW P Q i j a b) w k ++ sqRow (lmW P Q i j a b) w ((k : Int) - (w : Int)) mm).length) + 1)), .ref mq, .long wd, .int wS, .int wo, .int fw])), (mq, .inl (X.2.2.1, 576, .inr (.inl (insL (insA SQ z (sqAll (lmW P Q i j a b) w k ++ sqRow (lmW P Q i j a b) w ((k : Int) - (w : Int)) mm)) (psL P Q i j a b (iI ((k : Int) - (w : Int))) (iI ((mm : Int) - (w : Int)))) (z + (sqAll (lmW P Q i j a b) w k ++ sqRow (lmW P Q i j a b) w ((k : Int) - (w : Int)) mm).length)))))]) (wn := [(mo, .inr (3, [.ref mp, .ref ms, .ref mt, .int sts, .int (nI ((z + (sqAll (lmW P Q i j a b) w k ++ sqRow (lmW P Q i j a b) w ((k : Int) - (w : Int)) mm).length) + 1)), .ref mq, .long wd, .int wS, .int wo, .int fw])), (mp, .inl (X.2.1, 12, .inl (M))), (mq, .inl (X.2.2.1, 576, .inr (.inl (insL (insA SQ z (sqAll (lmW P Q i j a b) w k ++ sqRow (lmW P Q i j a b) w ((k : Int) - (w : Int)) mm)) (psL P Q i j a b (iI ((k : Int) - (w : Int))) (iI ((mm : Int) - (w : Int)))) (z + (sqAll (lmW P Q i j a b) w k ++ sqRow (lmW P Q i j a b) w ((k : Int) - (w : Int)) mm).length)))))]) (r_V C (As := [.long (psL P Q i j a b (iI ((k : Int) - (w : Int))) (iI ((mm : Int) - (w : Int))))]) (rest := []) (kX3_insert l X mo mp ms mt mq sts wd wS wo fw (insA SQ z (sqAll (lmW P Q i j a b) w k ++ sqRow (lmW P Q i j a b) w ((k : Int) - (w : Int)) mm)) (z + (sqAll (lmW P Q i j a b) w k ++ sqRow (lmW P Q i j a b) w ((k : Int) - (w : Int)) mm).length) (psL P Q i j a b (iI ((k : Int) - (w : Int))) (iI ((mm : Int) - (w : Int)))) (lm_room hw (by omega) (by omega) hne hz)) (cwV 1 C.ts gX3_layWith_X3_insert rfl rfl rfl (by decide +kernel) ⟨Nat.le_of_ble_eq_true rfl, Nat.le_of_ble_eq_true rfl⟩) (q0 := 0) rfl rfl [0, 2] (by decide) rfl rfl (Nat.le_of_ble_eq_true rfl) rfl dX3_layWith_56 ⟨Nat.zero_le _, Nat.zero_le _⟩) [0, 2] [1] [1, 0, 2] rfl rfl (by decide) (by decide) (by decide) rfl ?_
                  refine s_iinc C (pc := 59) (v := iI (((mm + 1 : Nat) : Int) - (w : Int))) (ls' := [(7, .int (iI (((mm + 1 : Nat) : Int) - (w : Int)))), (0, .ref mo), (1, .int (nI i)), (2, .int (nI j)), (3, .int a), (4, .int b), (5, .int (nI w)), (6, .int (iI ((k : Int) - (w : Int))))]) dX3_layWith_59 7 rfl (cI_1 mm w) (by decide) rfl ?_
                  refine s_goto C (pc := 62) (tgt := 25) dX3_layWith_62 (by decide) ?_
                  refine s_loc C (ls' := [(0, .ref mo), (1, .int (nI i)), (2, .int (nI j)), (3, .int a), (4, .int b), (5, .int (nI w)), (6, .int (iI ((k : Int) - (w : Int)))), (7, .int (iI (((mm + 1 : Nat) : Int) - (w : Int))))]) [1, 2, 3, 4, 5, 6, 7, 0] rfl ?_
                  have hb := ih25 (mm + 1) (by omega) (by omega)
                  rw [sq_step1 (lmW P Q i j a b) w ((k : Int) - (w : Int)) mm (sqAll (lmW P Q i j a b) w k) (fun z => hne ⟨by omega, by omega⟩), show lmW P Q i j a b ((k : Int) - (w : Int)) ((mm : Int) - (w : Int)) = [psL P Q i j a b (iI ((k : Int) - (w : Int))) (iI ((mm : Int) - (w : Int)))] from rfl, (ia_step SQ z (sqAll (lmW P Q i j a b) w k ++ sqRow (lmW P Q i j a b) w ((k : Int) - (w : Int)) mm) _).1, (ia_step SQ z (sqAll (lmW P Q i j a b) w k ++ sqRow (lmW P Q i j a b) w ((k : Int) - (w : Int)) mm) _).2] at hb
                  exact hb
        refine s_loc C (ls' := [(0, .ref mo), (1, .int (nI i)), (2, .int (nI j)), (3, .int a), (4, .int b), (5, .int (nI w)), (6, .int (iI ((k : Int) - (w : Int)))), (7, .int (iI (((0 : Nat) : Int) - (w : Int))))]) [1, 2, 3, 4, 5, 6, 7, 0] rfl ?_
        have hb := L25 (2 * w + 2) 0 (Nat.zero_le _) (by omega)
        rw [show sqAll (lmW P Q i j a b) w k ++ sqRow (lmW P Q i j a b) w ((k : Int) - (w : Int)) 0 = sqAll (lmW P Q i j a b) w k from List.append_nil _] at hb
        exact hb
  refine s_loc C (ls' := [(0, .ref mo), (1, .int (nI i)), (2, .int (nI j)), (3, .int a), (4, .int b), (5, .int (nI w)), (6, .int (iI (((0 : Nat) : Int) - (w : Int))))]) [2, 3, 4, 5, 6, 1, 0] rfl ?_
  exact L13 (2 * w + 2) 0 (Nat.zero_le _) (by omega)

set_option maxHeartbeats 4000000 in
set_option maxRecDepth 100000 in
theorem kX3_laySquares (l : Launch) (X : XT) (mo mp ms mt mq : Nat) (sts : Int32) (wd : Int64) (wS wo fw : Int32) (M : Nat → Int32) (n : Nat) (P Q : Nat → Int32) (w : Nat) (f ll : Int32) (SQ : Nat → Int64) (al : Int32) (i j : Nat) (hM : MR M n P Q (nI w) f ll) (hi : i < n) (hj : j < n) (hn : n ≤ 4) (hw : w = 1 ∨ w = 2) : KV l yX3_laySquares wsX3_laySquares ({ frames := 4, cells := 0, slots := 0, locals := 103 }) X [.ref mo, .int (nI i), .int (nI j)] [(mo, .inr (3, [.ref mp, .ref ms, .ref mt, .int sts, .int al, .ref mq, .long wd, .int wS, .int wo, .int fw])), (mp, .inl (X.2.1, 12, .inl (M))), (mq, .inl (X.2.2.1, 576, .inr (.inl (SQ))))] [(mo, .inr (3, [.ref mp, .ref ms, .ref mt, .int sts, .int (nI ((laL P Q w i j).length)), .ref mq, .long wd, .int wS, .int wo, .int fw])), (mp, .inl (X.2.1, 12, .inl (M))), (mq, .inl (X.2.2.1, 576, .inr (.inl (insA SQ 0 (laL P Q w i j)))))] := by
  refine k_ofV (cc := cX3_laySquares) (own := RX3) (maxL := 6) (ret := none) (ls0 := [(0, .ref mo), (1, .int (nI i)), (2, .int (nI j))]) (by decide) rfl rfl (Nat.le_of_ble_eq_true rfl) rfl ?_
  intro p e s m args below meth c A g C hr hlk
  refine s_aload_n C (pc := 0) dX3_laySquares_0 rfl 0 rfl ?_
  refine s_iconst C (pc := 1) (v := 0) dX3_laySquares_1 (by decide) ?_
  refine s_put C (pc := 2) (T := TX3) (N := 10) (ws' := [(mo, .inr (3, [.ref mp, .ref ms, .ref mt, .int sts, .int 0, .ref mq, .long wd, .int wS, .int wo, .int fw])), (mp, .inl (X.2.1, 12, .inl (M))), (mq, .inl (X.2.2.1, 576, .inr (.inl (SQ))))]) (fun _ h => (List.mem_cons_of_mem _ (List.mem_append_right _ h))) 0 rfl rfl tyX3 tyX3_ok nmX3 4 (by decide) (List.mem_of_getElem? (i := 1) rfl) rfl rfl rfl rfl (Nat.le_of_ble_eq_true rfl) rfl dX3_laySquares_2 ?_
  refine s_aload_n C (pc := 5) dX3_laySquares_5 rfl 0 rfl ?_
  refine s_get C (pc := 6) (T := TX3) (N := 10) (fun _ h => (List.mem_cons_of_mem _ (List.mem_append_right _ h))) 0 rfl rfl 0 (by decide) (List.mem_of_getElem? (i := 2) rfl) rfl rfl dX3_laySquares_6 ?_
  refine s_iconst C (pc := 9) (v := 1) dX3_laySquares_9 (by decide) ?_
  refine s_iald C (pc := 10) 1 rfl 1 rfl (by decide) (by decide) dX3_laySquares_10 ?_
  refine s_top C (y := nI w) (hM.2.1) ?_
  refine s_istore_n C (pc := 11) (ls' := [(3, .int (nI w)), (0, .ref mo), (1, .int (nI i)), (2, .int (nI j))]) dX3_laySquares_11 rfl (by decide) rfl ?_
  refine s_iload_n C (pc := 12) dX3_laySquares_12 rfl 0 rfl ?_
  refine s_ineg C (pc := 13) dX3_laySquares_13 ?_
  refine s_top C (y := iI (((0 : Nat) : Int) - (w : Int))) (neg_nI w) ?_
  refine s_istore C (pc := 14) (ls' := [(4, .int (iI (((0 : Nat) : Int) - (w : Int)))), (3, .int (nI w)), (0, .ref mo), (1, .int (nI i)), (2, .int (nI j))]) dX3_laySquares_14 (by decide) rfl ?_
  have L16 : ∀ (n_ : Nat) (k : Nat), (k ≤ 2 * w + 1) → 2 * w + 2 ≤ k + n_ → g [(mo, .inr (3, [.ref mp, .ref ms, .ref mt, .int sts, .int (nI ((sqAll (laW P Q w i j) w k).length)), .ref mq, .long wd, .int wS, .int wo, .int fw])), (mp, .inl (X.2.1, 12, .inl (M))), (mq, .inl (X.2.2.1, 576, .inr (.inl ((insA SQ 0 (sqAll (laW P Q w i j) w k))))))] 16 [(0, .ref mo), (1, .int (nI i)), (2, .int (nI j)), (3, .int (nI w)), (4, .int (iI ((k : Int) - (w : Int))))] [] := by
    intro n_
    induction n_ with
    | zero =>
      intro k hk hf
      exact absurd hf (by omega)
    | succ n_ ih16 =>
      intro k hk hf16
      refine s_iload C (pc := 16) dX3_laySquares_16 4 rfl ?_
      refine s_iload_n C (pc := 18) dX3_laySquares_18 rfl 3 rfl ?_
      refine s_icmp_gt C (pc := 19) (tgt := 64) dX3_laySquares_19 (by decide) (fun c19 => ?_) (fun c19 => ?_)
      · skip
        have e19 : 2 * w < k := (cI_lt (by omega) (by omega)).mp c19
        have hs0 : 2 * w + 1 = k := by omega
        subst hs0
        exact s_vret C (pc := 64) hr hlk [0, 1, 2] (by decide) (rfl) dX3_laySquares_64
      · skip
        have e19 : k < 2 * w + 1 := Nat.lt_of_not_le (fun z => c19 ((cI_lt (by omega) (by omega)).mpr (by omega)))
        refine s_iload_n C (pc := 22) dX3_laySquares_22 rfl 3 rfl ?_
        refine s_ineg C (pc := 23) dX3_laySquares_23 ?_
        refine s_top C (y := iI (((0 : Nat) : Int) - (w : Int))) (neg_nI w) ?_
        refine s_istore C (pc := 24) (ls' := [(5, .int (iI (((0 : Nat) : Int) - (w : Int)))), (0, .ref mo), (1, .int (nI i)), (2, .int (nI j)), (3, .int (nI w)), (4, .int (iI ((k : Int) - (w : Int))))]) dX3_laySquares_24 (by decide) rfl ?_
        have L26 : ∀ (n_ : Nat) (mm : Nat), (mm ≤ 2 * w + 1) → 2 * w + 2 ≤ mm + n_ → g [(mo, .inr (3, [.ref mp, .ref ms, .ref mt, .int sts, .int (nI ((sqAll (laW P Q w i j) w k ++ sqRow (laW P Q w i j) w ((k : Int) - (w : Int)) mm).length)), .ref mq, .long wd, .int wS, .int wo, .int fw])), (mp, .inl (X.2.1, 12, .inl (M))), (mq, .inl (X.2.2.1, 576, .inr (.inl ((insA SQ 0 (sqAll (laW P Q w i j) w k ++ sqRow (laW P Q w i j) w ((k : Int) - (w : Int)) mm))))))] 26 [(0, .ref mo), (1, .int (nI i)), (2, .int (nI j)), (3, .int (nI w)), (4, .int (iI ((k : Int) - (w : Int)))), (5, .int (iI ((mm : Int) - (w : Int))))] [] := by
          intro n_
          induction n_ with
          | zero =>
            intro mm hm hf
            exact absurd hf (by omega)
          | succ n_ ih26 =>
            intro mm hm hf26
            refine s_iload C (pc := 26) dX3_laySquares_26 5 rfl ?_
            refine s_iload_n C (pc := 28) dX3_laySquares_28 rfl 3 rfl ?_
            refine s_icmp_gt C (pc := 29) (tgt := 58) dX3_laySquares_29 (by decide) (fun c29 => ?_) (fun c29 => ?_)
            · skip
              have e29 : 2 * w < mm := (cI_lt (by omega) (by omega)).mp c29
              have hs0 : 2 * w + 1 = mm := by omega
              subst hs0
              refine s_iinc C (pc := 58) (v := iI (((k + 1 : Nat) : Int) - (w : Int))) (ls' := [(4, .int (iI (((k + 1 : Nat) : Int) - (w : Int)))), (0, .ref mo), (1, .int (nI i)), (2, .int (nI j)), (3, .int (nI w)), (5, .int (iI (((2 * w + 1) : Int) - (w : Int))))]) dX3_laySquares_58 4 rfl (cI_1 k w) (by decide) rfl ?_
              refine s_goto C (pc := 61) (tgt := 16) dX3_laySquares_61 (by decide) ?_
              refine s_loc C (ls' := [(0, .ref mo), (1, .int (nI i)), (2, .int (nI j)), (3, .int (nI w)), (4, .int (iI (((k + 1 : Nat) : Int) - (w : Int))))]) [1, 2, 3, 4, 0] rfl ?_
              exact ih16 (k + 1) (by omega) (by omega)
            · skip
              have e29 : mm < 2 * w + 1 := Nat.lt_of_not_le (fun z => c29 ((cI_lt (by omega) (by omega)).mpr (by omega)))
              refine s_iload C (pc := 32) dX3_laySquares_32 4 rfl ?_
              refine s_if_ne C (pc := 34) (tgt := 42) dX3_laySquares_34 (by decide) (fun c34 => ?_) (fun c34 => ?_)
              · skip
                have hne : ¬ (k = w ∧ mm = w) := fun z => c34 ((cI_0 (by omega) (by omega)).mpr z.1)
                refine s_aload_n C (pc := 42) dX3_laySquares_42 rfl 0 rfl ?_
                refine s_iload_n C (pc := 43) dX3_laySquares_43 rfl 1 rfl ?_
                refine s_iload_n C (pc := 44) dX3_laySquares_44 rfl 2 rfl ?_
                refine s_iload C (pc := 45) dX3_laySquares_45 4 rfl ?_
                refine s_iload C (pc := 47) dX3_laySquares_47 5 rfl ?_
                refine s_callv C (pc := 49) (wr := []) (wc' := [(mo, .inr (3, [.ref mp, .ref ms, .ref mt, .int sts, .int (nI (((sqAll (laW P Q w i j) w k ++ sqRow (laW P Q w i j) w ((k : Int) - (w : Int)) mm).length) + (lmL P Q w i j (iI ((k : Int) - (w : Int))) (iI ((mm : Int) - (w : Int)))).length)), .ref mq, .long wd, .int wS, .int wo, .int fw])), (mp, .inl (X.2.1, 12, .inl (M))), (mq, .inl (X.2.2.1, 576, .inr (.inl (insA (insA SQ 0 (sqAll (laW P Q w i j) w k ++ sqRow (laW P Q w i j) w ((k : Int) - (w : Int)) mm)) ((sqAll (laW P Q w i j) w k ++ sqRow (laW P Q w i j) w ((k : Int) - (w : Int)) mm).length) (lmL P Q w i j (iI ((k : Int) - (w : Int))) (iI ((mm : Int) - (w : Int))))))))]) (wn := [(mo, .inr (3, [.ref mp, .ref ms, .ref mt, .int sts, .int (nI (((sqAll (laW P Q w i j) w k ++ sqRow (laW P Q w i j) w ((k : Int) - (w : Int)) mm).length) + (lmL P Q w i j (iI ((k : Int) - (w : Int))) (iI ((mm : Int) - (w : Int)))).length)), .ref mq, .long wd, .int wS, .int wo, .int fw])), (mp, .inl (X.2.1, 12, .inl (M))), (mq, .inl (X.2.2.1, 576, .inr (.inl (insA (insA SQ 0 (sqAll (laW P Q w i j) w k ++ sqRow (laW P Q w i j) w ((k : Int) - (w : Int)) mm)) ((sqAll (laW P Q w i j) w k ++ sqRow (laW P Q w i j) w ((k : Int) - (w : Int)) mm).length) (lmL P Q w i j (iI ((k : Int) - (w : Int))) (iI ((mm : Int) - (w : Int))))))))]) (r_V C (As := [.int (nI i), .int (nI j), .int (iI ((k : Int) - (w : Int))), .int (iI ((mm : Int) - (w : Int)))]) (rest := []) (kX3_layWith l X mo mp ms mt mq sts wd wS wo fw M n P Q w f ll (insA SQ 0 (sqAll (laW P Q w i j) w k ++ sqRow (laW P Q w i j) w ((k : Int) - (w : Int)) mm)) ((sqAll (laW P Q w i j) w k ++ sqRow (laW P Q w i j) w ((k : Int) - (w : Int)) mm).length) i j (iI ((k : Int) - (w : Int))) (iI ((mm : Int) - (w : Int))) (by first | assumption | omega | decide) (by first | assumption | omega | decide) (by first | assumption | omega | decide) (by first | assumption | omega | decide) (by first | assumption | omega | decide) (la_room hw (by omega) (by omega) hne)) (cwV 4 C.ts gX3_laySquares_X3_layWith rfl rfl rfl (by decide +kernel) ⟨Nat.le_of_ble_eq_true rfl, Nat.le_of_ble_eq_true rfl⟩) (q0 := 0) rfl rfl [0, 1, 2] (by decide) rfl rfl (Nat.le_of_ble_eq_true rfl) rfl dX3_laySquares_49 ⟨Nat.zero_le _, Nat.zero_le _⟩) [0, 1, 2] [] [0, 1, 2] rfl rfl (by decide) (by decide) (by decide) rfl ?_
                refine s_iinc C (pc := 52) (v := iI (((mm + 1 : Nat) : Int) - (w : Int))) (ls' := [(5, .int (iI (((mm + 1 : Nat) : Int) - (w : Int)))), (0, .ref mo), (1, .int (nI i)), (2, .int (nI j)), (3, .int (nI w)), (4, .int (iI ((k : Int) - (w : Int))))]) dX3_laySquares_52 5 rfl (cI_1 mm w) (by decide) rfl ?_
                refine s_goto C (pc := 55) (tgt := 26) dX3_laySquares_55 (by decide) ?_
                refine s_loc C (ls' := [(0, .ref mo), (1, .int (nI i)), (2, .int (nI j)), (3, .int (nI w)), (4, .int (iI ((k : Int) - (w : Int)))), (5, .int (iI (((mm + 1 : Nat) : Int) - (w : Int))))]) [1, 2, 3, 4, 5, 0] rfl ?_
                have hb := ih26 (mm + 1) (by omega) (by omega)
                rw [sq_step1 (laW P Q w i j) w ((k : Int) - (w : Int)) mm (sqAll (laW P Q w i j) w k) (fun z => hne ⟨by omega, by omega⟩), insA_app0, List.length_append] at hb
                exact hb
              · skip
                refine s_iload C (pc := 37) dX3_laySquares_37 5 rfl ?_
                refine s_if_eq C (pc := 39) (tgt := 52) dX3_laySquares_39 (by decide) (fun c39 => ?_) (fun c39 => ?_)
                · skip
                  have hx1 : k = w := (cI_0 (by omega) (by omega)).mp c34
                  have hx2 : mm = w := (cI_0 (by omega) (by omega)).mp c39
                  have hxy : ((k : Int) - (w : Int)) = 0 ∧ ((mm : Int) - (w : Int)) = 0 := ⟨by omega, by omega⟩
                  refine s_iinc C (pc := 52) (v := iI (((mm + 1 : Nat) : Int) - (w : Int))) (ls' := [(5, .int (iI (((mm + 1 : Nat) : Int) - (w : Int)))), (0, .ref mo), (1, .int (nI i)), (2, .int (nI j)), (3, .int (nI w)), (4, .int (iI ((k : Int) - (w : Int))))]) dX3_laySquares_52 5 rfl (cI_1 mm w) (by decide) rfl ?_
                  refine s_goto C (pc := 55) (tgt := 26) dX3_laySquares_55 (by decide) ?_
                  refine s_loc C (ls' := [(0, .ref mo), (1, .int (nI i)), (2, .int (nI j)), (3, .int (nI w)), (4, .int (iI ((k : Int) - (w : Int)))), (5, .int (iI (((mm + 1 : Nat) : Int) - (w : Int))))]) [1, 2, 3, 4, 5, 0] rfl ?_
                  have hb := ih26 (mm + 1) (by omega) (by omega)
                  rw [sq_step0 (laW P Q w i j) w ((k : Int) - (w : Int)) mm (sqAll (laW P Q w i j) w k) hxy] at hb
                  exact hb
                · skip
                  have hne : ¬ (k = w ∧ mm = w) := fun z => c39 ((cI_0 (by omega) (by omega)).mpr z.2)
                  refine s_aload_n C (pc := 42) dX3_laySquares_42 rfl 0 rfl ?_
                  refine s_iload_n C (pc := 43) dX3_laySquares_43 rfl 1 rfl ?_
                  refine s_iload_n C (pc := 44) dX3_laySquares_44 rfl 2 rfl ?_
                  refine s_iload C (pc := 45) dX3_laySquares_45 4 rfl ?_
                  refine s_iload C (pc := 47) dX3_laySquares_47 5 rfl ?_
                  refine s_callv C (pc := 49) (wr := []) (wc' := [(mo, .inr (3, [.ref mp, .ref ms, .ref mt, .int sts, .int (nI (((sqAll (laW P Q w i j) w k ++ sqRow (laW P Q w i j) w ((k : Int) - (w : Int)) mm).length) + (lmL P Q w i j (iI ((k : Int) - (w : Int))) (iI ((mm : Int) - (w : Int)))).length)), .ref mq, .long wd, .int wS, .int wo, .int fw])), (mp, .inl (X.2.1, 12, .inl (M))), (mq, .inl (X.2.2.1, 576, .inr (.inl (insA (insA SQ 0 (sqAll (laW P Q w i j) w k ++ sqRow (laW P Q w i j) w ((k : Int) - (w : Int)) mm)) ((sqAll (laW P Q w i j) w k ++ sqRow (laW P Q w i j) w ((k : Int) - (w : Int)) mm).length) (lmL P Q w i j (iI ((k : Int) - (w : Int))) (iI ((mm : Int) - (w : Int))))))))]) (wn := [(mo, .inr (3, [.ref mp, .ref ms, .ref mt, .int sts, .int (nI (((sqAll (laW P Q w i j) w k ++ sqRow (laW P Q w i j) w ((k : Int) - (w : Int)) mm).length) + (lmL P Q w i j (iI ((k : Int) - (w : Int))) (iI ((mm : Int) - (w : Int)))).length)), .ref mq, .long wd, .int wS, .int wo, .int fw])), (mp, .inl (X.2.1, 12, .inl (M))), (mq, .inl (X.2.2.1, 576, .inr (.inl (insA (insA SQ 0 (sqAll (laW P Q w i j) w k ++ sqRow (laW P Q w i j) w ((k : Int) - (w : Int)) mm)) ((sqAll (laW P Q w i j) w k ++ sqRow (laW P Q w i j) w ((k : Int) - (w : Int)) mm).length) (lmL P Q w i j (iI ((k : Int) - (w : Int))) (iI ((mm : Int) - (w : Int))))))))]) (r_V C (As := [.int (nI i), .int (nI j), .int (iI ((k : Int) - (w : Int))), .int (iI ((mm : Int) - (w : Int)))]) (rest := []) (kX3_layWith l X mo mp ms mt mq sts wd wS wo fw M n P Q w f ll (insA SQ 0 (sqAll (laW P Q w i j) w k ++ sqRow (laW P Q w i j) w ((k : Int) - (w : Int)) mm)) ((sqAll (laW P Q w i j) w k ++ sqRow (laW P Q w i j) w ((k : Int) - (w : Int)) mm).length) i j (iI ((k : Int) - (w : Int))) (iI ((mm : Int) - (w : Int))) (by first | assumption | omega | decide) (by first | assumption | omega | decide) (by first | assumption | omega | decide) (by first | assumption | omega | decide) (by first | assumption | omega | decide) (la_room hw (by omega) (by omega) hne)) (cwV 4 C.ts gX3_laySquares_X3_layWith rfl rfl rfl (by decide +kernel) ⟨Nat.le_of_ble_eq_true rfl, Nat.le_of_ble_eq_true rfl⟩) (q0 := 0) rfl rfl [0, 1, 2] (by decide) rfl rfl (Nat.le_of_ble_eq_true rfl) rfl dX3_laySquares_49 ⟨Nat.zero_le _, Nat.zero_le _⟩) [0, 1, 2] [] [0, 1, 2] rfl rfl (by decide) (by decide) (by decide) rfl ?_
                  refine s_iinc C (pc := 52) (v := iI (((mm + 1 : Nat) : Int) - (w : Int))) (ls' := [(5, .int (iI (((mm + 1 : Nat) : Int) - (w : Int)))), (0, .ref mo), (1, .int (nI i)), (2, .int (nI j)), (3, .int (nI w)), (4, .int (iI ((k : Int) - (w : Int))))]) dX3_laySquares_52 5 rfl (cI_1 mm w) (by decide) rfl ?_
                  refine s_goto C (pc := 55) (tgt := 26) dX3_laySquares_55 (by decide) ?_
                  refine s_loc C (ls' := [(0, .ref mo), (1, .int (nI i)), (2, .int (nI j)), (3, .int (nI w)), (4, .int (iI ((k : Int) - (w : Int)))), (5, .int (iI (((mm + 1 : Nat) : Int) - (w : Int))))]) [1, 2, 3, 4, 5, 0] rfl ?_
                  have hb := ih26 (mm + 1) (by omega) (by omega)
                  rw [sq_step1 (laW P Q w i j) w ((k : Int) - (w : Int)) mm (sqAll (laW P Q w i j) w k) (fun z => hne ⟨by omega, by omega⟩), insA_app0, List.length_append] at hb
                  exact hb
        refine s_loc C (ls' := [(0, .ref mo), (1, .int (nI i)), (2, .int (nI j)), (3, .int (nI w)), (4, .int (iI ((k : Int) - (w : Int)))), (5, .int (iI (((0 : Nat) : Int) - (w : Int))))]) [1, 2, 3, 4, 5, 0] rfl ?_
        have hb := L26 (2 * w + 2) 0 (Nat.zero_le _) (by omega)
        rw [show sqAll (laW P Q w i j) w k ++ sqRow (laW P Q w i j) w ((k : Int) - (w : Int)) 0 = sqAll (laW P Q w i j) w k from List.append_nil _] at hb
        exact hb
  refine s_loc C (ls' := [(0, .ref mo), (1, .int (nI i)), (2, .int (nI j)), (3, .int (nI w)), (4, .int (iI (((0 : Nat) : Int) - (w : Int))))]) [2, 3, 4, 1, 0] rfl ?_
  exact L16 (2 * w + 2) 0 (Nat.zero_le _) (by omega)

set_option maxHeartbeats 4000000 in
set_option maxRecDepth 100000 in
theorem kX3_behind (l : Launch) (X : XT) (mo mp ms mt mq : Nat) (sts : Int32) (wd : Int64) (wS wo fw : Int32) (SQ : Nat → Int64) (z at0 : Nat) (hz : z ≤ 576) (ha : at0 ≤ z) : KI l yX3_behind wsX3_behind ({ frames := 0, cells := 0, slots := 0, locals := 0 }) X [.ref mo, .int (nI at0)] [(mo, .inr (3, [.ref mp, .ref ms, .ref mt, .int sts, .int (nI z), .ref mq, .long wd, .int wS, .int wo, .int fw])), (mq, .inl (X.2.2.1, 576, .inr (.inl (SQ))))] [(mo, .inr (3, [.ref mp, .ref ms, .ref mt, .int sts, .int (nI z), .ref mq, .long wd, .int wS, .int wo, .int fw])), (mq, .inl (X.2.2.1, 576, .inr (.inl (SQ))))] (nI (bhN SQ z at0)) := by
  refine k_ofI (cc := cX3_behind) (own := RX3) (maxL := 3) (ret := (some .int)) (ls0 := [(0, .ref mo), (1, .int (nI at0))]) (by decide) rfl rfl (Nat.le_of_ble_eq_true rfl) rfl ?_
  intro p e s m args below meth c A g C hr hlk
  refine s_iload_n C (pc := 0) dX3_behind_0 rfl 1 rfl ?_
  refine s_istore_n C (pc := 1) (ls' := [(2, .int (nI at0)), (0, .ref mo), (1, .int (nI at0))]) dX3_behind_1 rfl (by decide) rfl ?_
  have L2 : ∀ (n_ : Nat) (x : Nat), (x ≤ z) → (at0 ≤ x) → (bhF SQ (SQ at0) (z - x) x = bhN SQ z at0) → z + 1 ≤ x + n_ → g [(mo, .inr (3, [.ref mp, .ref ms, .ref mt, .int sts, .int (nI z), .ref mq, .long wd, .int wS, .int wo, .int fw])), (mq, .inl (X.2.2.1, 576, .inr (.inl (SQ))))] 2 [(0, .ref mo), (1, .int (nI at0)), (2, .int (nI x))] [] := by
    intro n_
    induction n_ with
    | zero =>
      intro x hx hx2 hI hf
      exact absurd hf (by omega)
    | succ n_ ih2 =>
      intro x hx hx2 hI hf2
      refine s_iload_n C (pc := 2) dX3_behind_2 rfl 2 rfl ?_
      refine s_aload_n C (pc := 3) dX3_behind_3 rfl 0 rfl ?_
      refine s_get C (pc := 4) (T := TX3) (N := 10) (fun _ h => (List.mem_cons_of_mem _ (List.mem_append_right _ h))) 0 rfl rfl 4 (by decide) (List.mem_of_getElem? (i := 1) rfl) rfl rfl dX3_behind_4 ?_
      refine s_icmp_ge C (pc := 7) (tgt := 32) dX3_behind_7 (by decide) (fun c7 => ?_) (fun c7 => ?_)
      · skip
        have e7 := nat_le (a := z) (b := x) (by omega) (by omega) c7
        rw [show z - x = 0 by omega] at hI
        refine s_iload_n C (pc := 32) dX3_behind_32 rfl 2 rfl ?_
        exact s_iret C (pc := 33) hr hlk [0, 1] (by decide) (rfl) (congrArg nI hI) dX3_behind_33
      · skip
        have e7 := nat_nle (a := z) (b := x) (by omega) (by omega) c7
        obtain ⟨u, hu⟩ : ∃ u, z - x = u + 1 := ⟨z - x - 1, by omega⟩
        rw [hu] at hI
        refine s_aload_n C (pc := 10) dX3_behind_10 rfl 0 rfl ?_
        refine s_get C (pc := 11) (T := TX3) (N := 10) (fun _ h => (List.mem_cons_of_mem _ (List.mem_append_right _ h))) 0 rfl rfl 5 (by decide) (List.mem_of_getElem? (i := 2) rfl) rfl rfl dX3_behind_11 ?_
        refine s_iload_n C (pc := 14) dX3_behind_14 rfl 2 rfl ?_
        refine s_lald C (pc := 15) 1 rfl x rfl (by omega) (by decide) dX3_behind_15 ?_
        refine s_aload_n C (pc := 16) dX3_behind_16 rfl 0 rfl ?_
        refine s_get C (pc := 17) (T := TX3) (N := 10) (fun _ h => (List.mem_cons_of_mem _ (List.mem_append_right _ h))) 0 rfl rfl 5 (by decide) (List.mem_of_getElem? (i := 2) rfl) rfl rfl dX3_behind_17 ?_
        refine s_iload_n C (pc := 20) dX3_behind_20 rfl 1 rfl ?_
        refine s_lald C (pc := 21) 1 rfl at0 rfl (by omega) (by decide) dX3_behind_21 ?_
        refine s_lcmp_ne C (pc := 22) (tgt := 32) dX3_behind_22 dX3_behind_23 (by decide) (fun c22 => ?_) (fun c22 => ?_)
        · skip
          refine s_iload_n C (pc := 32) dX3_behind_32 rfl 2 rfl ?_
          exact s_iret C (pc := 33) hr hlk [0, 1] (by decide) (rfl) (congrArg nI ((if_neg c22).symm.trans hI)) dX3_behind_33
        · skip
          refine s_iinc C (pc := 26) (v := nI (x + 1)) (ls' := [(2, .int (nI (x + 1))), (0, .ref mo), (1, .int (nI at0))]) dX3_behind_26 2 rfl (nI_1 _) (by decide) rfl ?_
          refine s_goto C (pc := 29) (tgt := 2) dX3_behind_29 (by decide) ?_
          refine s_loc C (ls' := [(0, .ref mo), (1, .int (nI at0)), (2, .int (nI (x + 1)))]) [1, 2, 0] rfl ?_
          exact ih2 (x + 1) (by omega) (by omega) (by rw [show z - (x + 1) = u by omega, ← hI]; exact (if_pos c22).symm) (by omega)
  refine s_loc C (ls' := [(0, .ref mo), (1, .int (nI at0)), (2, .int (nI at0))]) [1, 2, 0] rfl ?_
  exact L2 (z + 1) at0 ha (Nat.le_refl _) rfl (by omega)

set_option maxHeartbeats 4000000 in
set_option maxRecDepth 100000 in
theorem kX3_placeOf (l : Launch) (X : XT) (mo mp ms mt mq : Nat) (sts : Int32) (wd : Int64) (wS wo fw : Int32) (SQ : Nat → Int64) (z : Nat) (rk : Int32) (hz : z ≤ 576) : KI l yX3_placeOf wsX3_placeOf ({ frames := 1, cells := 0, slots := 0, locals := 22 }) X [.ref mo, .int rk] [(mo, .inr (3, [.ref mp, .ref ms, .ref mt, .int sts, .int (nI z), .ref mq, .long wd, .int wS, .int wo, .int fw])), (mq, .inl (X.2.2.1, 576, .inr (.inl (SQ))))] [(mo, .inr (3, [.ref mp, .ref ms, .ref mt, .int sts, .int (nI z), .ref mq, .long wd, .int wS, .int wo, .int fw])), (mq, .inl (X.2.2.1, 576, .inr (.inl (SQ))))] (nI (plF SQ z (z + 1) 0 rk)) := by
  refine k_ofI (cc := cX3_placeOf) (own := RX3) (maxL := 4) (ret := (some .int)) (ls0 := [(0, .ref mo), (1, .int rk)]) (by decide) rfl rfl (Nat.le_of_ble_eq_true rfl) rfl ?_
  intro p e s m args below meth c A g C hr hlk
  refine s_iload_n C (pc := 0) dX3_placeOf_0 rfl 1 rfl ?_
  refine s_istore_n C (pc := 1) (ls' := [(2, .int rk), (0, .ref mo), (1, .int rk)]) dX3_placeOf_1 rfl (by decide) rfl ?_
  refine s_iconst C (pc := 2) (v := 0) dX3_placeOf_2 (by decide) ?_
  refine s_istore_n C (pc := 3) (ls' := [(3, .int 0), (2, .int rk), (0, .ref mo), (1, .int rk)]) dX3_placeOf_3 rfl (by decide) rfl ?_
  have L4 : ∀ (n_ : Nat) (u x : Nat) (lf : Int32), (x ≤ z) → (z - x < u) → (plF SQ z u x lf = plF SQ z (z + 1) 0 rk) → u < n_ → g [(mo, .inr (3, [.ref mp, .ref ms, .ref mt, .int sts, .int (nI z), .ref mq, .long wd, .int wS, .int wo, .int fw])), (mq, .inl (X.2.2.1, 576, .inr (.inl (SQ))))] 4 [(0, .ref mo), (2, .int lf), (3, .int (nI x))] [] := by
    intro n_
    induction n_ with
    | zero =>
      intro u x lf hx hu hI hf
      exact absurd hf (by omega)
    | succ n_ ih4 =>
      intro u x lf hx hu hI hf4
      obtain ⟨u1, hu1⟩ : ∃ u1, u = u1 + 1 := ⟨u - 1, by omega⟩
      subst hu1
      refine s_iload_n C (pc := 4) dX3_placeOf_4 rfl 2 rfl ?_
      refine s_aload_n C (pc := 5) dX3_placeOf_5 rfl 0 rfl ?_
      refine s_get C (pc := 6) (T := TX3) (N := 10) (fun _ h => (List.mem_cons_of_mem _ (List.mem_append_right _ h))) 0 rfl rfl 4 (by decide) (List.mem_of_getElem? (i := 1) rfl) rfl rfl dX3_placeOf_6 ?_
      refine s_icmp_ge C (pc := 9) (tgt := 28) dX3_placeOf_9 (by decide) (fun c9 => ?_) (fun c9 => ?_)
      · skip
        have e9 := nat_le (a := z) (b := x) (by omega) (by omega) c9
        refine s_iload_n C (pc := 28) dX3_placeOf_28 rfl 2 rfl ?_
        exact s_iret C (pc := 29) hr hlk [0, 1] (by decide) (rfl) (congrArg nI ((if_neg (fun hh => absurd hh.1 (by omega))).symm.trans hI)) dX3_placeOf_29
      · skip
        have e9 := nat_nle (a := z) (b := x) (by omega) (by omega) c9
        refine s_iload_n C (pc := 12) dX3_placeOf_12 rfl 1 rfl ?_
        refine s_if_le C (pc := 13) (tgt := 28) dX3_placeOf_13 (by decide) (fun c13 => ?_) (fun c13 => ?_)
        · skip
          refine s_iload_n C (pc := 28) dX3_placeOf_28 rfl 2 rfl ?_
          exact s_iret C (pc := 29) hr hlk [0, 1] (by decide) (rfl) (congrArg nI ((if_neg (fun hh => absurd c13 (Int32.not_le.mpr hh.2))).symm.trans hI)) dX3_placeOf_29
        · skip
          refine s_aload_n C (pc := 16) dX3_placeOf_16 rfl 0 rfl ?_
          refine s_iload_n C (pc := 17) dX3_placeOf_17 rfl 2 rfl ?_
          refine s_calli C (pc := 18) (wr := []) (wc' := [(mo, .inr (3, [.ref mp, .ref ms, .ref mt, .int sts, .int (nI z), .ref mq, .long wd, .int wS, .int wo, .int fw])), (mq, .inl (X.2.2.1, 576, .inr (.inl (SQ))))]) (wn := [(mo, .inr (3, [.ref mp, .ref ms, .ref mt, .int sts, .int (nI z), .ref mq, .long wd, .int wS, .int wo, .int fw])), (mq, .inl (X.2.2.1, 576, .inr (.inl (SQ))))]) (r_V C (As := [.int (nI x)]) (rest := []) (kX3_behind l X mo mp ms mt mq sts wd wS wo fw SQ z x (by first | assumption | omega | decide) (by first | assumption | omega | decide)) (cwV 1 C.ts gX3_placeOf_X3_behind rfl rfl rfl (by decide +kernel) ⟨Nat.le_of_ble_eq_true rfl, Nat.le_of_ble_eq_true rfl⟩) (q0 := 0) rfl rfl [0, 1] (by decide) rfl rfl (Nat.le_of_ble_eq_true rfl) rfl dX3_placeOf_18 ⟨Nat.zero_le _, Nat.zero_le _⟩) [0, 1] [] [0, 1] rfl rfl (by decide) (by decide) (by decide) rfl ?_
          refine s_istore_n C (pc := 21) (ls' := [(3, .int (nI (bhN SQ z x))), (0, .ref mo), (2, .int lf)]) dX3_placeOf_21 rfl (by decide) rfl ?_
          refine s_iinc C (pc := 22) (v := lf + (-1)) (ls' := [(2, .int (lf + (-1))), (3, .int (nI (bhN SQ z x))), (0, .ref mo)]) dX3_placeOf_22 2 rfl rfl (by decide) rfl ?_
          refine s_goto C (pc := 25) (tgt := 4) dX3_placeOf_25 (by decide) ?_
          refine s_loc C (ls' := [(0, .ref mo), (2, .int (lf + (-1))), (3, .int (nI (bhN SQ z x)))]) [2, 0, 1] rfl ?_
          exact ih4 u1 (bhN SQ z x) (lf + -1) (bhN_lt SQ e9).2 (by have h7 := bhN_lt SQ e9; omega) (by rw [← hI]; exact (if_pos ⟨e9, Int32.not_le.mp c13⟩).symm) (by omega)
  refine s_loc C (ls' := [(0, .ref mo), (2, .int rk), (3, .int 0)]) [2, 1, 0] rfl ?_
  exact L4 (z + 2) (z + 1) 0 rk (Nat.zero_le _) (by omega) rfl (by omega)

set_option maxHeartbeats 4000000 in
set_option maxRecDepth 100000 in
theorem kX3_beatCount_bad (l : Launch) (X : XT) (mo mp ms mt mq : Nat) (sts al : Int32) (wd : Int64) (wS wo fw : Int32) (M : Nat → Int32) (n : Nat) (P Q : Nat → Int32) (o f ll : Int32) (i j : Int32) (hb : ¬ hpP n i j) (hM : MR M n P Q o f ll) (hn : n ≤ 4) : KI l yX3_beatCount wsX3_beatCount ({ frames := 3, cells := 0, slots := 0, locals := 65 }) X [.ref mo, .int i, .int j] [(mo, .inr (3, [.ref mp, .ref ms, .ref mt, .int sts, .int al, .ref mq, .long wd, .int wS, .int wo, .int fw])), (mp, .inl (X.2.1, 12, .inl (M)))] [(mo, .inr (3, [.ref mp, .ref ms, .ref mt, .int sts, .int al, .ref mq, .long wd, .int wS, .int wo, .int fw])), (mp, .inl (X.2.1, 12, .inl (M)))] (-1) := by
  refine k_ofI (cc := cX3_beatCount) (own := RX3) (maxL := 5) (ret := (some .int)) (ls0 := [(0, .ref mo), (1, .int i), (2, .int j)]) (by decide) rfl rfl (Nat.le_of_ble_eq_true rfl) rfl ?_
  intro p e s m args below meth c A g C hr hlk
  refine s_aload_n C (pc := 0) dX3_beatCount_0 rfl 0 rfl ?_
  refine s_iload_n C (pc := 1) dX3_beatCount_1 rfl 1 rfl ?_
  refine s_iload_n C (pc := 2) dX3_beatCount_2 rfl 2 rfl ?_
  refine s_calli C (pc := 3) (wr := []) (wc' := [(mo, .inr (3, [.ref mp, .ref ms, .ref mt, .int sts, .int al, .ref mq, .long wd, .int wS, .int wo, .int fw])), (mp, .inl (X.2.1, 12, .inl (M)))]) (wn := [(mo, .inr (3, [.ref mp, .ref ms, .ref mt, .int sts, .int al, .ref mq, .long wd, .int wS, .int wo, .int fw])), (mp, .inl (X.2.1, 12, .inl (M)))]) (r_V C (As := [.int i, .int j]) (rest := []) (kX3_isPair l X mo mp ms mt mq sts al wd wS wo fw M n P Q o f ll i j (by first | assumption | omega | decide) (by first | assumption | omega | decide)) (cwV 2 C.ts gX3_beatCount_X3_isPair rfl rfl rfl (by decide +kernel) ⟨Nat.le_of_ble_eq_true rfl, Nat.le_of_ble_eq_true rfl⟩) (q0 := 0) rfl rfl [0, 1] (by decide) rfl rfl (Nat.le_of_ble_eq_true rfl) rfl dX3_beatCount_3 ⟨Nat.zero_le _, Nat.zero_le _⟩) [0, 1] [] [0, 1] rfl rfl (by decide) (by decide) (by decide) rfl ?_
  refine s_bif_ne C (pc := 6) (tgt := 11) dX3_beatCount_6 (by decide) (fun h => absurd h (hb)) (fun c6 => ?_)
  refine s_iconst C (pc := 9) (v := (-1)) dX3_beatCount_9 (by decide) ?_
  exact s_iret C (pc := 10) hr hlk [0, 1] (by decide) (rfl) (rfl) dX3_beatCount_10

set_option maxHeartbeats 4000000 in
set_option maxRecDepth 100000 in
theorem kX3_beatCount_ok (l : Launch) (X : XT) (mo mp ms mt mq : Nat) (sts : Int32) (wd : Int64) (wS wo fw : Int32) (M : Nat → Int32) (n : Nat) (P Q : Nat → Int32) (w : Nat) (f ll : Int32) (SQ : Nat → Int64) (al : Int32) (i j : Nat) (hij : i < j) (hj : j < n) (hM : MR M n P Q (nI w) f ll) (hn : n ≤ 4) (hw : w = 1 ∨ w = 2) : KIx l yX3_beatCount wsX3_beatCount ({ frames := 5, cells := 0, slots := 0, locals := 128 }) X [.ref mo, .int (nI i), .int (nI j)] [(mo, .inr (3, [.ref mp, .ref ms, .ref mt, .int sts, .int al, .ref mq, .long wd, .int wS, .int wo, .int fw])), (mp, .inl (X.2.1, 12, .inl (M))), (mq, .inl (X.2.2.1, 576, .inr (.inl (SQ))))] (fun u : Int32 × Int64 × Int32 × Int32 × Int32 × (Nat → Int64) => [(mo, .inr (3, [.ref mp, .ref ms, .ref mt, .int sts, .int u.1, .ref mq, .long u.2.1, .int u.2.2.1, .int u.2.2.2.1, .int u.2.2.2.2.1])), (mp, .inl (X.2.1, 12, .inl (M))), (mq, .inl (X.2.2.1, 576, .inr (.inl (u.2.2.2.2.2))))]) (fun _ => True) (bmF (insA SQ 0 (laL P Q w i j)) (laL P Q w i j).length ((laL P Q w i j).length + 1) 0 0) := by
  have hz := (la_len (P := P) (Q := Q) (i := i) (j := j) hw).1
  refine k_ofIx (cc := cX3_beatCount) (own := RX3) (maxL := 5) (ret := (some .int)) (ls0 := [(0, .ref mo), (1, .int (nI i)), (2, .int (nI j))]) (by decide) rfl rfl (Nat.le_of_ble_eq_true rfl) rfl ?_
  intro p e s m args below meth c A g C hr hlk
  refine s_aload_n C (pc := 0) dX3_beatCount_0 rfl 0 rfl ?_
  refine s_iload_n C (pc := 1) dX3_beatCount_1 rfl 1 rfl ?_
  refine s_iload_n C (pc := 2) dX3_beatCount_2 rfl 2 rfl ?_
  refine s_calli C (pc := 3) (wr := [(mq, .inl (X.2.2.1, 576, .inr (.inl (SQ))))]) (wc' := [(mo, .inr (3, [.ref mp, .ref ms, .ref mt, .int sts, .int al, .ref mq, .long wd, .int wS, .int wo, .int fw])), (mp, .inl (X.2.1, 12, .inl (M)))]) (wn := [(mo, .inr (3, [.ref mp, .ref ms, .ref mt, .int sts, .int al, .ref mq, .long wd, .int wS, .int wo, .int fw])), (mp, .inl (X.2.1, 12, .inl (M))), (mq, .inl (X.2.2.1, 576, .inr (.inl (SQ))))]) (r_V C (As := [.int (nI i), .int (nI j)]) (rest := []) (kX3_isPair l X mo mp ms mt mq sts al wd wS wo fw M n P Q (nI w) f ll (nI i) (nI j) (by first | assumption | omega | decide) (by first | assumption | omega | decide)) (cwV 2 C.ts gX3_beatCount_X3_isPair rfl rfl rfl (by decide +kernel) ⟨Nat.le_of_ble_eq_true rfl, Nat.le_of_ble_eq_true rfl⟩) (q0 := 0) rfl rfl [0, 1] (by decide) rfl rfl (Nat.le_of_ble_eq_true rfl) rfl dX3_beatCount_3 ⟨Nat.zero_le _, Nat.zero_le _⟩) [0, 1] [2] [1, 2, 0] rfl rfl (by decide) (by decide) (by decide) rfl ?_
  refine s_bif_ne C (pc := 6) (tgt := 11) dX3_beatCount_6 (by decide) (fun c6 => ?_) (fun h => absurd (hp_of hij hj (by omega)) h)
  refine s_aload_n C (pc := 11) dX3_beatCount_11 rfl 0 rfl ?_
  refine s_iload_n C (pc := 12) dX3_beatCount_12 rfl 1 rfl ?_
  refine s_iload_n C (pc := 13) dX3_beatCount_13 rfl 2 rfl ?_
  refine s_callv C (pc := 14) (wr := []) (wc' := [(mo, .inr (3, [.ref mp, .ref ms, .ref mt, .int sts, .int (nI ((laL P Q w i j).length)), .ref mq, .long wd, .int wS, .int wo, .int fw])), (mp, .inl (X.2.1, 12, .inl (M))), (mq, .inl (X.2.2.1, 576, .inr (.inl (insA SQ 0 (laL P Q w i j)))))]) (wn := [(mo, .inr (3, [.ref mp, .ref ms, .ref mt, .int sts, .int (nI ((laL P Q w i j).length)), .ref mq, .long wd, .int wS, .int wo, .int fw])), (mp, .inl (X.2.1, 12, .inl (M))), (mq, .inl (X.2.2.1, 576, .inr (.inl (insA SQ 0 (laL P Q w i j)))))]) (r_V C (As := [.int (nI i), .int (nI j)]) (rest := []) (kX3_laySquares l X mo mp ms mt mq sts wd wS wo fw M n P Q w f ll SQ al i j (by first | assumption | omega | decide) (by first | assumption | omega | decide) (by first | assumption | omega | decide) (by first | assumption | omega | decide) (by first | assumption | omega | decide)) (cwV 2 C.ts gX3_beatCount_X3_laySquares rfl rfl rfl (by decide +kernel) ⟨Nat.le_of_ble_eq_true rfl, Nat.le_of_ble_eq_true rfl⟩) (q0 := 0) rfl rfl [0, 1, 2] (by decide) rfl rfl (Nat.le_of_ble_eq_true rfl) rfl dX3_beatCount_14 ⟨Nat.zero_le _, Nat.zero_le _⟩) [0, 1, 2] [] [0, 1, 2] rfl rfl (by decide) (by decide) (by decide) rfl ?_
  refine s_iconst C (pc := 17) (v := 0) dX3_beatCount_17 (by decide) ?_
  refine s_istore_n C (pc := 18) (ls' := [(3, .int 0), (0, .ref mo), (1, .int (nI i)), (2, .int (nI j))]) dX3_beatCount_18 rfl (by decide) rfl ?_
  refine s_iconst C (pc := 19) (v := 0) dX3_beatCount_19 (by decide) ?_
  refine s_istore C (pc := 20) (ls' := [(4, .int 0), (3, .int 0), (0, .ref mo), (1, .int (nI i)), (2, .int (nI j))]) dX3_beatCount_20 (by decide) rfl ?_
  have L22 : ∀ (n_ : Nat) (u x : Nat) (c9 : Int32), (x ≤ (laL P Q w i j).length) → ((laL P Q w i j).length - x < u) → (bmF (insA SQ 0 (laL P Q w i j)) (laL P Q w i j).length u x c9 = bmF (insA SQ 0 (laL P Q w i j)) (laL P Q w i j).length ((laL P Q w i j).length + 1) 0 0) → u < n_ → g [(mo, .inr (3, [.ref mp, .ref ms, .ref mt, .int sts, .int (nI (laL P Q w i j).length), .ref mq, .long wd, .int wS, .int wo, .int fw])), (mp, .inl (X.2.1, 12, .inl (M))), (mq, .inl (X.2.2.1, 576, .inr (.inl (insA SQ 0 (laL P Q w i j)))))] 22 [(0, .ref mo), (3, .int c9), (4, .int (nI x))] [] := by
    intro n_
    induction n_ with
    | zero =>
      intro u x c9 hx hu hI hf
      exact absurd hf (by omega)
    | succ n_ ih22 =>
      intro u x c9 hx hu hI hf22
      obtain ⟨u1, hu1⟩ : ∃ u1, u = u1 + 1 := ⟨u - 1, by omega⟩
      subst hu1
      refine s_iload C (pc := 22) dX3_beatCount_22 2 rfl ?_
      refine s_aload_n C (pc := 24) dX3_beatCount_24 rfl 0 rfl ?_
      refine s_get C (pc := 25) (T := TX3) (N := 10) (fun _ h => (List.mem_cons_of_mem _ (List.mem_append_right _ h))) 0 rfl rfl 4 (by decide) (List.mem_of_getElem? (i := 1) rfl) rfl rfl dX3_beatCount_25 ?_
      refine s_icmp_ge C (pc := 28) (tgt := 45) dX3_beatCount_28 (by decide) (fun c28 => ?_) (fun c28 => ?_)
      · skip
        have e28 := nat_le (a := ((laL P Q w i j).length)) (b := x) (by omega) (by omega) c28
        refine s_iload_n C (pc := 45) dX3_beatCount_45 rfl 1 rfl ?_
        exact s_iretX C (pc := 46) hr hlk ((nI (laL P Q w i j).length, wd, wS, wo, fw, insA SQ 0 (laL P Q w i j))) trivial [0, 1, 2] (by decide) (rfl) ((if_neg (by omega)).symm.trans hI) dX3_beatCount_46
      · skip
        have e28 := nat_nle (a := ((laL P Q w i j).length)) (b := x) (by omega) (by omega) c28
        refine s_iinc C (pc := 31) (v := c9 + 1) (ls' := [(3, .int (c9 + 1)), (0, .ref mo), (4, .int (nI x))]) dX3_beatCount_31 1 rfl rfl (by decide) rfl ?_
        refine s_aload_n C (pc := 34) dX3_beatCount_34 rfl 1 rfl ?_
        refine s_iload C (pc := 35) dX3_beatCount_35 2 rfl ?_
        refine s_calli C (pc := 37) (wr := [(mp, .inl (X.2.1, 12, .inl (M)))]) (wc' := [(mo, .inr (3, [.ref mp, .ref ms, .ref mt, .int sts, .int (nI ((laL P Q w i j).length)), .ref mq, .long wd, .int wS, .int wo, .int fw])), (mq, .inl (X.2.2.1, 576, .inr (.inl ((insA SQ 0 (laL P Q w i j))))))]) (wn := [(mo, .inr (3, [.ref mp, .ref ms, .ref mt, .int sts, .int (nI ((laL P Q w i j).length)), .ref mq, .long wd, .int wS, .int wo, .int fw])), (mp, .inl (X.2.1, 12, .inl (M))), (mq, .inl (X.2.2.1, 576, .inr (.inl ((insA SQ 0 (laL P Q w i j))))))]) (r_V C (As := [.int (nI x)]) (rest := []) (kX3_behind l X mo mp ms mt mq sts wd wS wo fw (insA SQ 0 (laL P Q w i j)) ((laL P Q w i j).length) x (by first | assumption | omega | decide) (by first | assumption | omega | decide)) (cwV 1 C.ts gX3_beatCount_X3_behind rfl rfl rfl (by decide +kernel) ⟨Nat.le_of_ble_eq_true rfl, Nat.le_of_ble_eq_true rfl⟩) (q0 := 0) rfl rfl [0, 2] (by decide) rfl rfl (Nat.le_of_ble_eq_true rfl) rfl dX3_beatCount_37 ⟨Nat.zero_le _, Nat.zero_le _⟩) [0, 2] [1] [1, 0, 2] rfl rfl (by decide) (by decide) (by decide) rfl ?_
        refine s_istore C (pc := 40) (ls' := [(4, .int (nI (bhN (insA SQ 0 (laL P Q w i j)) ((laL P Q w i j).length) x))), (3, .int (c9 + 1)), (0, .ref mo)]) dX3_beatCount_40 (by decide) rfl ?_
        refine s_goto C (pc := 42) (tgt := 22) dX3_beatCount_42 (by decide) ?_
        refine s_loc C (ls' := [(0, .ref mo), (3, .int (c9 + 1)), (4, .int (nI (bhN (insA SQ 0 (laL P Q w i j)) ((laL P Q w i j).length) x)))]) [2, 1, 0] rfl ?_
        exact ih22 u1 (bhN (insA SQ 0 (laL P Q w i j)) (laL P Q w i j).length x) (c9 + 1) (bhN_lt _ e28).2 (by have h7 := bhN_lt (insA SQ 0 (laL P Q w i j)) e28; omega) (by rw [← hI]; exact (if_pos e28).symm) (by omega)
  refine s_loc C (ls' := [(0, .ref mo), (3, .int 0), (4, .int 0)]) [2, 1, 0] rfl ?_
  exact L22 ((laL P Q w i j).length + 2) ((laL P Q w i j).length + 1) 0 0 (Nat.zero_le _) (by omega) rfl (by omega)

set_option maxHeartbeats 4000000 in
set_option maxRecDepth 100000 in
theorem kX3_beat_0 (l : Launch) (X : XT) (mo mp ms mt mq : Nat) (sts : Int32) (wd : Int64) (wS wo fw : Int32) (M : Nat → Int32) (n : Nat) (P Q : Nat → Int32) (w : Nat) (f ll : Int32) (SQ : Nat → Int64) (al : Int32) (i j : Nat) (rk : Int32) (hij : i < j) (hj : j < n) (hM : MR M n P Q (nI w) f ll) (hn : n ≤ 4) (hw : w = 1 ∨ w = 2) (hrk : 0 ≤ rk) (hB : btH (insA SQ 0 (laL P Q w i j)) (laL P Q w i j).length (bsL P Q i j)) : KLx l yX3_beat wsX3_beat ({ frames := 5, cells := 0, slots := 0, locals := 128 }) X [.ref mo, .int (nI i), .int (nI j), .int rk, .int 0] [(mo, .inr (3, [.ref mp, .ref ms, .ref mt, .int sts, .int al, .ref mq, .long wd, .int wS, .int wo, .int fw])), (mp, .inl (X.2.1, 12, .inl (M))), (mq, .inl (X.2.2.1, 576, .inr (.inl (SQ))))] (fun u : Int32 × Int64 × Int32 × Int32 × Int32 × (Nat → Int64) => [(mo, .inr (3, [.ref mp, .ref ms, .ref mt, .int sts, .int u.1, .ref mq, .long u.2.1, .int u.2.2.1, .int u.2.2.2.1, .int u.2.2.2.2.1])), (mp, .inl (X.2.1, 12, .inl (M))), (mq, .inl (X.2.2.1, 576, .inr (.inl (u.2.2.2.2.2))))]) (fun _ => True) (if plF (insA SQ 0 (laL P Q w i j)) (laL P Q w i j).length ((laL P Q w i j).length + 1) 0 rk = (laL P Q w i j).length then -4 else (insA SQ 0 (laL P Q w i j)) (plF (insA SQ 0 (laL P Q w i j)) (laL P Q w i j).length ((laL P Q w i j).length + 1) 0 rk) / gcM ((insA SQ 0 (laL P Q w i j)) (plF (insA SQ 0 (laL P Q w i j)) (laL P Q w i j).length ((laL P Q w i j).length + 1) 0 rk)) (bsL P Q i j)) := by
  refine k_ofLx (cc := cX3_beat) (own := RX3) (maxL := 10) (ret := (some .long)) (ls0 := [(0, .ref mo), (1, .int (nI i)), (2, .int (nI j)), (3, .int rk), (4, .int 0)]) (by decide) rfl rfl (Nat.le_of_ble_eq_true rfl) rfl ?_
  intro p e s m args below meth c A g C hr hlk
  refine s_aload_n C (pc := 0) dX3_beat_0 rfl 0 rfl ?_
  refine s_iload_n C (pc := 1) dX3_beat_1 rfl 1 rfl ?_
  refine s_iload_n C (pc := 2) dX3_beat_2 rfl 2 rfl ?_
  refine s_calli C (pc := 3) (wr := [(mq, .inl (X.2.2.1, 576, .inr (.inl (SQ))))]) (wc' := [(mo, .inr (3, [.ref mp, .ref ms, .ref mt, .int sts, .int al, .ref mq, .long wd, .int wS, .int wo, .int fw])), (mp, .inl (X.2.1, 12, .inl (M)))]) (wn := [(mo, .inr (3, [.ref mp, .ref ms, .ref mt, .int sts, .int al, .ref mq, .long wd, .int wS, .int wo, .int fw])), (mp, .inl (X.2.1, 12, .inl (M))), (mq, .inl (X.2.2.1, 576, .inr (.inl (SQ))))]) (r_V C (As := [.int (nI i), .int (nI j)]) (rest := []) (kX3_isPair l X mo mp ms mt mq sts al wd wS wo fw M n P Q (nI w) f ll (nI i) (nI j) (by first | assumption | omega | decide) (by first | assumption | omega | decide)) (cwV 2 C.ts gX3_beat_X3_isPair rfl rfl rfl (by decide +kernel) ⟨Nat.le_of_ble_eq_true rfl, Nat.le_of_ble_eq_true rfl⟩) (q0 := 0) rfl rfl [0, 1] (by decide) rfl rfl (Nat.le_of_ble_eq_true rfl) rfl dX3_beat_3 ⟨Nat.zero_le _, Nat.zero_le _⟩) [0, 1] [2] [1, 2, 0] rfl rfl (by decide) (by decide) (by decide) rfl ?_
  refine s_bif_eq C (pc := 6) (tgt := 13) dX3_beat_6 (by decide) (fun h => absurd (hp_of hij hj (by omega)) h) (fun c6 => ?_)
  refine s_iload_n C (pc := 9) dX3_beat_9 rfl 3 rfl ?_
  refine s_if_ge C (pc := 10) (tgt := 17) dX3_beat_10 (by decide) (fun c10 => ?_) (fun h => absurd (hrk) h)
  refine s_aload_n C (pc := 17) dX3_beat_17 rfl 0 rfl ?_
  refine s_iload_n C (pc := 18) dX3_beat_18 rfl 1 rfl ?_
  refine s_iload_n C (pc := 19) dX3_beat_19 rfl 2 rfl ?_
  refine s_callv C (pc := 20) (wr := []) (wc' := [(mo, .inr (3, [.ref mp, .ref ms, .ref mt, .int sts, .int (nI ((laL P Q w i j).length)), .ref mq, .long wd, .int wS, .int wo, .int fw])), (mp, .inl (X.2.1, 12, .inl (M))), (mq, .inl (X.2.2.1, 576, .inr (.inl (insA SQ 0 (laL P Q w i j)))))]) (wn := [(mo, .inr (3, [.ref mp, .ref ms, .ref mt, .int sts, .int (nI ((laL P Q w i j).length)), .ref mq, .long wd, .int wS, .int wo, .int fw])), (mp, .inl (X.2.1, 12, .inl (M))), (mq, .inl (X.2.2.1, 576, .inr (.inl (insA SQ 0 (laL P Q w i j)))))]) (r_V C (As := [.int (nI i), .int (nI j)]) (rest := []) (kX3_laySquares l X mo mp ms mt mq sts wd wS wo fw M n P Q w f ll SQ al i j (by first | assumption | omega | decide) (by first | assumption | omega | decide) (by first | assumption | omega | decide) (by first | assumption | omega | decide) (by first | assumption | omega | decide)) (cwV 2 C.ts gX3_beat_X3_laySquares rfl rfl rfl (by decide +kernel) ⟨Nat.le_of_ble_eq_true rfl, Nat.le_of_ble_eq_true rfl⟩) (q0 := 0) rfl rfl [0, 1, 2] (by decide) rfl rfl (Nat.le_of_ble_eq_true rfl) rfl dX3_beat_20 ⟨Nat.zero_le _, Nat.zero_le _⟩) [0, 1, 2] [] [0, 1, 2] rfl rfl (by decide) (by decide) (by decide) rfl ?_
  have hz := (la_len (P := P) (Q := Q) (i := i) (j := j) hw).1
  obtain ⟨a0, ha0⟩ : ∃ a0, a0 = plF (insA SQ 0 (laL P Q w i j)) (laL P Q w i j).length ((laL P Q w i j).length + 1) 0 rk := ⟨_, rfl⟩
  have ha1 : a0 ≤ (laL P Q w i j).length := by rw [ha0]; exact plF_le _ _ _ _ _ (Nat.zero_le _)
  refine s_aload_n C (pc := 23) dX3_beat_23 rfl 0 rfl ?_
  refine s_iload_n C (pc := 24) dX3_beat_24 rfl 3 rfl ?_
  refine s_calli C (pc := 25) (wr := [(mp, .inl (X.2.1, 12, .inl (M)))]) (wc' := [(mo, .inr (3, [.ref mp, .ref ms, .ref mt, .int sts, .int (nI ((laL P Q w i j).length)), .ref mq, .long wd, .int wS, .int wo, .int fw])), (mq, .inl (X.2.2.1, 576, .inr (.inl ((insA SQ 0 (laL P Q w i j))))))]) (wn := [(mo, .inr (3, [.ref mp, .ref ms, .ref mt, .int sts, .int (nI ((laL P Q w i j).length)), .ref mq, .long wd, .int wS, .int wo, .int fw])), (mp, .inl (X.2.1, 12, .inl (M))), (mq, .inl (X.2.2.1, 576, .inr (.inl ((insA SQ 0 (laL P Q w i j))))))]) (r_V C (As := [.int rk]) (rest := []) (kX3_placeOf l X mo mp ms mt mq sts wd wS wo fw (insA SQ 0 (laL P Q w i j)) ((laL P Q w i j).length) rk (by first | assumption | omega | decide)) (cwV 1 C.ts gX3_beat_X3_placeOf rfl rfl rfl (by decide +kernel) ⟨Nat.le_of_ble_eq_true rfl, Nat.le_of_ble_eq_true rfl⟩) (q0 := 0) rfl rfl [0, 2] (by decide) rfl rfl (Nat.le_of_ble_eq_true rfl) rfl dX3_beat_25 ⟨Nat.zero_le _, Nat.zero_le _⟩) [0, 2] [1] [1, 0, 2] rfl rfl (by decide) (by decide) (by decide) rfl ?_
  refine s_top C (y := nI a0) (by rw [ha0]) ?_
  refine s_istore C (pc := 28) (ls' := [(5, .int (nI a0)), (0, .ref mo), (1, .int (nI i)), (2, .int (nI j)), (3, .int rk), (4, .int 0)]) dX3_beat_28 (by decide) rfl ?_
  refine s_iload C (pc := 30) dX3_beat_30 0 rfl ?_
  refine s_aload_n C (pc := 32) dX3_beat_32 rfl 1 rfl ?_
  refine s_get C (pc := 33) (T := TX3) (N := 10) (fun _ h => (List.mem_cons_of_mem _ (List.mem_append_right _ h))) 0 rfl rfl 4 (by decide) (List.mem_of_getElem? (i := 2) rfl) rfl rfl dX3_beat_33 ?_
  refine s_icmp_ne C (pc := 36) (tgt := 43) dX3_beat_36 (by decide) (fun c36 => ?_) (fun c36 => ?_)
  · skip
    have e36 := nat_ne (a := a0) (b := ((laL P Q w i j).length)) (by omega) (by omega) c36
    have e37 : a0 < (laL P Q w i j).length := by omega
    refine s_aload_n C (pc := 43) dX3_beat_43 rfl 1 rfl ?_
    refine s_iload_n C (pc := 44) dX3_beat_44 rfl 2 rfl ?_
    refine s_iload_n C (pc := 45) dX3_beat_45 rfl 3 rfl ?_
    refine s_calll C (pc := 46) (wr := [(mq, .inl (X.2.2.1, 576, .inr (.inl ((insA SQ 0 (laL P Q w i j))))))]) (wc' := [(mo, .inr (3, [.ref mp, .ref ms, .ref mt, .int sts, .int (nI ((laL P Q w i j).length)), .ref mq, .long wd, .int wS, .int wo, .int fw])), (mp, .inl (X.2.1, 12, .inl (M)))]) (wn := [(mo, .inr (3, [.ref mp, .ref ms, .ref mt, .int sts, .int (nI ((laL P Q w i j).length)), .ref mq, .long wd, .int wS, .int wo, .int fw])), (mp, .inl (X.2.1, 12, .inl (M))), (mq, .inl (X.2.2.1, 576, .inr (.inl ((insA SQ 0 (laL P Q w i j))))))]) (r_V C (As := [.int (nI i), .int (nI j)]) (rest := []) (kX3_pairBase l X mo mp ms mt mq sts (nI ((laL P Q w i j).length)) wd wS wo fw M n P Q (nI w) f ll i j (by first | assumption | omega | decide) (by first | assumption | omega | decide) (by first | assumption | omega | decide) (by first | assumption | omega | decide)) (cwV 2 C.ts gX3_beat_X3_pairBase rfl rfl rfl (by decide +kernel) ⟨Nat.le_of_ble_eq_true rfl, Nat.le_of_ble_eq_true rfl⟩) (q0 := 0) rfl rfl [0, 1] (by decide) rfl rfl (Nat.le_of_ble_eq_true rfl) rfl dX3_beat_46 ⟨Nat.zero_le _, Nat.zero_le _⟩) [0, 1] [2] [1, 2, 0] rfl rfl (by decide) (by decide) (by decide) rfl ?_
    refine s_lstore C (pc := 49) (ls' := [(6, .long (bsL P Q i j)), (5, .int (nI a0)), (0, .ref mo), (1, .int (nI i)), (2, .int (nI j)), (3, .int rk), (4, .int 0)]) dX3_beat_49 (by decide) rfl ?_
    refine s_aload_n C (pc := 51) dX3_beat_51 rfl 2 rfl ?_
    refine s_get C (pc := 52) (T := TX3) (N := 10) (fun _ h => (List.mem_cons_of_mem _ (List.mem_append_right _ h))) 0 rfl rfl 5 (by decide) (List.mem_of_getElem? (i := 4) rfl) rfl rfl dX3_beat_52 ?_
    refine s_iload C (pc := 55) dX3_beat_55 1 rfl ?_
    refine s_lald C (pc := 57) 2 rfl a0 rfl (by omega) (by decide) dX3_beat_57 ?_
    refine s_lload C (pc := 58) dX3_beat_58 0 rfl ?_
    refine s_calll C (pc := 60) (wr := [(mo, .inr (3, [.ref mp, .ref ms, .ref mt, .int sts, .int (nI ((laL P Q w i j).length)), .ref mq, .long wd, .int wS, .int wo, .int fw])), (mp, .inl (X.2.1, 12, .inl (M))), (mq, .inl (X.2.2.1, 576, .inr (.inl ((insA SQ 0 (laL P Q w i j))))))]) (wc' := []) (wn := [(mo, .inr (3, [.ref mp, .ref ms, .ref mt, .int sts, .int (nI ((laL P Q w i j).length)), .ref mq, .long wd, .int wS, .int wo, .int fw])), (mp, .inl (X.2.1, 12, .inl (M))), (mq, .inl (X.2.2.1, 576, .inr (.inl ((insA SQ 0 (laL P Q w i j))))))]) (r_S C (As := [.long ((insA SQ 0 (laL P Q w i j)) a0), .long (bsL P Q i j)]) (rest := []) (kX3_common l X ((insA SQ 0 (laL P Q w i j)) a0) (bsL P Q i j) (hB.2 a0 e37).1 hB.1) (va_cwS 2 C.ts gX3_beat_X3_common rfl rfl rfl (by decide +kernel) ⟨Nat.le_of_ble_eq_true rfl, Nat.le_of_ble_eq_true rfl⟩) [] (by decide) rfl rfl (Nat.le_of_ble_eq_true rfl) rfl dX3_beat_60 ⟨Nat.zero_le _, Nat.zero_le _⟩) [] [0, 1, 2] [0, 1, 2] rfl rfl (by decide) (by decide) (by decide) rfl ?_
    refine s_lstore C (pc := 63) (ls' := [(8, .long (gcM ((insA SQ 0 (laL P Q w i j)) a0) (bsL P Q i j))), (6, .long (bsL P Q i j)), (5, .int (nI a0)), (0, .ref mo), (1, .int (nI i)), (2, .int (nI j)), (3, .int rk), (4, .int 0)]) dX3_beat_63 (by decide) rfl ?_
    refine s_iload C (pc := 65) dX3_beat_65 7 rfl ?_
    refine s_iconst C (pc := 67) (v := 2) dX3_beat_67 (by decide) ?_
    refine s_icmp_ge C (pc := 68) (tgt := 95) dX3_beat_68 (by decide) (fun h => absurd h (by decide)) (fun c68 => ?_)
    refine s_iload C (pc := 71) dX3_beat_71 7 rfl ?_
    refine s_if_ne C (pc := 73) (tgt := 89) dX3_beat_73 (by decide) (fun h => absurd (by decide) h) (fun c73 => ?_)
    refine s_aload_n C (pc := 76) dX3_beat_76 rfl 3 rfl ?_
    refine s_get C (pc := 77) (T := TX3) (N := 10) (fun _ h => (List.mem_cons_of_mem _ (List.mem_append_right _ h))) 0 rfl rfl 5 (by decide) (List.mem_of_getElem? (i := 4) rfl) rfl rfl dX3_beat_77 ?_
    refine s_iload C (pc := 80) dX3_beat_80 2 rfl ?_
    refine s_lald C (pc := 82) 2 rfl a0 rfl (by omega) (by decide) dX3_beat_82 ?_
    refine s_lload C (pc := 83) dX3_beat_83 0 rfl ?_
    refine s_ldiv C (pc := 85) dX3_beat_85 (hB.2 a0 e37).2.1 ?_
    refine s_goto C (pc := 86) (tgt := 94) dX3_beat_86 (by decide) ?_
    exact s_lretX C (pc := 94) hr hlk ((nI ((laL P Q w i j).length), wd, wS, wo, fw, insA SQ 0 (laL P Q w i j))) trivial [0, 1, 2] (by decide) (rfl) (((if_neg (fun hh => absurd (ha0.trans hh) (by omega))).trans (by rw [← ha0])).symm) dX3_beat_94
  · skip
    have e36 := nat_eq (a := a0) (b := ((laL P Q w i j).length)) (by omega) (by omega) c36
    have e37 : a0 = (laL P Q w i j).length := by omega
    refine s_ldc2 C (pc := 39) (v := (-4)) (List.mem_of_getElem? (i := 3) rfl) dX3_beat_39 ?_
    exact s_lretX C (pc := 42) hr hlk ((nI ((laL P Q w i j).length), wd, wS, wo, fw, insA SQ 0 (laL P Q w i j))) trivial [0, 1, 2] (by decide) (rfl) ((if_pos (ha0.symm.trans e37)).symm) dX3_beat_42

set_option maxHeartbeats 4000000 in
set_option maxRecDepth 100000 in
theorem kX3_beat_1 (l : Launch) (X : XT) (mo mp ms mt mq : Nat) (sts : Int32) (wd : Int64) (wS wo fw : Int32) (M : Nat → Int32) (n : Nat) (P Q : Nat → Int32) (w : Nat) (f ll : Int32) (SQ : Nat → Int64) (al : Int32) (i j : Nat) (rk : Int32) (hij : i < j) (hj : j < n) (hM : MR M n P Q (nI w) f ll) (hn : n ≤ 4) (hw : w = 1 ∨ w = 2) (hrk : 0 ≤ rk) (hB : btH (insA SQ 0 (laL P Q w i j)) (laL P Q w i j).length (bsL P Q i j)) : KLx l yX3_beat wsX3_beat ({ frames := 5, cells := 0, slots := 0, locals := 128 }) X [.ref mo, .int (nI i), .int (nI j), .int rk, .int 1] [(mo, .inr (3, [.ref mp, .ref ms, .ref mt, .int sts, .int al, .ref mq, .long wd, .int wS, .int wo, .int fw])), (mp, .inl (X.2.1, 12, .inl (M))), (mq, .inl (X.2.2.1, 576, .inr (.inl (SQ))))] (fun u : Int32 × Int64 × Int32 × Int32 × Int32 × (Nat → Int64) => [(mo, .inr (3, [.ref mp, .ref ms, .ref mt, .int sts, .int u.1, .ref mq, .long u.2.1, .int u.2.2.1, .int u.2.2.2.1, .int u.2.2.2.2.1])), (mp, .inl (X.2.1, 12, .inl (M))), (mq, .inl (X.2.2.1, 576, .inr (.inl (u.2.2.2.2.2))))]) (fun _ => True) (if plF (insA SQ 0 (laL P Q w i j)) (laL P Q w i j).length ((laL P Q w i j).length + 1) 0 rk = (laL P Q w i j).length then -4 else bsL P Q i j / gcM ((insA SQ 0 (laL P Q w i j)) (plF (insA SQ 0 (laL P Q w i j)) (laL P Q w i j).length ((laL P Q w i j).length + 1) 0 rk)) (bsL P Q i j)) := by
  refine k_ofLx (cc := cX3_beat) (own := RX3) (maxL := 10) (ret := (some .long)) (ls0 := [(0, .ref mo), (1, .int (nI i)), (2, .int (nI j)), (3, .int rk), (4, .int 1)]) (by decide) rfl rfl (Nat.le_of_ble_eq_true rfl) rfl ?_
  intro p e s m args below meth c A g C hr hlk
  refine s_aload_n C (pc := 0) dX3_beat_0 rfl 0 rfl ?_
  refine s_iload_n C (pc := 1) dX3_beat_1 rfl 1 rfl ?_
  refine s_iload_n C (pc := 2) dX3_beat_2 rfl 2 rfl ?_
  refine s_calli C (pc := 3) (wr := [(mq, .inl (X.2.2.1, 576, .inr (.inl (SQ))))]) (wc' := [(mo, .inr (3, [.ref mp, .ref ms, .ref mt, .int sts, .int al, .ref mq, .long wd, .int wS, .int wo, .int fw])), (mp, .inl (X.2.1, 12, .inl (M)))]) (wn := [(mo, .inr (3, [.ref mp, .ref ms, .ref mt, .int sts, .int al, .ref mq, .long wd, .int wS, .int wo, .int fw])), (mp, .inl (X.2.1, 12, .inl (M))), (mq, .inl (X.2.2.1, 576, .inr (.inl (SQ))))]) (r_V C (As := [.int (nI i), .int (nI j)]) (rest := []) (kX3_isPair l X mo mp ms mt mq sts al wd wS wo fw M n P Q (nI w) f ll (nI i) (nI j) (by first | assumption | omega | decide) (by first | assumption | omega | decide)) (cwV 2 C.ts gX3_beat_X3_isPair rfl rfl rfl (by decide +kernel) ⟨Nat.le_of_ble_eq_true rfl, Nat.le_of_ble_eq_true rfl⟩) (q0 := 0) rfl rfl [0, 1] (by decide) rfl rfl (Nat.le_of_ble_eq_true rfl) rfl dX3_beat_3 ⟨Nat.zero_le _, Nat.zero_le _⟩) [0, 1] [2] [1, 2, 0] rfl rfl (by decide) (by decide) (by decide) rfl ?_
  refine s_bif_eq C (pc := 6) (tgt := 13) dX3_beat_6 (by decide) (fun h => absurd (hp_of hij hj (by omega)) h) (fun c6 => ?_)
  refine s_iload_n C (pc := 9) dX3_beat_9 rfl 3 rfl ?_
  refine s_if_ge C (pc := 10) (tgt := 17) dX3_beat_10 (by decide) (fun c10 => ?_) (fun h => absurd (hrk) h)
  refine s_aload_n C (pc := 17) dX3_beat_17 rfl 0 rfl ?_
  refine s_iload_n C (pc := 18) dX3_beat_18 rfl 1 rfl ?_
  refine s_iload_n C (pc := 19) dX3_beat_19 rfl 2 rfl ?_
  refine s_callv C (pc := 20) (wr := []) (wc' := [(mo, .inr (3, [.ref mp, .ref ms, .ref mt, .int sts, .int (nI ((laL P Q w i j).length)), .ref mq, .long wd, .int wS, .int wo, .int fw])), (mp, .inl (X.2.1, 12, .inl (M))), (mq, .inl (X.2.2.1, 576, .inr (.inl (insA SQ 0 (laL P Q w i j)))))]) (wn := [(mo, .inr (3, [.ref mp, .ref ms, .ref mt, .int sts, .int (nI ((laL P Q w i j).length)), .ref mq, .long wd, .int wS, .int wo, .int fw])), (mp, .inl (X.2.1, 12, .inl (M))), (mq, .inl (X.2.2.1, 576, .inr (.inl (insA SQ 0 (laL P Q w i j)))))]) (r_V C (As := [.int (nI i), .int (nI j)]) (rest := []) (kX3_laySquares l X mo mp ms mt mq sts wd wS wo fw M n P Q w f ll SQ al i j (by first | assumption | omega | decide) (by first | assumption | omega | decide) (by first | assumption | omega | decide) (by first | assumption | omega | decide) (by first | assumption | omega | decide)) (cwV 2 C.ts gX3_beat_X3_laySquares rfl rfl rfl (by decide +kernel) ⟨Nat.le_of_ble_eq_true rfl, Nat.le_of_ble_eq_true rfl⟩) (q0 := 0) rfl rfl [0, 1, 2] (by decide) rfl rfl (Nat.le_of_ble_eq_true rfl) rfl dX3_beat_20 ⟨Nat.zero_le _, Nat.zero_le _⟩) [0, 1, 2] [] [0, 1, 2] rfl rfl (by decide) (by decide) (by decide) rfl ?_
  have hz := (la_len (P := P) (Q := Q) (i := i) (j := j) hw).1
  obtain ⟨a0, ha0⟩ : ∃ a0, a0 = plF (insA SQ 0 (laL P Q w i j)) (laL P Q w i j).length ((laL P Q w i j).length + 1) 0 rk := ⟨_, rfl⟩
  have ha1 : a0 ≤ (laL P Q w i j).length := by rw [ha0]; exact plF_le _ _ _ _ _ (Nat.zero_le _)
  refine s_aload_n C (pc := 23) dX3_beat_23 rfl 0 rfl ?_
  refine s_iload_n C (pc := 24) dX3_beat_24 rfl 3 rfl ?_
  refine s_calli C (pc := 25) (wr := [(mp, .inl (X.2.1, 12, .inl (M)))]) (wc' := [(mo, .inr (3, [.ref mp, .ref ms, .ref mt, .int sts, .int (nI ((laL P Q w i j).length)), .ref mq, .long wd, .int wS, .int wo, .int fw])), (mq, .inl (X.2.2.1, 576, .inr (.inl ((insA SQ 0 (laL P Q w i j))))))]) (wn := [(mo, .inr (3, [.ref mp, .ref ms, .ref mt, .int sts, .int (nI ((laL P Q w i j).length)), .ref mq, .long wd, .int wS, .int wo, .int fw])), (mp, .inl (X.2.1, 12, .inl (M))), (mq, .inl (X.2.2.1, 576, .inr (.inl ((insA SQ 0 (laL P Q w i j))))))]) (r_V C (As := [.int rk]) (rest := []) (kX3_placeOf l X mo mp ms mt mq sts wd wS wo fw (insA SQ 0 (laL P Q w i j)) ((laL P Q w i j).length) rk (by first | assumption | omega | decide)) (cwV 1 C.ts gX3_beat_X3_placeOf rfl rfl rfl (by decide +kernel) ⟨Nat.le_of_ble_eq_true rfl, Nat.le_of_ble_eq_true rfl⟩) (q0 := 0) rfl rfl [0, 2] (by decide) rfl rfl (Nat.le_of_ble_eq_true rfl) rfl dX3_beat_25 ⟨Nat.zero_le _, Nat.zero_le _⟩) [0, 2] [1] [1, 0, 2] rfl rfl (by decide) (by decide) (by decide) rfl ?_
  refine s_top C (y := nI a0) (by rw [ha0]) ?_
  refine s_istore C (pc := 28) (ls' := [(5, .int (nI a0)), (0, .ref mo), (1, .int (nI i)), (2, .int (nI j)), (3, .int rk), (4, .int 1)]) dX3_beat_28 (by decide) rfl ?_
  refine s_iload C (pc := 30) dX3_beat_30 0 rfl ?_
  refine s_aload_n C (pc := 32) dX3_beat_32 rfl 1 rfl ?_
  refine s_get C (pc := 33) (T := TX3) (N := 10) (fun _ h => (List.mem_cons_of_mem _ (List.mem_append_right _ h))) 0 rfl rfl 4 (by decide) (List.mem_of_getElem? (i := 2) rfl) rfl rfl dX3_beat_33 ?_
  refine s_icmp_ne C (pc := 36) (tgt := 43) dX3_beat_36 (by decide) (fun c36 => ?_) (fun c36 => ?_)
  · skip
    have e36 := nat_ne (a := a0) (b := ((laL P Q w i j).length)) (by omega) (by omega) c36
    have e37 : a0 < (laL P Q w i j).length := by omega
    refine s_aload_n C (pc := 43) dX3_beat_43 rfl 1 rfl ?_
    refine s_iload_n C (pc := 44) dX3_beat_44 rfl 2 rfl ?_
    refine s_iload_n C (pc := 45) dX3_beat_45 rfl 3 rfl ?_
    refine s_calll C (pc := 46) (wr := [(mq, .inl (X.2.2.1, 576, .inr (.inl ((insA SQ 0 (laL P Q w i j))))))]) (wc' := [(mo, .inr (3, [.ref mp, .ref ms, .ref mt, .int sts, .int (nI ((laL P Q w i j).length)), .ref mq, .long wd, .int wS, .int wo, .int fw])), (mp, .inl (X.2.1, 12, .inl (M)))]) (wn := [(mo, .inr (3, [.ref mp, .ref ms, .ref mt, .int sts, .int (nI ((laL P Q w i j).length)), .ref mq, .long wd, .int wS, .int wo, .int fw])), (mp, .inl (X.2.1, 12, .inl (M))), (mq, .inl (X.2.2.1, 576, .inr (.inl ((insA SQ 0 (laL P Q w i j))))))]) (r_V C (As := [.int (nI i), .int (nI j)]) (rest := []) (kX3_pairBase l X mo mp ms mt mq sts (nI ((laL P Q w i j).length)) wd wS wo fw M n P Q (nI w) f ll i j (by first | assumption | omega | decide) (by first | assumption | omega | decide) (by first | assumption | omega | decide) (by first | assumption | omega | decide)) (cwV 2 C.ts gX3_beat_X3_pairBase rfl rfl rfl (by decide +kernel) ⟨Nat.le_of_ble_eq_true rfl, Nat.le_of_ble_eq_true rfl⟩) (q0 := 0) rfl rfl [0, 1] (by decide) rfl rfl (Nat.le_of_ble_eq_true rfl) rfl dX3_beat_46 ⟨Nat.zero_le _, Nat.zero_le _⟩) [0, 1] [2] [1, 2, 0] rfl rfl (by decide) (by decide) (by decide) rfl ?_
    refine s_lstore C (pc := 49) (ls' := [(6, .long (bsL P Q i j)), (5, .int (nI a0)), (0, .ref mo), (1, .int (nI i)), (2, .int (nI j)), (3, .int rk), (4, .int 1)]) dX3_beat_49 (by decide) rfl ?_
    refine s_aload_n C (pc := 51) dX3_beat_51 rfl 2 rfl ?_
    refine s_get C (pc := 52) (T := TX3) (N := 10) (fun _ h => (List.mem_cons_of_mem _ (List.mem_append_right _ h))) 0 rfl rfl 5 (by decide) (List.mem_of_getElem? (i := 4) rfl) rfl rfl dX3_beat_52 ?_
    refine s_iload C (pc := 55) dX3_beat_55 1 rfl ?_
    refine s_lald C (pc := 57) 2 rfl a0 rfl (by omega) (by decide) dX3_beat_57 ?_
    refine s_lload C (pc := 58) dX3_beat_58 0 rfl ?_
    refine s_calll C (pc := 60) (wr := [(mo, .inr (3, [.ref mp, .ref ms, .ref mt, .int sts, .int (nI ((laL P Q w i j).length)), .ref mq, .long wd, .int wS, .int wo, .int fw])), (mp, .inl (X.2.1, 12, .inl (M))), (mq, .inl (X.2.2.1, 576, .inr (.inl ((insA SQ 0 (laL P Q w i j))))))]) (wc' := []) (wn := [(mo, .inr (3, [.ref mp, .ref ms, .ref mt, .int sts, .int (nI ((laL P Q w i j).length)), .ref mq, .long wd, .int wS, .int wo, .int fw])), (mp, .inl (X.2.1, 12, .inl (M))), (mq, .inl (X.2.2.1, 576, .inr (.inl ((insA SQ 0 (laL P Q w i j))))))]) (r_S C (As := [.long ((insA SQ 0 (laL P Q w i j)) a0), .long (bsL P Q i j)]) (rest := []) (kX3_common l X ((insA SQ 0 (laL P Q w i j)) a0) (bsL P Q i j) (hB.2 a0 e37).1 hB.1) (va_cwS 2 C.ts gX3_beat_X3_common rfl rfl rfl (by decide +kernel) ⟨Nat.le_of_ble_eq_true rfl, Nat.le_of_ble_eq_true rfl⟩) [] (by decide) rfl rfl (Nat.le_of_ble_eq_true rfl) rfl dX3_beat_60 ⟨Nat.zero_le _, Nat.zero_le _⟩) [] [0, 1, 2] [0, 1, 2] rfl rfl (by decide) (by decide) (by decide) rfl ?_
    refine s_lstore C (pc := 63) (ls' := [(8, .long (gcM ((insA SQ 0 (laL P Q w i j)) a0) (bsL P Q i j))), (6, .long (bsL P Q i j)), (5, .int (nI a0)), (0, .ref mo), (1, .int (nI i)), (2, .int (nI j)), (3, .int rk), (4, .int 1)]) dX3_beat_63 (by decide) rfl ?_
    refine s_iload C (pc := 65) dX3_beat_65 7 rfl ?_
    refine s_iconst C (pc := 67) (v := 2) dX3_beat_67 (by decide) ?_
    refine s_icmp_ge C (pc := 68) (tgt := 95) dX3_beat_68 (by decide) (fun h => absurd h (by decide)) (fun c68 => ?_)
    refine s_iload C (pc := 71) dX3_beat_71 7 rfl ?_
    refine s_if_ne C (pc := 73) (tgt := 89) dX3_beat_73 (by decide) (fun c73 => ?_) (fun h => absurd h (by decide))
    refine s_lload C (pc := 89) dX3_beat_89 1 rfl ?_
    refine s_lload C (pc := 91) dX3_beat_91 0 rfl ?_
    refine s_ldiv C (pc := 93) dX3_beat_93 (hB.2 a0 e37).2.1 ?_
    exact s_lretX C (pc := 94) hr hlk ((nI ((laL P Q w i j).length), wd, wS, wo, fw, insA SQ 0 (laL P Q w i j))) trivial [0, 1, 2] (by decide) (rfl) (((if_neg (fun hh => absurd (ha0.trans hh) (by omega))).trans (by rw [← ha0])).symm) dX3_beat_94
  · skip
    have e36 := nat_eq (a := a0) (b := ((laL P Q w i j).length)) (by omega) (by omega) c36
    have e37 : a0 = (laL P Q w i j).length := by omega
    refine s_ldc2 C (pc := 39) (v := (-4)) (List.mem_of_getElem? (i := 3) rfl) dX3_beat_39 ?_
    exact s_lretX C (pc := 42) hr hlk ((nI ((laL P Q w i j).length), wd, wS, wo, fw, insA SQ 0 (laL P Q w i j))) trivial [0, 1, 2] (by decide) (rfl) ((if_pos (ha0.symm.trans e37)).symm) dX3_beat_42

set_option maxHeartbeats 4000000 in
set_option maxRecDepth 100000 in
theorem kX3_beat_2 (l : Launch) (X : XT) (mo mp ms mt mq : Nat) (sts : Int32) (wd : Int64) (wS wo fw : Int32) (M : Nat → Int32) (n : Nat) (P Q : Nat → Int32) (w : Nat) (f ll : Int32) (SQ : Nat → Int64) (al : Int32) (i j : Nat) (rk : Int32) (hij : i < j) (hj : j < n) (hM : MR M n P Q (nI w) f ll) (hn : n ≤ 4) (hw : w = 1 ∨ w = 2) (hrk : 0 ≤ rk) (hB : btH (insA SQ 0 (laL P Q w i j)) (laL P Q w i j).length (bsL P Q i j)) : KLx l yX3_beat wsX3_beat ({ frames := 5, cells := 0, slots := 0, locals := 128 }) X [.ref mo, .int (nI i), .int (nI j), .int rk, .int 2] [(mo, .inr (3, [.ref mp, .ref ms, .ref mt, .int sts, .int al, .ref mq, .long wd, .int wS, .int wo, .int fw])), (mp, .inl (X.2.1, 12, .inl (M))), (mq, .inl (X.2.2.1, 576, .inr (.inl (SQ))))] (fun u : Int32 × Int64 × Int32 × Int32 × Int32 × (Nat → Int64) => [(mo, .inr (3, [.ref mp, .ref ms, .ref mt, .int sts, .int u.1, .ref mq, .long u.2.1, .int u.2.2.1, .int u.2.2.2.1, .int u.2.2.2.2.1])), (mp, .inl (X.2.1, 12, .inl (M))), (mq, .inl (X.2.2.1, 576, .inr (.inl (u.2.2.2.2.2))))]) (fun _ => True) (if plF (insA SQ 0 (laL P Q w i j)) (laL P Q w i j).length ((laL P Q w i j).length + 1) 0 rk = (laL P Q w i j).length then -4 else (nI (bhN (insA SQ 0 (laL P Q w i j)) (laL P Q w i j).length (plF (insA SQ 0 (laL P Q w i j)) (laL P Q w i j).length ((laL P Q w i j).length + 1) 0 rk)) - nI (plF (insA SQ 0 (laL P Q w i j)) (laL P Q w i j).length ((laL P Q w i j).length + 1) 0 rk)).toInt64) := by
  refine k_ofLx (cc := cX3_beat) (own := RX3) (maxL := 10) (ret := (some .long)) (ls0 := [(0, .ref mo), (1, .int (nI i)), (2, .int (nI j)), (3, .int rk), (4, .int 2)]) (by decide) rfl rfl (Nat.le_of_ble_eq_true rfl) rfl ?_
  intro p e s m args below meth c A g C hr hlk
  refine s_aload_n C (pc := 0) dX3_beat_0 rfl 0 rfl ?_
  refine s_iload_n C (pc := 1) dX3_beat_1 rfl 1 rfl ?_
  refine s_iload_n C (pc := 2) dX3_beat_2 rfl 2 rfl ?_
  refine s_calli C (pc := 3) (wr := [(mq, .inl (X.2.2.1, 576, .inr (.inl (SQ))))]) (wc' := [(mo, .inr (3, [.ref mp, .ref ms, .ref mt, .int sts, .int al, .ref mq, .long wd, .int wS, .int wo, .int fw])), (mp, .inl (X.2.1, 12, .inl (M)))]) (wn := [(mo, .inr (3, [.ref mp, .ref ms, .ref mt, .int sts, .int al, .ref mq, .long wd, .int wS, .int wo, .int fw])), (mp, .inl (X.2.1, 12, .inl (M))), (mq, .inl (X.2.2.1, 576, .inr (.inl (SQ))))]) (r_V C (As := [.int (nI i), .int (nI j)]) (rest := []) (kX3_isPair l X mo mp ms mt mq sts al wd wS wo fw M n P Q (nI w) f ll (nI i) (nI j) (by first | assumption | omega | decide) (by first | assumption | omega | decide)) (cwV 2 C.ts gX3_beat_X3_isPair rfl rfl rfl (by decide +kernel) ⟨Nat.le_of_ble_eq_true rfl, Nat.le_of_ble_eq_true rfl⟩) (q0 := 0) rfl rfl [0, 1] (by decide) rfl rfl (Nat.le_of_ble_eq_true rfl) rfl dX3_beat_3 ⟨Nat.zero_le _, Nat.zero_le _⟩) [0, 1] [2] [1, 2, 0] rfl rfl (by decide) (by decide) (by decide) rfl ?_
  refine s_bif_eq C (pc := 6) (tgt := 13) dX3_beat_6 (by decide) (fun h => absurd (hp_of hij hj (by omega)) h) (fun c6 => ?_)
  refine s_iload_n C (pc := 9) dX3_beat_9 rfl 3 rfl ?_
  refine s_if_ge C (pc := 10) (tgt := 17) dX3_beat_10 (by decide) (fun c10 => ?_) (fun h => absurd (hrk) h)
  refine s_aload_n C (pc := 17) dX3_beat_17 rfl 0 rfl ?_
  refine s_iload_n C (pc := 18) dX3_beat_18 rfl 1 rfl ?_
  refine s_iload_n C (pc := 19) dX3_beat_19 rfl 2 rfl ?_
  refine s_callv C (pc := 20) (wr := []) (wc' := [(mo, .inr (3, [.ref mp, .ref ms, .ref mt, .int sts, .int (nI ((laL P Q w i j).length)), .ref mq, .long wd, .int wS, .int wo, .int fw])), (mp, .inl (X.2.1, 12, .inl (M))), (mq, .inl (X.2.2.1, 576, .inr (.inl (insA SQ 0 (laL P Q w i j)))))]) (wn := [(mo, .inr (3, [.ref mp, .ref ms, .ref mt, .int sts, .int (nI ((laL P Q w i j).length)), .ref mq, .long wd, .int wS, .int wo, .int fw])), (mp, .inl (X.2.1, 12, .inl (M))), (mq, .inl (X.2.2.1, 576, .inr (.inl (insA SQ 0 (laL P Q w i j)))))]) (r_V C (As := [.int (nI i), .int (nI j)]) (rest := []) (kX3_laySquares l X mo mp ms mt mq sts wd wS wo fw M n P Q w f ll SQ al i j (by first | assumption | omega | decide) (by first | assumption | omega | decide) (by first | assumption | omega | decide) (by first | assumption | omega | decide) (by first | assumption | omega | decide)) (cwV 2 C.ts gX3_beat_X3_laySquares rfl rfl rfl (by decide +kernel) ⟨Nat.le_of_ble_eq_true rfl, Nat.le_of_ble_eq_true rfl⟩) (q0 := 0) rfl rfl [0, 1, 2] (by decide) rfl rfl (Nat.le_of_ble_eq_true rfl) rfl dX3_beat_20 ⟨Nat.zero_le _, Nat.zero_le _⟩) [0, 1, 2] [] [0, 1, 2] rfl rfl (by decide) (by decide) (by decide) rfl ?_
  have hz := (la_len (P := P) (Q := Q) (i := i) (j := j) hw).1
  obtain ⟨a0, ha0⟩ : ∃ a0, a0 = plF (insA SQ 0 (laL P Q w i j)) (laL P Q w i j).length ((laL P Q w i j).length + 1) 0 rk := ⟨_, rfl⟩
  have ha1 : a0 ≤ (laL P Q w i j).length := by rw [ha0]; exact plF_le _ _ _ _ _ (Nat.zero_le _)
  refine s_aload_n C (pc := 23) dX3_beat_23 rfl 0 rfl ?_
  refine s_iload_n C (pc := 24) dX3_beat_24 rfl 3 rfl ?_
  refine s_calli C (pc := 25) (wr := [(mp, .inl (X.2.1, 12, .inl (M)))]) (wc' := [(mo, .inr (3, [.ref mp, .ref ms, .ref mt, .int sts, .int (nI ((laL P Q w i j).length)), .ref mq, .long wd, .int wS, .int wo, .int fw])), (mq, .inl (X.2.2.1, 576, .inr (.inl ((insA SQ 0 (laL P Q w i j))))))]) (wn := [(mo, .inr (3, [.ref mp, .ref ms, .ref mt, .int sts, .int (nI ((laL P Q w i j).length)), .ref mq, .long wd, .int wS, .int wo, .int fw])), (mp, .inl (X.2.1, 12, .inl (M))), (mq, .inl (X.2.2.1, 576, .inr (.inl ((insA SQ 0 (laL P Q w i j))))))]) (r_V C (As := [.int rk]) (rest := []) (kX3_placeOf l X mo mp ms mt mq sts wd wS wo fw (insA SQ 0 (laL P Q w i j)) ((laL P Q w i j).length) rk (by first | assumption | omega | decide)) (cwV 1 C.ts gX3_beat_X3_placeOf rfl rfl rfl (by decide +kernel) ⟨Nat.le_of_ble_eq_true rfl, Nat.le_of_ble_eq_true rfl⟩) (q0 := 0) rfl rfl [0, 2] (by decide) rfl rfl (Nat.le_of_ble_eq_true rfl) rfl dX3_beat_25 ⟨Nat.zero_le _, Nat.zero_le _⟩) [0, 2] [1] [1, 0, 2] rfl rfl (by decide) (by decide) (by decide) rfl ?_
  refine s_top C (y := nI a0) (by rw [ha0]) ?_
  refine s_istore C (pc := 28) (ls' := [(5, .int (nI a0)), (0, .ref mo), (1, .int (nI i)), (2, .int (nI j)), (3, .int rk), (4, .int 2)]) dX3_beat_28 (by decide) rfl ?_
  refine s_iload C (pc := 30) dX3_beat_30 0 rfl ?_
  refine s_aload_n C (pc := 32) dX3_beat_32 rfl 1 rfl ?_
  refine s_get C (pc := 33) (T := TX3) (N := 10) (fun _ h => (List.mem_cons_of_mem _ (List.mem_append_right _ h))) 0 rfl rfl 4 (by decide) (List.mem_of_getElem? (i := 2) rfl) rfl rfl dX3_beat_33 ?_
  refine s_icmp_ne C (pc := 36) (tgt := 43) dX3_beat_36 (by decide) (fun c36 => ?_) (fun c36 => ?_)
  · skip
    have e36 := nat_ne (a := a0) (b := ((laL P Q w i j).length)) (by omega) (by omega) c36
    have e37 : a0 < (laL P Q w i j).length := by omega
    refine s_aload_n C (pc := 43) dX3_beat_43 rfl 1 rfl ?_
    refine s_iload_n C (pc := 44) dX3_beat_44 rfl 2 rfl ?_
    refine s_iload_n C (pc := 45) dX3_beat_45 rfl 3 rfl ?_
    refine s_calll C (pc := 46) (wr := [(mq, .inl (X.2.2.1, 576, .inr (.inl ((insA SQ 0 (laL P Q w i j))))))]) (wc' := [(mo, .inr (3, [.ref mp, .ref ms, .ref mt, .int sts, .int (nI ((laL P Q w i j).length)), .ref mq, .long wd, .int wS, .int wo, .int fw])), (mp, .inl (X.2.1, 12, .inl (M)))]) (wn := [(mo, .inr (3, [.ref mp, .ref ms, .ref mt, .int sts, .int (nI ((laL P Q w i j).length)), .ref mq, .long wd, .int wS, .int wo, .int fw])), (mp, .inl (X.2.1, 12, .inl (M))), (mq, .inl (X.2.2.1, 576, .inr (.inl ((insA SQ 0 (laL P Q w i j))))))]) (r_V C (As := [.int (nI i), .int (nI j)]) (rest := []) (kX3_pairBase l X mo mp ms mt mq sts (nI ((laL P Q w i j).length)) wd wS wo fw M n P Q (nI w) f ll i j (by first | assumption | omega | decide) (by first | assumption | omega | decide) (by first | assumption | omega | decide) (by first | assumption | omega | decide)) (cwV 2 C.ts gX3_beat_X3_pairBase rfl rfl rfl (by decide +kernel) ⟨Nat.le_of_ble_eq_true rfl, Nat.le_of_ble_eq_true rfl⟩) (q0 := 0) rfl rfl [0, 1] (by decide) rfl rfl (Nat.le_of_ble_eq_true rfl) rfl dX3_beat_46 ⟨Nat.zero_le _, Nat.zero_le _⟩) [0, 1] [2] [1, 2, 0] rfl rfl (by decide) (by decide) (by decide) rfl ?_
    refine s_lstore C (pc := 49) (ls' := [(6, .long (bsL P Q i j)), (5, .int (nI a0)), (0, .ref mo), (1, .int (nI i)), (2, .int (nI j)), (3, .int rk), (4, .int 2)]) dX3_beat_49 (by decide) rfl ?_
    refine s_aload_n C (pc := 51) dX3_beat_51 rfl 2 rfl ?_
    refine s_get C (pc := 52) (T := TX3) (N := 10) (fun _ h => (List.mem_cons_of_mem _ (List.mem_append_right _ h))) 0 rfl rfl 5 (by decide) (List.mem_of_getElem? (i := 4) rfl) rfl rfl dX3_beat_52 ?_
    refine s_iload C (pc := 55) dX3_beat_55 1 rfl ?_
    refine s_lald C (pc := 57) 2 rfl a0 rfl (by omega) (by decide) dX3_beat_57 ?_
    refine s_lload C (pc := 58) dX3_beat_58 0 rfl ?_
    refine s_calll C (pc := 60) (wr := [(mo, .inr (3, [.ref mp, .ref ms, .ref mt, .int sts, .int (nI ((laL P Q w i j).length)), .ref mq, .long wd, .int wS, .int wo, .int fw])), (mp, .inl (X.2.1, 12, .inl (M))), (mq, .inl (X.2.2.1, 576, .inr (.inl ((insA SQ 0 (laL P Q w i j))))))]) (wc' := []) (wn := [(mo, .inr (3, [.ref mp, .ref ms, .ref mt, .int sts, .int (nI ((laL P Q w i j).length)), .ref mq, .long wd, .int wS, .int wo, .int fw])), (mp, .inl (X.2.1, 12, .inl (M))), (mq, .inl (X.2.2.1, 576, .inr (.inl ((insA SQ 0 (laL P Q w i j))))))]) (r_S C (As := [.long ((insA SQ 0 (laL P Q w i j)) a0), .long (bsL P Q i j)]) (rest := []) (kX3_common l X ((insA SQ 0 (laL P Q w i j)) a0) (bsL P Q i j) (hB.2 a0 e37).1 hB.1) (va_cwS 2 C.ts gX3_beat_X3_common rfl rfl rfl (by decide +kernel) ⟨Nat.le_of_ble_eq_true rfl, Nat.le_of_ble_eq_true rfl⟩) [] (by decide) rfl rfl (Nat.le_of_ble_eq_true rfl) rfl dX3_beat_60 ⟨Nat.zero_le _, Nat.zero_le _⟩) [] [0, 1, 2] [0, 1, 2] rfl rfl (by decide) (by decide) (by decide) rfl ?_
    refine s_lstore C (pc := 63) (ls' := [(8, .long (gcM ((insA SQ 0 (laL P Q w i j)) a0) (bsL P Q i j))), (6, .long (bsL P Q i j)), (5, .int (nI a0)), (0, .ref mo), (1, .int (nI i)), (2, .int (nI j)), (3, .int rk), (4, .int 2)]) dX3_beat_63 (by decide) rfl ?_
    refine s_iload C (pc := 65) dX3_beat_65 7 rfl ?_
    refine s_iconst C (pc := 67) (v := 2) dX3_beat_67 (by decide) ?_
    refine s_icmp_ge C (pc := 68) (tgt := 95) dX3_beat_68 (by decide) (fun c68 => ?_) (fun h => absurd (by decide) h)
    refine s_iload C (pc := 95) dX3_beat_95 7 rfl ?_
    refine s_iconst C (pc := 97) (v := 2) dX3_beat_97 (by decide) ?_
    refine s_icmp_ne C (pc := 98) (tgt := 114) dX3_beat_98 (by decide) (fun h => absurd (by decide) h) (fun c98 => ?_)
    refine s_aload_n C (pc := 101) dX3_beat_101 rfl 3 rfl ?_
    refine s_iload C (pc := 102) dX3_beat_102 2 rfl ?_
    refine s_calli C (pc := 104) (wr := [(mp, .inl (X.2.1, 12, .inl (M)))]) (wc' := [(mo, .inr (3, [.ref mp, .ref ms, .ref mt, .int sts, .int (nI ((laL P Q w i j).length)), .ref mq, .long wd, .int wS, .int wo, .int fw])), (mq, .inl (X.2.2.1, 576, .inr (.inl ((insA SQ 0 (laL P Q w i j))))))]) (wn := [(mo, .inr (3, [.ref mp, .ref ms, .ref mt, .int sts, .int (nI ((laL P Q w i j).length)), .ref mq, .long wd, .int wS, .int wo, .int fw])), (mp, .inl (X.2.1, 12, .inl (M))), (mq, .inl (X.2.2.1, 576, .inr (.inl ((insA SQ 0 (laL P Q w i j))))))]) (r_V C (As := [.int (nI a0)]) (rest := []) (kX3_behind l X mo mp ms mt mq sts wd wS wo fw (insA SQ 0 (laL P Q w i j)) ((laL P Q w i j).length) a0 (by first | assumption | omega | decide) (by first | assumption | omega | decide)) (cwV 1 C.ts gX3_beat_X3_behind rfl rfl rfl (by decide +kernel) ⟨Nat.le_of_ble_eq_true rfl, Nat.le_of_ble_eq_true rfl⟩) (q0 := 0) rfl rfl [0, 2] (by decide) rfl rfl (Nat.le_of_ble_eq_true rfl) rfl dX3_beat_104 ⟨Nat.zero_le _, Nat.zero_le _⟩) [0, 2] [1] [1, 0, 2] rfl rfl (by decide) (by decide) (by decide) rfl ?_
    refine s_iload C (pc := 107) dX3_beat_107 2 rfl ?_
    refine s_isub C (pc := 109) dX3_beat_109 ?_
    refine s_i2l C (pc := 110) dX3_beat_110 ?_
    refine s_goto C (pc := 111) (tgt := 145) dX3_beat_111 (by decide) ?_
    exact s_lretX C (pc := 145) hr hlk ((nI ((laL P Q w i j).length), wd, wS, wo, fw, insA SQ 0 (laL P Q w i j))) trivial [0, 1, 2] (by decide) (rfl) (((if_neg (fun hh => absurd (ha0.trans hh) (by omega))).trans (by rw [← ha0])).symm) dX3_beat_145
  · skip
    have e36 := nat_eq (a := a0) (b := ((laL P Q w i j).length)) (by omega) (by omega) c36
    have e37 : a0 = (laL P Q w i j).length := by omega
    refine s_ldc2 C (pc := 39) (v := (-4)) (List.mem_of_getElem? (i := 3) rfl) dX3_beat_39 ?_
    exact s_lretX C (pc := 42) hr hlk ((nI ((laL P Q w i j).length), wd, wS, wo, fw, insA SQ 0 (laL P Q w i j))) trivial [0, 1, 2] (by decide) (rfl) ((if_pos (ha0.symm.trans e37)).symm) dX3_beat_42

set_option maxHeartbeats 4000000 in
set_option maxRecDepth 100000 in
theorem kX3_beat_3 (l : Launch) (X : XT) (mo mp ms mt mq : Nat) (sts : Int32) (wd : Int64) (wS wo fw : Int32) (M : Nat → Int32) (n : Nat) (P Q : Nat → Int32) (w : Nat) (f ll : Int32) (SQ : Nat → Int64) (al : Int32) (i j : Nat) (rk : Int32) (hij : i < j) (hj : j < n) (hM : MR M n P Q (nI w) f ll) (hn : n ≤ 4) (hw : w = 1 ∨ w = 2) (hrk : 0 ≤ rk) (hB : btH (insA SQ 0 (laL P Q w i j)) (laL P Q w i j).length (bsL P Q i j)) : KLx l yX3_beat wsX3_beat ({ frames := 5, cells := 0, slots := 0, locals := 128 }) X [.ref mo, .int (nI i), .int (nI j), .int rk, .int 3] [(mo, .inr (3, [.ref mp, .ref ms, .ref mt, .int sts, .int al, .ref mq, .long wd, .int wS, .int wo, .int fw])), (mp, .inl (X.2.1, 12, .inl (M))), (mq, .inl (X.2.2.1, 576, .inr (.inl (SQ))))] (fun u : Int32 × Int64 × Int32 × Int32 × Int32 × (Nat → Int64) => [(mo, .inr (3, [.ref mp, .ref ms, .ref mt, .int sts, .int u.1, .ref mq, .long u.2.1, .int u.2.2.1, .int u.2.2.2.1, .int u.2.2.2.2.1])), (mp, .inl (X.2.1, 12, .inl (M))), (mq, .inl (X.2.2.1, 576, .inr (.inl (u.2.2.2.2.2))))]) (fun _ => True) (if plF (insA SQ 0 (laL P Q w i j)) (laL P Q w i j).length ((laL P Q w i j).length + 1) 0 rk = (laL P Q w i j).length then -4 else (if (insA SQ 0 (laL P Q w i j)) (plF (insA SQ 0 (laL P Q w i j)) (laL P Q w i j).length ((laL P Q w i j).length + 1) 0 rk) = 0 then -4 else (nI (isq (bsL P Q i j / ((insA SQ 0 (laL P Q w i j)) (plF (insA SQ 0 (laL P Q w i j)) (laL P Q w i j).length ((laL P Q w i j).length + 1) 0 rk))).toInt.toNat)).toInt64)) := by
  refine k_ofLx (cc := cX3_beat) (own := RX3) (maxL := 10) (ret := (some .long)) (ls0 := [(0, .ref mo), (1, .int (nI i)), (2, .int (nI j)), (3, .int rk), (4, .int 3)]) (by decide) rfl rfl (Nat.le_of_ble_eq_true rfl) rfl ?_
  intro p e s m args below meth c A g C hr hlk
  refine s_aload_n C (pc := 0) dX3_beat_0 rfl 0 rfl ?_
  refine s_iload_n C (pc := 1) dX3_beat_1 rfl 1 rfl ?_
  refine s_iload_n C (pc := 2) dX3_beat_2 rfl 2 rfl ?_
  refine s_calli C (pc := 3) (wr := [(mq, .inl (X.2.2.1, 576, .inr (.inl (SQ))))]) (wc' := [(mo, .inr (3, [.ref mp, .ref ms, .ref mt, .int sts, .int al, .ref mq, .long wd, .int wS, .int wo, .int fw])), (mp, .inl (X.2.1, 12, .inl (M)))]) (wn := [(mo, .inr (3, [.ref mp, .ref ms, .ref mt, .int sts, .int al, .ref mq, .long wd, .int wS, .int wo, .int fw])), (mp, .inl (X.2.1, 12, .inl (M))), (mq, .inl (X.2.2.1, 576, .inr (.inl (SQ))))]) (r_V C (As := [.int (nI i), .int (nI j)]) (rest := []) (kX3_isPair l X mo mp ms mt mq sts al wd wS wo fw M n P Q (nI w) f ll (nI i) (nI j) (by first | assumption | omega | decide) (by first | assumption | omega | decide)) (cwV 2 C.ts gX3_beat_X3_isPair rfl rfl rfl (by decide +kernel) ⟨Nat.le_of_ble_eq_true rfl, Nat.le_of_ble_eq_true rfl⟩) (q0 := 0) rfl rfl [0, 1] (by decide) rfl rfl (Nat.le_of_ble_eq_true rfl) rfl dX3_beat_3 ⟨Nat.zero_le _, Nat.zero_le _⟩) [0, 1] [2] [1, 2, 0] rfl rfl (by decide) (by decide) (by decide) rfl ?_
  refine s_bif_eq C (pc := 6) (tgt := 13) dX3_beat_6 (by decide) (fun h => absurd (hp_of hij hj (by omega)) h) (fun c6 => ?_)
  refine s_iload_n C (pc := 9) dX3_beat_9 rfl 3 rfl ?_
  refine s_if_ge C (pc := 10) (tgt := 17) dX3_beat_10 (by decide) (fun c10 => ?_) (fun h => absurd (hrk) h)
  refine s_aload_n C (pc := 17) dX3_beat_17 rfl 0 rfl ?_
  refine s_iload_n C (pc := 18) dX3_beat_18 rfl 1 rfl ?_
  refine s_iload_n C (pc := 19) dX3_beat_19 rfl 2 rfl ?_
  refine s_callv C (pc := 20) (wr := []) (wc' := [(mo, .inr (3, [.ref mp, .ref ms, .ref mt, .int sts, .int (nI ((laL P Q w i j).length)), .ref mq, .long wd, .int wS, .int wo, .int fw])), (mp, .inl (X.2.1, 12, .inl (M))), (mq, .inl (X.2.2.1, 576, .inr (.inl (insA SQ 0 (laL P Q w i j)))))]) (wn := [(mo, .inr (3, [.ref mp, .ref ms, .ref mt, .int sts, .int (nI ((laL P Q w i j).length)), .ref mq, .long wd, .int wS, .int wo, .int fw])), (mp, .inl (X.2.1, 12, .inl (M))), (mq, .inl (X.2.2.1, 576, .inr (.inl (insA SQ 0 (laL P Q w i j)))))]) (r_V C (As := [.int (nI i), .int (nI j)]) (rest := []) (kX3_laySquares l X mo mp ms mt mq sts wd wS wo fw M n P Q w f ll SQ al i j (by first | assumption | omega | decide) (by first | assumption | omega | decide) (by first | assumption | omega | decide) (by first | assumption | omega | decide) (by first | assumption | omega | decide)) (cwV 2 C.ts gX3_beat_X3_laySquares rfl rfl rfl (by decide +kernel) ⟨Nat.le_of_ble_eq_true rfl, Nat.le_of_ble_eq_true rfl⟩) (q0 := 0) rfl rfl [0, 1, 2] (by decide) rfl rfl (Nat.le_of_ble_eq_true rfl) rfl dX3_beat_20 ⟨Nat.zero_le _, Nat.zero_le _⟩) [0, 1, 2] [] [0, 1, 2] rfl rfl (by decide) (by decide) (by decide) rfl ?_
  have hz := (la_len (P := P) (Q := Q) (i := i) (j := j) hw).1
  obtain ⟨a0, ha0⟩ : ∃ a0, a0 = plF (insA SQ 0 (laL P Q w i j)) (laL P Q w i j).length ((laL P Q w i j).length + 1) 0 rk := ⟨_, rfl⟩
  have ha1 : a0 ≤ (laL P Q w i j).length := by rw [ha0]; exact plF_le _ _ _ _ _ (Nat.zero_le _)
  refine s_aload_n C (pc := 23) dX3_beat_23 rfl 0 rfl ?_
  refine s_iload_n C (pc := 24) dX3_beat_24 rfl 3 rfl ?_
  refine s_calli C (pc := 25) (wr := [(mp, .inl (X.2.1, 12, .inl (M)))]) (wc' := [(mo, .inr (3, [.ref mp, .ref ms, .ref mt, .int sts, .int (nI ((laL P Q w i j).length)), .ref mq, .long wd, .int wS, .int wo, .int fw])), (mq, .inl (X.2.2.1, 576, .inr (.inl ((insA SQ 0 (laL P Q w i j))))))]) (wn := [(mo, .inr (3, [.ref mp, .ref ms, .ref mt, .int sts, .int (nI ((laL P Q w i j).length)), .ref mq, .long wd, .int wS, .int wo, .int fw])), (mp, .inl (X.2.1, 12, .inl (M))), (mq, .inl (X.2.2.1, 576, .inr (.inl ((insA SQ 0 (laL P Q w i j))))))]) (r_V C (As := [.int rk]) (rest := []) (kX3_placeOf l X mo mp ms mt mq sts wd wS wo fw (insA SQ 0 (laL P Q w i j)) ((laL P Q w i j).length) rk (by first | assumption | omega | decide)) (cwV 1 C.ts gX3_beat_X3_placeOf rfl rfl rfl (by decide +kernel) ⟨Nat.le_of_ble_eq_true rfl, Nat.le_of_ble_eq_true rfl⟩) (q0 := 0) rfl rfl [0, 2] (by decide) rfl rfl (Nat.le_of_ble_eq_true rfl) rfl dX3_beat_25 ⟨Nat.zero_le _, Nat.zero_le _⟩) [0, 2] [1] [1, 0, 2] rfl rfl (by decide) (by decide) (by decide) rfl ?_
  refine s_top C (y := nI a0) (by rw [ha0]) ?_
  refine s_istore C (pc := 28) (ls' := [(5, .int (nI a0)), (0, .ref mo), (1, .int (nI i)), (2, .int (nI j)), (3, .int rk), (4, .int 3)]) dX3_beat_28 (by decide) rfl ?_
  refine s_iload C (pc := 30) dX3_beat_30 0 rfl ?_
  refine s_aload_n C (pc := 32) dX3_beat_32 rfl 1 rfl ?_
  refine s_get C (pc := 33) (T := TX3) (N := 10) (fun _ h => (List.mem_cons_of_mem _ (List.mem_append_right _ h))) 0 rfl rfl 4 (by decide) (List.mem_of_getElem? (i := 2) rfl) rfl rfl dX3_beat_33 ?_
  refine s_icmp_ne C (pc := 36) (tgt := 43) dX3_beat_36 (by decide) (fun c36 => ?_) (fun c36 => ?_)
  · skip
    have e36 := nat_ne (a := a0) (b := ((laL P Q w i j).length)) (by omega) (by omega) c36
    have e37 : a0 < (laL P Q w i j).length := by omega
    refine s_aload_n C (pc := 43) dX3_beat_43 rfl 1 rfl ?_
    refine s_iload_n C (pc := 44) dX3_beat_44 rfl 2 rfl ?_
    refine s_iload_n C (pc := 45) dX3_beat_45 rfl 3 rfl ?_
    refine s_calll C (pc := 46) (wr := [(mq, .inl (X.2.2.1, 576, .inr (.inl ((insA SQ 0 (laL P Q w i j))))))]) (wc' := [(mo, .inr (3, [.ref mp, .ref ms, .ref mt, .int sts, .int (nI ((laL P Q w i j).length)), .ref mq, .long wd, .int wS, .int wo, .int fw])), (mp, .inl (X.2.1, 12, .inl (M)))]) (wn := [(mo, .inr (3, [.ref mp, .ref ms, .ref mt, .int sts, .int (nI ((laL P Q w i j).length)), .ref mq, .long wd, .int wS, .int wo, .int fw])), (mp, .inl (X.2.1, 12, .inl (M))), (mq, .inl (X.2.2.1, 576, .inr (.inl ((insA SQ 0 (laL P Q w i j))))))]) (r_V C (As := [.int (nI i), .int (nI j)]) (rest := []) (kX3_pairBase l X mo mp ms mt mq sts (nI ((laL P Q w i j).length)) wd wS wo fw M n P Q (nI w) f ll i j (by first | assumption | omega | decide) (by first | assumption | omega | decide) (by first | assumption | omega | decide) (by first | assumption | omega | decide)) (cwV 2 C.ts gX3_beat_X3_pairBase rfl rfl rfl (by decide +kernel) ⟨Nat.le_of_ble_eq_true rfl, Nat.le_of_ble_eq_true rfl⟩) (q0 := 0) rfl rfl [0, 1] (by decide) rfl rfl (Nat.le_of_ble_eq_true rfl) rfl dX3_beat_46 ⟨Nat.zero_le _, Nat.zero_le _⟩) [0, 1] [2] [1, 2, 0] rfl rfl (by decide) (by decide) (by decide) rfl ?_
    refine s_lstore C (pc := 49) (ls' := [(6, .long (bsL P Q i j)), (5, .int (nI a0)), (0, .ref mo), (1, .int (nI i)), (2, .int (nI j)), (3, .int rk), (4, .int 3)]) dX3_beat_49 (by decide) rfl ?_
    refine s_aload_n C (pc := 51) dX3_beat_51 rfl 2 rfl ?_
    refine s_get C (pc := 52) (T := TX3) (N := 10) (fun _ h => (List.mem_cons_of_mem _ (List.mem_append_right _ h))) 0 rfl rfl 5 (by decide) (List.mem_of_getElem? (i := 4) rfl) rfl rfl dX3_beat_52 ?_
    refine s_iload C (pc := 55) dX3_beat_55 1 rfl ?_
    refine s_lald C (pc := 57) 2 rfl a0 rfl (by omega) (by decide) dX3_beat_57 ?_
    refine s_lload C (pc := 58) dX3_beat_58 0 rfl ?_
    refine s_calll C (pc := 60) (wr := [(mo, .inr (3, [.ref mp, .ref ms, .ref mt, .int sts, .int (nI ((laL P Q w i j).length)), .ref mq, .long wd, .int wS, .int wo, .int fw])), (mp, .inl (X.2.1, 12, .inl (M))), (mq, .inl (X.2.2.1, 576, .inr (.inl ((insA SQ 0 (laL P Q w i j))))))]) (wc' := []) (wn := [(mo, .inr (3, [.ref mp, .ref ms, .ref mt, .int sts, .int (nI ((laL P Q w i j).length)), .ref mq, .long wd, .int wS, .int wo, .int fw])), (mp, .inl (X.2.1, 12, .inl (M))), (mq, .inl (X.2.2.1, 576, .inr (.inl ((insA SQ 0 (laL P Q w i j))))))]) (r_S C (As := [.long ((insA SQ 0 (laL P Q w i j)) a0), .long (bsL P Q i j)]) (rest := []) (kX3_common l X ((insA SQ 0 (laL P Q w i j)) a0) (bsL P Q i j) (hB.2 a0 e37).1 hB.1) (va_cwS 2 C.ts gX3_beat_X3_common rfl rfl rfl (by decide +kernel) ⟨Nat.le_of_ble_eq_true rfl, Nat.le_of_ble_eq_true rfl⟩) [] (by decide) rfl rfl (Nat.le_of_ble_eq_true rfl) rfl dX3_beat_60 ⟨Nat.zero_le _, Nat.zero_le _⟩) [] [0, 1, 2] [0, 1, 2] rfl rfl (by decide) (by decide) (by decide) rfl ?_
    refine s_lstore C (pc := 63) (ls' := [(8, .long (gcM ((insA SQ 0 (laL P Q w i j)) a0) (bsL P Q i j))), (6, .long (bsL P Q i j)), (5, .int (nI a0)), (0, .ref mo), (1, .int (nI i)), (2, .int (nI j)), (3, .int rk), (4, .int 3)]) dX3_beat_63 (by decide) rfl ?_
    refine s_iload C (pc := 65) dX3_beat_65 7 rfl ?_
    refine s_iconst C (pc := 67) (v := 2) dX3_beat_67 (by decide) ?_
    refine s_icmp_ge C (pc := 68) (tgt := 95) dX3_beat_68 (by decide) (fun c68 => ?_) (fun h => absurd (by decide) h)
    refine s_iload C (pc := 95) dX3_beat_95 7 rfl ?_
    refine s_iconst C (pc := 97) (v := 2) dX3_beat_97 (by decide) ?_
    refine s_icmp_ne C (pc := 98) (tgt := 114) dX3_beat_98 (by decide) (fun c98 => ?_) (fun h => absurd h (by decide))
    refine s_aload_n C (pc := 114) dX3_beat_114 rfl 3 rfl ?_
    refine s_get C (pc := 115) (T := TX3) (N := 10) (fun _ h => (List.mem_cons_of_mem _ (List.mem_append_right _ h))) 0 rfl rfl 5 (by decide) (List.mem_of_getElem? (i := 4) rfl) rfl rfl dX3_beat_115 ?_
    refine s_iload C (pc := 118) dX3_beat_118 2 rfl ?_
    refine s_lald C (pc := 120) 2 rfl a0 rfl (by omega) (by decide) dX3_beat_120 ?_
    refine s_lconst C (pc := 121) (v := 0) dX3_beat_121 (by decide) ?_
    refine s_lcmp_ne C (pc := 122) (tgt := 132) dX3_beat_122 dX3_beat_123 (by decide) (fun c122 => ?_) (fun c122 => ?_)
    · skip
      obtain ⟨q, hq2, hq1, hq3⟩ := (hB.2 a0 e37).2.2 c122
      refine s_aload_n C (pc := 132) dX3_beat_132 rfl 3 rfl ?_
      refine s_get C (pc := 133) (T := TX3) (N := 10) (fun _ h => (List.mem_cons_of_mem _ (List.mem_append_right _ h))) 0 rfl rfl 5 (by decide) (List.mem_of_getElem? (i := 4) rfl) rfl rfl dX3_beat_133 ?_
      refine s_iload C (pc := 136) dX3_beat_136 2 rfl ?_
      refine s_lald C (pc := 138) 2 rfl a0 rfl (by omega) (by decide) dX3_beat_138 ?_
      refine s_lload C (pc := 139) dX3_beat_139 1 rfl ?_
      refine s_calli C (pc := 141) (wr := [(mo, .inr (3, [.ref mp, .ref ms, .ref mt, .int sts, .int (nI ((laL P Q w i j).length)), .ref mq, .long wd, .int wS, .int wo, .int fw])), (mp, .inl (X.2.1, 12, .inl (M))), (mq, .inl (X.2.2.1, 576, .inr (.inl ((insA SQ 0 (laL P Q w i j))))))]) (wc' := []) (wn := [(mo, .inr (3, [.ref mp, .ref ms, .ref mt, .int sts, .int (nI ((laL P Q w i j).length)), .ref mq, .long wd, .int wS, .int wo, .int fw])), (mp, .inl (X.2.1, 12, .inl (M))), (mq, .inl (X.2.2.1, 576, .inr (.inl ((insA SQ 0 (laL P Q w i j))))))]) (r_S C (As := [.long ((insA SQ 0 (laL P Q w i j)) a0), .long (bsL P Q i j)]) (rest := []) (kX3_periodOf l X ((insA SQ 0 (laL P Q w i j)) a0) (bsL P Q i j) q c122 hq1 hq2) (va_cwS 2 C.ts gX3_beat_X3_periodOf rfl rfl rfl (by decide +kernel) ⟨Nat.le_of_ble_eq_true rfl, Nat.le_of_ble_eq_true rfl⟩) [] (by decide) rfl rfl (Nat.le_of_ble_eq_true rfl) rfl dX3_beat_141 ⟨Nat.zero_le _, Nat.zero_le _⟩) [] [0, 1, 2] [0, 1, 2] rfl rfl (by decide) (by decide) (by decide) rfl ?_
      refine s_i2l C (pc := 144) dX3_beat_144 ?_
      exact s_lretX C (pc := 145) hr hlk ((nI ((laL P Q w i j).length), wd, wS, wo, fw, insA SQ 0 (laL P Q w i j))) trivial [0, 1, 2] (by decide) (rfl) (((if_neg (fun hh => absurd (ha0.trans hh) (by omega))).trans ((if_neg (by rw [← ha0]; exact c122)).trans (by rw [← ha0, hq3]))).symm) dX3_beat_145
    · skip
      refine s_ldc2 C (pc := 126) (v := (-4)) (List.mem_of_getElem? (i := 3) rfl) dX3_beat_126 ?_
      refine s_goto C (pc := 129) (tgt := 145) dX3_beat_129 (by decide) ?_
      exact s_lretX C (pc := 145) hr hlk ((nI ((laL P Q w i j).length), wd, wS, wo, fw, insA SQ 0 (laL P Q w i j))) trivial [0, 1, 2] (by decide) (rfl) (((if_neg (fun hh => absurd (ha0.trans hh) (by omega))).trans (if_pos (by rw [← ha0]; exact c122))).symm) dX3_beat_145
  · skip
    have e36 := nat_eq (a := a0) (b := ((laL P Q w i j).length)) (by omega) (by omega) c36
    have e37 : a0 = (laL P Q w i j).length := by omega
    refine s_ldc2 C (pc := 39) (v := (-4)) (List.mem_of_getElem? (i := 3) rfl) dX3_beat_39 ?_
    exact s_lretX C (pc := 42) hr hlk ((nI ((laL P Q w i j).length), wd, wS, wo, fw, insA SQ 0 (laL P Q w i j))) trivial [0, 1, 2] (by decide) (rfl) ((if_pos (ha0.symm.trans e37)).symm) dX3_beat_42

set_option maxHeartbeats 4000000 in
set_option maxRecDepth 100000 in
theorem kX3_beat_0_bad (l : Launch) (X : XT) (mo mp ms mt mq : Nat) (sts al : Int32) (wd : Int64) (wS wo fw : Int32) (M : Nat → Int32) (n : Nat) (P Q : Nat → Int32) (o f ll : Int32) (i j rk : Int32) (hb : ¬ (hpP n i j ∧ 0 ≤ rk)) (hM : MR M n P Q o f ll) (hn : n ≤ 4) : KL l yX3_beat wsX3_beat ({ frames := 3, cells := 0, slots := 0, locals := 65 }) X [.ref mo, .int i, .int j, .int rk, .int 0] [(mo, .inr (3, [.ref mp, .ref ms, .ref mt, .int sts, .int al, .ref mq, .long wd, .int wS, .int wo, .int fw])), (mp, .inl (X.2.1, 12, .inl (M)))] [(mo, .inr (3, [.ref mp, .ref ms, .ref mt, .int sts, .int al, .ref mq, .long wd, .int wS, .int wo, .int fw])), (mp, .inl (X.2.1, 12, .inl (M)))] (-1) := by
  refine k_ofL (cc := cX3_beat) (own := RX3) (maxL := 10) (ret := (some .long)) (ls0 := [(0, .ref mo), (1, .int i), (2, .int j), (3, .int rk), (4, .int 0)]) (by decide) rfl rfl (Nat.le_of_ble_eq_true rfl) rfl ?_
  intro p e s m args below meth c A g C hr hlk
  refine s_aload_n C (pc := 0) dX3_beat_0 rfl 0 rfl ?_
  refine s_iload_n C (pc := 1) dX3_beat_1 rfl 1 rfl ?_
  refine s_iload_n C (pc := 2) dX3_beat_2 rfl 2 rfl ?_
  refine s_calli C (pc := 3) (wr := []) (wc' := [(mo, .inr (3, [.ref mp, .ref ms, .ref mt, .int sts, .int al, .ref mq, .long wd, .int wS, .int wo, .int fw])), (mp, .inl (X.2.1, 12, .inl (M)))]) (wn := [(mo, .inr (3, [.ref mp, .ref ms, .ref mt, .int sts, .int al, .ref mq, .long wd, .int wS, .int wo, .int fw])), (mp, .inl (X.2.1, 12, .inl (M)))]) (r_V C (As := [.int i, .int j]) (rest := []) (kX3_isPair l X mo mp ms mt mq sts al wd wS wo fw M n P Q o f ll i j (by first | assumption | omega | decide) (by first | assumption | omega | decide)) (cwV 2 C.ts gX3_beat_X3_isPair rfl rfl rfl (by decide +kernel) ⟨Nat.le_of_ble_eq_true rfl, Nat.le_of_ble_eq_true rfl⟩) (q0 := 0) rfl rfl [0, 1] (by decide) rfl rfl (Nat.le_of_ble_eq_true rfl) rfl dX3_beat_3 ⟨Nat.zero_le _, Nat.zero_le _⟩) [0, 1] [] [0, 1] rfl rfl (by decide) (by decide) (by decide) rfl ?_
  refine s_bif_eq C (pc := 6) (tgt := 13) dX3_beat_6 (by decide) (fun c6 => ?_) (fun c6 => ?_)
  · skip
    refine s_ldc2 C (pc := 13) (v := (-1)) (List.mem_of_getElem? (i := 1) rfl) dX3_beat_13 ?_
    exact s_lret C (pc := 16) hr hlk [0, 1] (by decide) (rfl) (rfl) dX3_beat_16
  · skip
    refine s_iload_n C (pc := 9) dX3_beat_9 rfl 3 rfl ?_
    refine s_if_ge C (pc := 10) (tgt := 17) dX3_beat_10 (by decide) (fun c10 => ?_) (fun c10 => ?_)
    · skip
      exact absurd ⟨c6, c10⟩ hb
    · skip
      refine s_ldc2 C (pc := 13) (v := (-1)) (List.mem_of_getElem? (i := 1) rfl) dX3_beat_13 ?_
      exact s_lret C (pc := 16) hr hlk [0, 1] (by decide) (rfl) (rfl) dX3_beat_16

set_option maxHeartbeats 4000000 in
set_option maxRecDepth 100000 in
theorem kX3_beatNumerator_bad (l : Launch) (X : XT) (mo mp ms mt mq : Nat) (sts al : Int32) (wd : Int64) (wS wo fw : Int32) (M : Nat → Int32) (n : Nat) (P Q : Nat → Int32) (o f ll : Int32) (i j rk : Int32) (hb : ¬ (hpP n i j ∧ 0 ≤ rk)) (hM : MR M n P Q o f ll) (hn : n ≤ 4) : KL l yX3_beatNumerator wsX3_beatNumerator ({ frames := 4, cells := 0, slots := 0, locals := 94 }) X [.ref mo, .int i, .int j, .int rk] [(mo, .inr (3, [.ref mp, .ref ms, .ref mt, .int sts, .int al, .ref mq, .long wd, .int wS, .int wo, .int fw])), (mp, .inl (X.2.1, 12, .inl (M)))] [(mo, .inr (3, [.ref mp, .ref ms, .ref mt, .int sts, .int al, .ref mq, .long wd, .int wS, .int wo, .int fw])), (mp, .inl (X.2.1, 12, .inl (M)))] (-1) := by
  refine k_ofL (cc := cX3_beatNumerator) (own := RX3) (maxL := 4) (ret := (some .long)) (ls0 := [(0, .ref mo), (1, .int i), (2, .int j), (3, .int rk)]) (by decide) rfl rfl (Nat.le_of_ble_eq_true rfl) rfl ?_
  intro p e s m args below meth c A g C hr hlk
  refine s_aload_n C (pc := 0) dX3_beatNumerator_0 rfl 0 rfl ?_
  refine s_iload_n C (pc := 1) dX3_beatNumerator_1 rfl 1 rfl ?_
  refine s_iload_n C (pc := 2) dX3_beatNumerator_2 rfl 2 rfl ?_
  refine s_iload_n C (pc := 3) dX3_beatNumerator_3 rfl 3 rfl ?_
  refine s_iconst C (pc := 4) (v := 0) dX3_beatNumerator_4 (by decide) ?_
  refine s_calll C (pc := 5) (wr := []) (wc' := [(mo, .inr (3, [.ref mp, .ref ms, .ref mt, .int sts, .int al, .ref mq, .long wd, .int wS, .int wo, .int fw])), (mp, .inl (X.2.1, 12, .inl (M)))]) (wn := [(mo, .inr (3, [.ref mp, .ref ms, .ref mt, .int sts, .int al, .ref mq, .long wd, .int wS, .int wo, .int fw])), (mp, .inl (X.2.1, 12, .inl (M)))]) (r_V C (As := [.int i, .int j, .int rk, .int 0]) (rest := []) (kX3_beat_0_bad l X mo mp ms mt mq sts al wd wS wo fw M n P Q o f ll i j rk (by first | assumption | omega | decide) (by first | assumption | omega | decide) (by first | assumption | omega | decide)) (cwV 4 C.ts gX3_beatNumerator_X3_beat rfl rfl rfl (by decide +kernel) ⟨Nat.le_of_ble_eq_true rfl, Nat.le_of_ble_eq_true rfl⟩) (q0 := 0) rfl rfl [0, 1] (by decide) rfl rfl (Nat.le_of_ble_eq_true rfl) rfl dX3_beatNumerator_5 ⟨Nat.zero_le _, Nat.zero_le _⟩) [0, 1] [] [0, 1] rfl rfl (by decide) (by decide) (by decide) rfl ?_
  exact s_lret C (pc := 8) hr hlk [0, 1] (by decide) (rfl) (by decide) dX3_beatNumerator_8

set_option maxHeartbeats 4000000 in
set_option maxRecDepth 100000 in
theorem kX3_beatNumerator_ok (l : Launch) (X : XT) (mo mp ms mt mq : Nat) (sts : Int32) (wd : Int64) (wS wo fw : Int32) (M : Nat → Int32) (n : Nat) (P Q : Nat → Int32) (w : Nat) (f ll : Int32) (SQ : Nat → Int64) (al : Int32) (i j : Nat) (rk : Int32) (hij : i < j) (hj : j < n) (hM : MR M n P Q (nI w) f ll) (hn : n ≤ 4) (hw : w = 1 ∨ w = 2) (hrk : 0 ≤ rk) (hB : btH (insA SQ 0 (laL P Q w i j)) (laL P Q w i j).length (bsL P Q i j)) : KLx l yX3_beatNumerator wsX3_beatNumerator ({ frames := 6, cells := 0, slots := 0, locals := 157 }) X [.ref mo, .int (nI i), .int (nI j), .int rk] [(mo, .inr (3, [.ref mp, .ref ms, .ref mt, .int sts, .int al, .ref mq, .long wd, .int wS, .int wo, .int fw])), (mp, .inl (X.2.1, 12, .inl (M))), (mq, .inl (X.2.2.1, 576, .inr (.inl (SQ))))] (fun u : Int32 × Int64 × Int32 × Int32 × Int32 × (Nat → Int64) => [(mo, .inr (3, [.ref mp, .ref ms, .ref mt, .int sts, .int u.1, .ref mq, .long u.2.1, .int u.2.2.1, .int u.2.2.2.1, .int u.2.2.2.2.1])), (mp, .inl (X.2.1, 12, .inl (M))), (mq, .inl (X.2.2.1, 576, .inr (.inl (u.2.2.2.2.2))))]) (fun _ => True) (if plF (insA SQ 0 (laL P Q w i j)) (laL P Q w i j).length ((laL P Q w i j).length + 1) 0 rk = (laL P Q w i j).length then -4 else (insA SQ 0 (laL P Q w i j)) (plF (insA SQ 0 (laL P Q w i j)) (laL P Q w i j).length ((laL P Q w i j).length + 1) 0 rk) / gcM ((insA SQ 0 (laL P Q w i j)) (plF (insA SQ 0 (laL P Q w i j)) (laL P Q w i j).length ((laL P Q w i j).length + 1) 0 rk)) (bsL P Q i j)) := by
  refine k_ofLx (cc := cX3_beatNumerator) (own := RX3) (maxL := 4) (ret := (some .long)) (ls0 := [(0, .ref mo), (1, .int (nI i)), (2, .int (nI j)), (3, .int rk)]) (by decide) rfl rfl (Nat.le_of_ble_eq_true rfl) rfl ?_
  intro p e s m args below meth c A g C hr hlk
  refine s_aload_n C (pc := 0) dX3_beatNumerator_0 rfl 0 rfl ?_
  refine s_iload_n C (pc := 1) dX3_beatNumerator_1 rfl 1 rfl ?_
  refine s_iload_n C (pc := 2) dX3_beatNumerator_2 rfl 2 rfl ?_
  refine s_iload_n C (pc := 3) dX3_beatNumerator_3 rfl 3 rfl ?_
  refine s_iconst C (pc := 4) (v := 0) dX3_beatNumerator_4 (by decide) ?_
  refine s_calllX C (pc := 5) (wr := []) (wc' := (fun u5_1 : Int32 × Int64 × Int32 × Int32 × Int32 × (Nat → Int64) => [(mo, .inr (3, [.ref mp, .ref ms, .ref mt, .int sts, .int u5_1.1, .ref mq, .long u5_1.2.1, .int u5_1.2.2.1, .int u5_1.2.2.2.1, .int u5_1.2.2.2.2.1])), (mp, .inl (X.2.1, 12, .inl (M))), (mq, .inl (X.2.2.1, 576, .inr (.inl (u5_1.2.2.2.2.2))))])) (wn := (fun u5_1 : Int32 × Int64 × Int32 × Int32 × Int32 × (Nat → Int64) => [(mo, .inr (3, [.ref mp, .ref ms, .ref mt, .int sts, .int u5_1.1, .ref mq, .long u5_1.2.1, .int u5_1.2.2.1, .int u5_1.2.2.2.1, .int u5_1.2.2.2.2.1])), (mp, .inl (X.2.1, 12, .inl (M))), (mq, .inl (X.2.2.1, 576, .inr (.inl (u5_1.2.2.2.2.2))))])) (r_V C (As := [.int (nI i), .int (nI j), .int rk, .int 0]) (rest := []) (kX3_beat_0 l X mo mp ms mt mq sts wd wS wo fw M n P Q w f ll SQ al i j rk (by first | assumption | omega | decide) (by first | assumption | omega | decide) (by first | assumption | omega | decide) (by first | assumption | omega | decide) (by first | assumption | omega | decide) (by first | assumption | omega | decide) (by first | assumption | omega | decide)) (cwV 4 C.ts gX3_beatNumerator_X3_beat rfl rfl rfl (by decide +kernel) ⟨Nat.le_of_ble_eq_true rfl, Nat.le_of_ble_eq_true rfl⟩) (q0 := 0) rfl rfl [0, 1, 2] (by decide) rfl rfl (Nat.le_of_ble_eq_true rfl) rfl dX3_beatNumerator_5 ⟨Nat.zero_le _, Nat.zero_le _⟩) [0, 1, 2] [] [0, 1, 2] rfl rfl (by decide) (by decide) (by decide) (fun _ => rfl) (fun u5_1 _ => ?_)
  exact s_lretX C (pc := 8) hr hlk ((u5_1.1, u5_1.2.1, u5_1.2.2.1, u5_1.2.2.2.1, u5_1.2.2.2.2.1, u5_1.2.2.2.2.2)) trivial [0, 1, 2] (by decide) (rfl) (rfl) dX3_beatNumerator_8

set_option maxHeartbeats 4000000 in
set_option maxRecDepth 100000 in
theorem kX3_beat_1_bad (l : Launch) (X : XT) (mo mp ms mt mq : Nat) (sts al : Int32) (wd : Int64) (wS wo fw : Int32) (M : Nat → Int32) (n : Nat) (P Q : Nat → Int32) (o f ll : Int32) (i j rk : Int32) (hb : ¬ (hpP n i j ∧ 0 ≤ rk)) (hM : MR M n P Q o f ll) (hn : n ≤ 4) : KL l yX3_beat wsX3_beat ({ frames := 3, cells := 0, slots := 0, locals := 65 }) X [.ref mo, .int i, .int j, .int rk, .int 1] [(mo, .inr (3, [.ref mp, .ref ms, .ref mt, .int sts, .int al, .ref mq, .long wd, .int wS, .int wo, .int fw])), (mp, .inl (X.2.1, 12, .inl (M)))] [(mo, .inr (3, [.ref mp, .ref ms, .ref mt, .int sts, .int al, .ref mq, .long wd, .int wS, .int wo, .int fw])), (mp, .inl (X.2.1, 12, .inl (M)))] (-1) := by
  refine k_ofL (cc := cX3_beat) (own := RX3) (maxL := 10) (ret := (some .long)) (ls0 := [(0, .ref mo), (1, .int i), (2, .int j), (3, .int rk), (4, .int 1)]) (by decide) rfl rfl (Nat.le_of_ble_eq_true rfl) rfl ?_
  intro p e s m args below meth c A g C hr hlk
  refine s_aload_n C (pc := 0) dX3_beat_0 rfl 0 rfl ?_
  refine s_iload_n C (pc := 1) dX3_beat_1 rfl 1 rfl ?_
  refine s_iload_n C (pc := 2) dX3_beat_2 rfl 2 rfl ?_
  refine s_calli C (pc := 3) (wr := []) (wc' := [(mo, .inr (3, [.ref mp, .ref ms, .ref mt, .int sts, .int al, .ref mq, .long wd, .int wS, .int wo, .int fw])), (mp, .inl (X.2.1, 12, .inl (M)))]) (wn := [(mo, .inr (3, [.ref mp, .ref ms, .ref mt, .int sts, .int al, .ref mq, .long wd, .int wS, .int wo, .int fw])), (mp, .inl (X.2.1, 12, .inl (M)))]) (r_V C (As := [.int i, .int j]) (rest := []) (kX3_isPair l X mo mp ms mt mq sts al wd wS wo fw M n P Q o f ll i j (by first | assumption | omega | decide) (by first | assumption | omega | decide)) (cwV 2 C.ts gX3_beat_X3_isPair rfl rfl rfl (by decide +kernel) ⟨Nat.le_of_ble_eq_true rfl, Nat.le_of_ble_eq_true rfl⟩) (q0 := 0) rfl rfl [0, 1] (by decide) rfl rfl (Nat.le_of_ble_eq_true rfl) rfl dX3_beat_3 ⟨Nat.zero_le _, Nat.zero_le _⟩) [0, 1] [] [0, 1] rfl rfl (by decide) (by decide) (by decide) rfl ?_
  refine s_bif_eq C (pc := 6) (tgt := 13) dX3_beat_6 (by decide) (fun c6 => ?_) (fun c6 => ?_)
  · skip
    refine s_ldc2 C (pc := 13) (v := (-1)) (List.mem_of_getElem? (i := 1) rfl) dX3_beat_13 ?_
    exact s_lret C (pc := 16) hr hlk [0, 1] (by decide) (rfl) (rfl) dX3_beat_16
  · skip
    refine s_iload_n C (pc := 9) dX3_beat_9 rfl 3 rfl ?_
    refine s_if_ge C (pc := 10) (tgt := 17) dX3_beat_10 (by decide) (fun c10 => ?_) (fun c10 => ?_)
    · skip
      exact absurd ⟨c6, c10⟩ hb
    · skip
      refine s_ldc2 C (pc := 13) (v := (-1)) (List.mem_of_getElem? (i := 1) rfl) dX3_beat_13 ?_
      exact s_lret C (pc := 16) hr hlk [0, 1] (by decide) (rfl) (rfl) dX3_beat_16

set_option maxHeartbeats 4000000 in
set_option maxRecDepth 100000 in
theorem kX3_beatDenominator_bad (l : Launch) (X : XT) (mo mp ms mt mq : Nat) (sts al : Int32) (wd : Int64) (wS wo fw : Int32) (M : Nat → Int32) (n : Nat) (P Q : Nat → Int32) (o f ll : Int32) (i j rk : Int32) (hb : ¬ (hpP n i j ∧ 0 ≤ rk)) (hM : MR M n P Q o f ll) (hn : n ≤ 4) : KL l yX3_beatDenominator wsX3_beatDenominator ({ frames := 4, cells := 0, slots := 0, locals := 94 }) X [.ref mo, .int i, .int j, .int rk] [(mo, .inr (3, [.ref mp, .ref ms, .ref mt, .int sts, .int al, .ref mq, .long wd, .int wS, .int wo, .int fw])), (mp, .inl (X.2.1, 12, .inl (M)))] [(mo, .inr (3, [.ref mp, .ref ms, .ref mt, .int sts, .int al, .ref mq, .long wd, .int wS, .int wo, .int fw])), (mp, .inl (X.2.1, 12, .inl (M)))] (-1) := by
  refine k_ofL (cc := cX3_beatDenominator) (own := RX3) (maxL := 4) (ret := (some .long)) (ls0 := [(0, .ref mo), (1, .int i), (2, .int j), (3, .int rk)]) (by decide) rfl rfl (Nat.le_of_ble_eq_true rfl) rfl ?_
  intro p e s m args below meth c A g C hr hlk
  refine s_aload_n C (pc := 0) dX3_beatDenominator_0 rfl 0 rfl ?_
  refine s_iload_n C (pc := 1) dX3_beatDenominator_1 rfl 1 rfl ?_
  refine s_iload_n C (pc := 2) dX3_beatDenominator_2 rfl 2 rfl ?_
  refine s_iload_n C (pc := 3) dX3_beatDenominator_3 rfl 3 rfl ?_
  refine s_iconst C (pc := 4) (v := 1) dX3_beatDenominator_4 (by decide) ?_
  refine s_calll C (pc := 5) (wr := []) (wc' := [(mo, .inr (3, [.ref mp, .ref ms, .ref mt, .int sts, .int al, .ref mq, .long wd, .int wS, .int wo, .int fw])), (mp, .inl (X.2.1, 12, .inl (M)))]) (wn := [(mo, .inr (3, [.ref mp, .ref ms, .ref mt, .int sts, .int al, .ref mq, .long wd, .int wS, .int wo, .int fw])), (mp, .inl (X.2.1, 12, .inl (M)))]) (r_V C (As := [.int i, .int j, .int rk, .int 1]) (rest := []) (kX3_beat_1_bad l X mo mp ms mt mq sts al wd wS wo fw M n P Q o f ll i j rk (by first | assumption | omega | decide) (by first | assumption | omega | decide) (by first | assumption | omega | decide)) (cwV 4 C.ts gX3_beatDenominator_X3_beat rfl rfl rfl (by decide +kernel) ⟨Nat.le_of_ble_eq_true rfl, Nat.le_of_ble_eq_true rfl⟩) (q0 := 0) rfl rfl [0, 1] (by decide) rfl rfl (Nat.le_of_ble_eq_true rfl) rfl dX3_beatDenominator_5 ⟨Nat.zero_le _, Nat.zero_le _⟩) [0, 1] [] [0, 1] rfl rfl (by decide) (by decide) (by decide) rfl ?_
  exact s_lret C (pc := 8) hr hlk [0, 1] (by decide) (rfl) (by decide) dX3_beatDenominator_8

set_option maxHeartbeats 4000000 in
set_option maxRecDepth 100000 in
theorem kX3_beatDenominator_ok (l : Launch) (X : XT) (mo mp ms mt mq : Nat) (sts : Int32) (wd : Int64) (wS wo fw : Int32) (M : Nat → Int32) (n : Nat) (P Q : Nat → Int32) (w : Nat) (f ll : Int32) (SQ : Nat → Int64) (al : Int32) (i j : Nat) (rk : Int32) (hij : i < j) (hj : j < n) (hM : MR M n P Q (nI w) f ll) (hn : n ≤ 4) (hw : w = 1 ∨ w = 2) (hrk : 0 ≤ rk) (hB : btH (insA SQ 0 (laL P Q w i j)) (laL P Q w i j).length (bsL P Q i j)) : KLx l yX3_beatDenominator wsX3_beatDenominator ({ frames := 6, cells := 0, slots := 0, locals := 157 }) X [.ref mo, .int (nI i), .int (nI j), .int rk] [(mo, .inr (3, [.ref mp, .ref ms, .ref mt, .int sts, .int al, .ref mq, .long wd, .int wS, .int wo, .int fw])), (mp, .inl (X.2.1, 12, .inl (M))), (mq, .inl (X.2.2.1, 576, .inr (.inl (SQ))))] (fun u : Int32 × Int64 × Int32 × Int32 × Int32 × (Nat → Int64) => [(mo, .inr (3, [.ref mp, .ref ms, .ref mt, .int sts, .int u.1, .ref mq, .long u.2.1, .int u.2.2.1, .int u.2.2.2.1, .int u.2.2.2.2.1])), (mp, .inl (X.2.1, 12, .inl (M))), (mq, .inl (X.2.2.1, 576, .inr (.inl (u.2.2.2.2.2))))]) (fun _ => True) (if plF (insA SQ 0 (laL P Q w i j)) (laL P Q w i j).length ((laL P Q w i j).length + 1) 0 rk = (laL P Q w i j).length then -4 else bsL P Q i j / gcM ((insA SQ 0 (laL P Q w i j)) (plF (insA SQ 0 (laL P Q w i j)) (laL P Q w i j).length ((laL P Q w i j).length + 1) 0 rk)) (bsL P Q i j)) := by
  refine k_ofLx (cc := cX3_beatDenominator) (own := RX3) (maxL := 4) (ret := (some .long)) (ls0 := [(0, .ref mo), (1, .int (nI i)), (2, .int (nI j)), (3, .int rk)]) (by decide) rfl rfl (Nat.le_of_ble_eq_true rfl) rfl ?_
  intro p e s m args below meth c A g C hr hlk
  refine s_aload_n C (pc := 0) dX3_beatDenominator_0 rfl 0 rfl ?_
  refine s_iload_n C (pc := 1) dX3_beatDenominator_1 rfl 1 rfl ?_
  refine s_iload_n C (pc := 2) dX3_beatDenominator_2 rfl 2 rfl ?_
  refine s_iload_n C (pc := 3) dX3_beatDenominator_3 rfl 3 rfl ?_
  refine s_iconst C (pc := 4) (v := 1) dX3_beatDenominator_4 (by decide) ?_
  refine s_calllX C (pc := 5) (wr := []) (wc' := (fun u5_1 : Int32 × Int64 × Int32 × Int32 × Int32 × (Nat → Int64) => [(mo, .inr (3, [.ref mp, .ref ms, .ref mt, .int sts, .int u5_1.1, .ref mq, .long u5_1.2.1, .int u5_1.2.2.1, .int u5_1.2.2.2.1, .int u5_1.2.2.2.2.1])), (mp, .inl (X.2.1, 12, .inl (M))), (mq, .inl (X.2.2.1, 576, .inr (.inl (u5_1.2.2.2.2.2))))])) (wn := (fun u5_1 : Int32 × Int64 × Int32 × Int32 × Int32 × (Nat → Int64) => [(mo, .inr (3, [.ref mp, .ref ms, .ref mt, .int sts, .int u5_1.1, .ref mq, .long u5_1.2.1, .int u5_1.2.2.1, .int u5_1.2.2.2.1, .int u5_1.2.2.2.2.1])), (mp, .inl (X.2.1, 12, .inl (M))), (mq, .inl (X.2.2.1, 576, .inr (.inl (u5_1.2.2.2.2.2))))])) (r_V C (As := [.int (nI i), .int (nI j), .int rk, .int 1]) (rest := []) (kX3_beat_1 l X mo mp ms mt mq sts wd wS wo fw M n P Q w f ll SQ al i j rk (by first | assumption | omega | decide) (by first | assumption | omega | decide) (by first | assumption | omega | decide) (by first | assumption | omega | decide) (by first | assumption | omega | decide) (by first | assumption | omega | decide) (by first | assumption | omega | decide)) (cwV 4 C.ts gX3_beatDenominator_X3_beat rfl rfl rfl (by decide +kernel) ⟨Nat.le_of_ble_eq_true rfl, Nat.le_of_ble_eq_true rfl⟩) (q0 := 0) rfl rfl [0, 1, 2] (by decide) rfl rfl (Nat.le_of_ble_eq_true rfl) rfl dX3_beatDenominator_5 ⟨Nat.zero_le _, Nat.zero_le _⟩) [0, 1, 2] [] [0, 1, 2] rfl rfl (by decide) (by decide) (by decide) (fun _ => rfl) (fun u5_1 _ => ?_)
  exact s_lretX C (pc := 8) hr hlk ((u5_1.1, u5_1.2.1, u5_1.2.2.1, u5_1.2.2.2.1, u5_1.2.2.2.2.1, u5_1.2.2.2.2.2)) trivial [0, 1, 2] (by decide) (rfl) (rfl) dX3_beatDenominator_8

set_option maxHeartbeats 4000000 in
set_option maxRecDepth 100000 in
theorem kX3_beat_2_bad (l : Launch) (X : XT) (mo mp ms mt mq : Nat) (sts al : Int32) (wd : Int64) (wS wo fw : Int32) (M : Nat → Int32) (n : Nat) (P Q : Nat → Int32) (o f ll : Int32) (i j rk : Int32) (hb : ¬ (hpP n i j ∧ 0 ≤ rk)) (hM : MR M n P Q o f ll) (hn : n ≤ 4) : KL l yX3_beat wsX3_beat ({ frames := 3, cells := 0, slots := 0, locals := 65 }) X [.ref mo, .int i, .int j, .int rk, .int 2] [(mo, .inr (3, [.ref mp, .ref ms, .ref mt, .int sts, .int al, .ref mq, .long wd, .int wS, .int wo, .int fw])), (mp, .inl (X.2.1, 12, .inl (M)))] [(mo, .inr (3, [.ref mp, .ref ms, .ref mt, .int sts, .int al, .ref mq, .long wd, .int wS, .int wo, .int fw])), (mp, .inl (X.2.1, 12, .inl (M)))] (-1) := by
  refine k_ofL (cc := cX3_beat) (own := RX3) (maxL := 10) (ret := (some .long)) (ls0 := [(0, .ref mo), (1, .int i), (2, .int j), (3, .int rk), (4, .int 2)]) (by decide) rfl rfl (Nat.le_of_ble_eq_true rfl) rfl ?_
  intro p e s m args below meth c A g C hr hlk
  refine s_aload_n C (pc := 0) dX3_beat_0 rfl 0 rfl ?_
  refine s_iload_n C (pc := 1) dX3_beat_1 rfl 1 rfl ?_
  refine s_iload_n C (pc := 2) dX3_beat_2 rfl 2 rfl ?_
  refine s_calli C (pc := 3) (wr := []) (wc' := [(mo, .inr (3, [.ref mp, .ref ms, .ref mt, .int sts, .int al, .ref mq, .long wd, .int wS, .int wo, .int fw])), (mp, .inl (X.2.1, 12, .inl (M)))]) (wn := [(mo, .inr (3, [.ref mp, .ref ms, .ref mt, .int sts, .int al, .ref mq, .long wd, .int wS, .int wo, .int fw])), (mp, .inl (X.2.1, 12, .inl (M)))]) (r_V C (As := [.int i, .int j]) (rest := []) (kX3_isPair l X mo mp ms mt mq sts al wd wS wo fw M n P Q o f ll i j (by first | assumption | omega | decide) (by first | assumption | omega | decide)) (cwV 2 C.ts gX3_beat_X3_isPair rfl rfl rfl (by decide +kernel) ⟨Nat.le_of_ble_eq_true rfl, Nat.le_of_ble_eq_true rfl⟩) (q0 := 0) rfl rfl [0, 1] (by decide) rfl rfl (Nat.le_of_ble_eq_true rfl) rfl dX3_beat_3 ⟨Nat.zero_le _, Nat.zero_le _⟩) [0, 1] [] [0, 1] rfl rfl (by decide) (by decide) (by decide) rfl ?_
  refine s_bif_eq C (pc := 6) (tgt := 13) dX3_beat_6 (by decide) (fun c6 => ?_) (fun c6 => ?_)
  · skip
    refine s_ldc2 C (pc := 13) (v := (-1)) (List.mem_of_getElem? (i := 1) rfl) dX3_beat_13 ?_
    exact s_lret C (pc := 16) hr hlk [0, 1] (by decide) (rfl) (rfl) dX3_beat_16
  · skip
    refine s_iload_n C (pc := 9) dX3_beat_9 rfl 3 rfl ?_
    refine s_if_ge C (pc := 10) (tgt := 17) dX3_beat_10 (by decide) (fun c10 => ?_) (fun c10 => ?_)
    · skip
      exact absurd ⟨c6, c10⟩ hb
    · skip
      refine s_ldc2 C (pc := 13) (v := (-1)) (List.mem_of_getElem? (i := 1) rfl) dX3_beat_13 ?_
      exact s_lret C (pc := 16) hr hlk [0, 1] (by decide) (rfl) (rfl) dX3_beat_16

set_option maxHeartbeats 4000000 in
set_option maxRecDepth 100000 in
theorem kX3_beatFrequency_bad (l : Launch) (X : XT) (mo mp ms mt mq : Nat) (sts al : Int32) (wd : Int64) (wS wo fw : Int32) (M : Nat → Int32) (n : Nat) (P Q : Nat → Int32) (o f ll : Int32) (i j rk : Int32) (hb : ¬ (hpP n i j ∧ 0 ≤ rk)) (hM : MR M n P Q o f ll) (hn : n ≤ 4) : KI l yX3_beatFrequency wsX3_beatFrequency ({ frames := 4, cells := 0, slots := 0, locals := 94 }) X [.ref mo, .int i, .int j, .int rk] [(mo, .inr (3, [.ref mp, .ref ms, .ref mt, .int sts, .int al, .ref mq, .long wd, .int wS, .int wo, .int fw])), (mp, .inl (X.2.1, 12, .inl (M)))] [(mo, .inr (3, [.ref mp, .ref ms, .ref mt, .int sts, .int al, .ref mq, .long wd, .int wS, .int wo, .int fw])), (mp, .inl (X.2.1, 12, .inl (M)))] (-1) := by
  refine k_ofI (cc := cX3_beatFrequency) (own := RX3) (maxL := 4) (ret := (some .int)) (ls0 := [(0, .ref mo), (1, .int i), (2, .int j), (3, .int rk)]) (by decide) rfl rfl (Nat.le_of_ble_eq_true rfl) rfl ?_
  intro p e s m args below meth c A g C hr hlk
  refine s_aload_n C (pc := 0) dX3_beatFrequency_0 rfl 0 rfl ?_
  refine s_iload_n C (pc := 1) dX3_beatFrequency_1 rfl 1 rfl ?_
  refine s_iload_n C (pc := 2) dX3_beatFrequency_2 rfl 2 rfl ?_
  refine s_iload_n C (pc := 3) dX3_beatFrequency_3 rfl 3 rfl ?_
  refine s_iconst C (pc := 4) (v := 2) dX3_beatFrequency_4 (by decide) ?_
  refine s_calll C (pc := 5) (wr := []) (wc' := [(mo, .inr (3, [.ref mp, .ref ms, .ref mt, .int sts, .int al, .ref mq, .long wd, .int wS, .int wo, .int fw])), (mp, .inl (X.2.1, 12, .inl (M)))]) (wn := [(mo, .inr (3, [.ref mp, .ref ms, .ref mt, .int sts, .int al, .ref mq, .long wd, .int wS, .int wo, .int fw])), (mp, .inl (X.2.1, 12, .inl (M)))]) (r_V C (As := [.int i, .int j, .int rk, .int 2]) (rest := []) (kX3_beat_2_bad l X mo mp ms mt mq sts al wd wS wo fw M n P Q o f ll i j rk (by first | assumption | omega | decide) (by first | assumption | omega | decide) (by first | assumption | omega | decide)) (cwV 4 C.ts gX3_beatFrequency_X3_beat rfl rfl rfl (by decide +kernel) ⟨Nat.le_of_ble_eq_true rfl, Nat.le_of_ble_eq_true rfl⟩) (q0 := 0) rfl rfl [0, 1] (by decide) rfl rfl (Nat.le_of_ble_eq_true rfl) rfl dX3_beatFrequency_5 ⟨Nat.zero_le _, Nat.zero_le _⟩) [0, 1] [] [0, 1] rfl rfl (by decide) (by decide) (by decide) rfl ?_
  refine s_l2i C (pc := 8) dX3_beatFrequency_8 ?_
  exact s_iret C (pc := 9) hr hlk [0, 1] (by decide) (rfl) (by decide) dX3_beatFrequency_9

set_option maxHeartbeats 4000000 in
set_option maxRecDepth 100000 in
theorem kX3_beatFrequency_ok (l : Launch) (X : XT) (mo mp ms mt mq : Nat) (sts : Int32) (wd : Int64) (wS wo fw : Int32) (M : Nat → Int32) (n : Nat) (P Q : Nat → Int32) (w : Nat) (f ll : Int32) (SQ : Nat → Int64) (al : Int32) (i j : Nat) (rk : Int32) (hij : i < j) (hj : j < n) (hM : MR M n P Q (nI w) f ll) (hn : n ≤ 4) (hw : w = 1 ∨ w = 2) (hrk : 0 ≤ rk) (hB : btH (insA SQ 0 (laL P Q w i j)) (laL P Q w i j).length (bsL P Q i j)) : KIx l yX3_beatFrequency wsX3_beatFrequency ({ frames := 6, cells := 0, slots := 0, locals := 157 }) X [.ref mo, .int (nI i), .int (nI j), .int rk] [(mo, .inr (3, [.ref mp, .ref ms, .ref mt, .int sts, .int al, .ref mq, .long wd, .int wS, .int wo, .int fw])), (mp, .inl (X.2.1, 12, .inl (M))), (mq, .inl (X.2.2.1, 576, .inr (.inl (SQ))))] (fun u : Int32 × Int64 × Int32 × Int32 × Int32 × (Nat → Int64) => [(mo, .inr (3, [.ref mp, .ref ms, .ref mt, .int sts, .int u.1, .ref mq, .long u.2.1, .int u.2.2.1, .int u.2.2.2.1, .int u.2.2.2.2.1])), (mp, .inl (X.2.1, 12, .inl (M))), (mq, .inl (X.2.2.1, 576, .inr (.inl (u.2.2.2.2.2))))]) (fun _ => True) ((if plF (insA SQ 0 (laL P Q w i j)) (laL P Q w i j).length ((laL P Q w i j).length + 1) 0 rk = (laL P Q w i j).length then -4 else (nI (bhN (insA SQ 0 (laL P Q w i j)) (laL P Q w i j).length (plF (insA SQ 0 (laL P Q w i j)) (laL P Q w i j).length ((laL P Q w i j).length + 1) 0 rk)) - nI (plF (insA SQ 0 (laL P Q w i j)) (laL P Q w i j).length ((laL P Q w i j).length + 1) 0 rk)).toInt64 : Int64).toInt32) := by
  refine k_ofIx (cc := cX3_beatFrequency) (own := RX3) (maxL := 4) (ret := (some .int)) (ls0 := [(0, .ref mo), (1, .int (nI i)), (2, .int (nI j)), (3, .int rk)]) (by decide) rfl rfl (Nat.le_of_ble_eq_true rfl) rfl ?_
  intro p e s m args below meth c A g C hr hlk
  refine s_aload_n C (pc := 0) dX3_beatFrequency_0 rfl 0 rfl ?_
  refine s_iload_n C (pc := 1) dX3_beatFrequency_1 rfl 1 rfl ?_
  refine s_iload_n C (pc := 2) dX3_beatFrequency_2 rfl 2 rfl ?_
  refine s_iload_n C (pc := 3) dX3_beatFrequency_3 rfl 3 rfl ?_
  refine s_iconst C (pc := 4) (v := 2) dX3_beatFrequency_4 (by decide) ?_
  refine s_calllX C (pc := 5) (wr := []) (wc' := (fun u5_1 : Int32 × Int64 × Int32 × Int32 × Int32 × (Nat → Int64) => [(mo, .inr (3, [.ref mp, .ref ms, .ref mt, .int sts, .int u5_1.1, .ref mq, .long u5_1.2.1, .int u5_1.2.2.1, .int u5_1.2.2.2.1, .int u5_1.2.2.2.2.1])), (mp, .inl (X.2.1, 12, .inl (M))), (mq, .inl (X.2.2.1, 576, .inr (.inl (u5_1.2.2.2.2.2))))])) (wn := (fun u5_1 : Int32 × Int64 × Int32 × Int32 × Int32 × (Nat → Int64) => [(mo, .inr (3, [.ref mp, .ref ms, .ref mt, .int sts, .int u5_1.1, .ref mq, .long u5_1.2.1, .int u5_1.2.2.1, .int u5_1.2.2.2.1, .int u5_1.2.2.2.2.1])), (mp, .inl (X.2.1, 12, .inl (M))), (mq, .inl (X.2.2.1, 576, .inr (.inl (u5_1.2.2.2.2.2))))])) (r_V C (As := [.int (nI i), .int (nI j), .int rk, .int 2]) (rest := []) (kX3_beat_2 l X mo mp ms mt mq sts wd wS wo fw M n P Q w f ll SQ al i j rk (by first | assumption | omega | decide) (by first | assumption | omega | decide) (by first | assumption | omega | decide) (by first | assumption | omega | decide) (by first | assumption | omega | decide) (by first | assumption | omega | decide) (by first | assumption | omega | decide)) (cwV 4 C.ts gX3_beatFrequency_X3_beat rfl rfl rfl (by decide +kernel) ⟨Nat.le_of_ble_eq_true rfl, Nat.le_of_ble_eq_true rfl⟩) (q0 := 0) rfl rfl [0, 1, 2] (by decide) rfl rfl (Nat.le_of_ble_eq_true rfl) rfl dX3_beatFrequency_5 ⟨Nat.zero_le _, Nat.zero_le _⟩) [0, 1, 2] [] [0, 1, 2] rfl rfl (by decide) (by decide) (by decide) (fun _ => rfl) (fun u5_1 _ => ?_)
  refine s_l2i C (pc := 8) dX3_beatFrequency_8 ?_
  exact s_iretX C (pc := 9) hr hlk ((u5_1.1, u5_1.2.1, u5_1.2.2.1, u5_1.2.2.2.1, u5_1.2.2.2.2.1, u5_1.2.2.2.2.2)) trivial [0, 1, 2] (by decide) (rfl) (rfl) dX3_beatFrequency_9

set_option maxHeartbeats 4000000 in
set_option maxRecDepth 100000 in
theorem kX3_beat_3_bad (l : Launch) (X : XT) (mo mp ms mt mq : Nat) (sts al : Int32) (wd : Int64) (wS wo fw : Int32) (M : Nat → Int32) (n : Nat) (P Q : Nat → Int32) (o f ll : Int32) (i j rk : Int32) (hb : ¬ (hpP n i j ∧ 0 ≤ rk)) (hM : MR M n P Q o f ll) (hn : n ≤ 4) : KL l yX3_beat wsX3_beat ({ frames := 3, cells := 0, slots := 0, locals := 65 }) X [.ref mo, .int i, .int j, .int rk, .int 3] [(mo, .inr (3, [.ref mp, .ref ms, .ref mt, .int sts, .int al, .ref mq, .long wd, .int wS, .int wo, .int fw])), (mp, .inl (X.2.1, 12, .inl (M)))] [(mo, .inr (3, [.ref mp, .ref ms, .ref mt, .int sts, .int al, .ref mq, .long wd, .int wS, .int wo, .int fw])), (mp, .inl (X.2.1, 12, .inl (M)))] (-1) := by
  refine k_ofL (cc := cX3_beat) (own := RX3) (maxL := 10) (ret := (some .long)) (ls0 := [(0, .ref mo), (1, .int i), (2, .int j), (3, .int rk), (4, .int 3)]) (by decide) rfl rfl (Nat.le_of_ble_eq_true rfl) rfl ?_
  intro p e s m args below meth c A g C hr hlk
  refine s_aload_n C (pc := 0) dX3_beat_0 rfl 0 rfl ?_
  refine s_iload_n C (pc := 1) dX3_beat_1 rfl 1 rfl ?_
  refine s_iload_n C (pc := 2) dX3_beat_2 rfl 2 rfl ?_
  refine s_calli C (pc := 3) (wr := []) (wc' := [(mo, .inr (3, [.ref mp, .ref ms, .ref mt, .int sts, .int al, .ref mq, .long wd, .int wS, .int wo, .int fw])), (mp, .inl (X.2.1, 12, .inl (M)))]) (wn := [(mo, .inr (3, [.ref mp, .ref ms, .ref mt, .int sts, .int al, .ref mq, .long wd, .int wS, .int wo, .int fw])), (mp, .inl (X.2.1, 12, .inl (M)))]) (r_V C (As := [.int i, .int j]) (rest := []) (kX3_isPair l X mo mp ms mt mq sts al wd wS wo fw M n P Q o f ll i j (by first | assumption | omega | decide) (by first | assumption | omega | decide)) (cwV 2 C.ts gX3_beat_X3_isPair rfl rfl rfl (by decide +kernel) ⟨Nat.le_of_ble_eq_true rfl, Nat.le_of_ble_eq_true rfl⟩) (q0 := 0) rfl rfl [0, 1] (by decide) rfl rfl (Nat.le_of_ble_eq_true rfl) rfl dX3_beat_3 ⟨Nat.zero_le _, Nat.zero_le _⟩) [0, 1] [] [0, 1] rfl rfl (by decide) (by decide) (by decide) rfl ?_
  refine s_bif_eq C (pc := 6) (tgt := 13) dX3_beat_6 (by decide) (fun c6 => ?_) (fun c6 => ?_)
  · skip
    refine s_ldc2 C (pc := 13) (v := (-1)) (List.mem_of_getElem? (i := 1) rfl) dX3_beat_13 ?_
    exact s_lret C (pc := 16) hr hlk [0, 1] (by decide) (rfl) (rfl) dX3_beat_16
  · skip
    refine s_iload_n C (pc := 9) dX3_beat_9 rfl 3 rfl ?_
    refine s_if_ge C (pc := 10) (tgt := 17) dX3_beat_10 (by decide) (fun c10 => ?_) (fun c10 => ?_)
    · skip
      exact absurd ⟨c6, c10⟩ hb
    · skip
      refine s_ldc2 C (pc := 13) (v := (-1)) (List.mem_of_getElem? (i := 1) rfl) dX3_beat_13 ?_
      exact s_lret C (pc := 16) hr hlk [0, 1] (by decide) (rfl) (rfl) dX3_beat_16

set_option maxHeartbeats 4000000 in
set_option maxRecDepth 100000 in
theorem kX3_beatPeriod_bad (l : Launch) (X : XT) (mo mp ms mt mq : Nat) (sts al : Int32) (wd : Int64) (wS wo fw : Int32) (M : Nat → Int32) (n : Nat) (P Q : Nat → Int32) (o f ll : Int32) (i j rk : Int32) (hb : ¬ (hpP n i j ∧ 0 ≤ rk)) (hM : MR M n P Q o f ll) (hn : n ≤ 4) : KI l yX3_beatPeriod wsX3_beatPeriod ({ frames := 4, cells := 0, slots := 0, locals := 94 }) X [.ref mo, .int i, .int j, .int rk] [(mo, .inr (3, [.ref mp, .ref ms, .ref mt, .int sts, .int al, .ref mq, .long wd, .int wS, .int wo, .int fw])), (mp, .inl (X.2.1, 12, .inl (M)))] [(mo, .inr (3, [.ref mp, .ref ms, .ref mt, .int sts, .int al, .ref mq, .long wd, .int wS, .int wo, .int fw])), (mp, .inl (X.2.1, 12, .inl (M)))] (-1) := by
  refine k_ofI (cc := cX3_beatPeriod) (own := RX3) (maxL := 4) (ret := (some .int)) (ls0 := [(0, .ref mo), (1, .int i), (2, .int j), (3, .int rk)]) (by decide) rfl rfl (Nat.le_of_ble_eq_true rfl) rfl ?_
  intro p e s m args below meth c A g C hr hlk
  refine s_aload_n C (pc := 0) dX3_beatPeriod_0 rfl 0 rfl ?_
  refine s_iload_n C (pc := 1) dX3_beatPeriod_1 rfl 1 rfl ?_
  refine s_iload_n C (pc := 2) dX3_beatPeriod_2 rfl 2 rfl ?_
  refine s_iload_n C (pc := 3) dX3_beatPeriod_3 rfl 3 rfl ?_
  refine s_iconst C (pc := 4) (v := 3) dX3_beatPeriod_4 (by decide) ?_
  refine s_calll C (pc := 5) (wr := []) (wc' := [(mo, .inr (3, [.ref mp, .ref ms, .ref mt, .int sts, .int al, .ref mq, .long wd, .int wS, .int wo, .int fw])), (mp, .inl (X.2.1, 12, .inl (M)))]) (wn := [(mo, .inr (3, [.ref mp, .ref ms, .ref mt, .int sts, .int al, .ref mq, .long wd, .int wS, .int wo, .int fw])), (mp, .inl (X.2.1, 12, .inl (M)))]) (r_V C (As := [.int i, .int j, .int rk, .int 3]) (rest := []) (kX3_beat_3_bad l X mo mp ms mt mq sts al wd wS wo fw M n P Q o f ll i j rk (by first | assumption | omega | decide) (by first | assumption | omega | decide) (by first | assumption | omega | decide)) (cwV 4 C.ts gX3_beatPeriod_X3_beat rfl rfl rfl (by decide +kernel) ⟨Nat.le_of_ble_eq_true rfl, Nat.le_of_ble_eq_true rfl⟩) (q0 := 0) rfl rfl [0, 1] (by decide) rfl rfl (Nat.le_of_ble_eq_true rfl) rfl dX3_beatPeriod_5 ⟨Nat.zero_le _, Nat.zero_le _⟩) [0, 1] [] [0, 1] rfl rfl (by decide) (by decide) (by decide) rfl ?_
  refine s_l2i C (pc := 8) dX3_beatPeriod_8 ?_
  exact s_iret C (pc := 9) hr hlk [0, 1] (by decide) (rfl) (by decide) dX3_beatPeriod_9

set_option maxHeartbeats 4000000 in
set_option maxRecDepth 100000 in
theorem kX3_beatPeriod_ok (l : Launch) (X : XT) (mo mp ms mt mq : Nat) (sts : Int32) (wd : Int64) (wS wo fw : Int32) (M : Nat → Int32) (n : Nat) (P Q : Nat → Int32) (w : Nat) (f ll : Int32) (SQ : Nat → Int64) (al : Int32) (i j : Nat) (rk : Int32) (hij : i < j) (hj : j < n) (hM : MR M n P Q (nI w) f ll) (hn : n ≤ 4) (hw : w = 1 ∨ w = 2) (hrk : 0 ≤ rk) (hB : btH (insA SQ 0 (laL P Q w i j)) (laL P Q w i j).length (bsL P Q i j)) : KIx l yX3_beatPeriod wsX3_beatPeriod ({ frames := 6, cells := 0, slots := 0, locals := 157 }) X [.ref mo, .int (nI i), .int (nI j), .int rk] [(mo, .inr (3, [.ref mp, .ref ms, .ref mt, .int sts, .int al, .ref mq, .long wd, .int wS, .int wo, .int fw])), (mp, .inl (X.2.1, 12, .inl (M))), (mq, .inl (X.2.2.1, 576, .inr (.inl (SQ))))] (fun u : Int32 × Int64 × Int32 × Int32 × Int32 × (Nat → Int64) => [(mo, .inr (3, [.ref mp, .ref ms, .ref mt, .int sts, .int u.1, .ref mq, .long u.2.1, .int u.2.2.1, .int u.2.2.2.1, .int u.2.2.2.2.1])), (mp, .inl (X.2.1, 12, .inl (M))), (mq, .inl (X.2.2.1, 576, .inr (.inl (u.2.2.2.2.2))))]) (fun _ => True) ((if plF (insA SQ 0 (laL P Q w i j)) (laL P Q w i j).length ((laL P Q w i j).length + 1) 0 rk = (laL P Q w i j).length then -4 else (if (insA SQ 0 (laL P Q w i j)) (plF (insA SQ 0 (laL P Q w i j)) (laL P Q w i j).length ((laL P Q w i j).length + 1) 0 rk) = 0 then -4 else (nI (isq (bsL P Q i j / ((insA SQ 0 (laL P Q w i j)) (plF (insA SQ 0 (laL P Q w i j)) (laL P Q w i j).length ((laL P Q w i j).length + 1) 0 rk))).toInt.toNat)).toInt64) : Int64).toInt32) := by
  refine k_ofIx (cc := cX3_beatPeriod) (own := RX3) (maxL := 4) (ret := (some .int)) (ls0 := [(0, .ref mo), (1, .int (nI i)), (2, .int (nI j)), (3, .int rk)]) (by decide) rfl rfl (Nat.le_of_ble_eq_true rfl) rfl ?_
  intro p e s m args below meth c A g C hr hlk
  refine s_aload_n C (pc := 0) dX3_beatPeriod_0 rfl 0 rfl ?_
  refine s_iload_n C (pc := 1) dX3_beatPeriod_1 rfl 1 rfl ?_
  refine s_iload_n C (pc := 2) dX3_beatPeriod_2 rfl 2 rfl ?_
  refine s_iload_n C (pc := 3) dX3_beatPeriod_3 rfl 3 rfl ?_
  refine s_iconst C (pc := 4) (v := 3) dX3_beatPeriod_4 (by decide) ?_
  refine s_calllX C (pc := 5) (wr := []) (wc' := (fun u5_1 : Int32 × Int64 × Int32 × Int32 × Int32 × (Nat → Int64) => [(mo, .inr (3, [.ref mp, .ref ms, .ref mt, .int sts, .int u5_1.1, .ref mq, .long u5_1.2.1, .int u5_1.2.2.1, .int u5_1.2.2.2.1, .int u5_1.2.2.2.2.1])), (mp, .inl (X.2.1, 12, .inl (M))), (mq, .inl (X.2.2.1, 576, .inr (.inl (u5_1.2.2.2.2.2))))])) (wn := (fun u5_1 : Int32 × Int64 × Int32 × Int32 × Int32 × (Nat → Int64) => [(mo, .inr (3, [.ref mp, .ref ms, .ref mt, .int sts, .int u5_1.1, .ref mq, .long u5_1.2.1, .int u5_1.2.2.1, .int u5_1.2.2.2.1, .int u5_1.2.2.2.2.1])), (mp, .inl (X.2.1, 12, .inl (M))), (mq, .inl (X.2.2.1, 576, .inr (.inl (u5_1.2.2.2.2.2))))])) (r_V C (As := [.int (nI i), .int (nI j), .int rk, .int 3]) (rest := []) (kX3_beat_3 l X mo mp ms mt mq sts wd wS wo fw M n P Q w f ll SQ al i j rk (by first | assumption | omega | decide) (by first | assumption | omega | decide) (by first | assumption | omega | decide) (by first | assumption | omega | decide) (by first | assumption | omega | decide) (by first | assumption | omega | decide) (by first | assumption | omega | decide)) (cwV 4 C.ts gX3_beatPeriod_X3_beat rfl rfl rfl (by decide +kernel) ⟨Nat.le_of_ble_eq_true rfl, Nat.le_of_ble_eq_true rfl⟩) (q0 := 0) rfl rfl [0, 1, 2] (by decide) rfl rfl (Nat.le_of_ble_eq_true rfl) rfl dX3_beatPeriod_5 ⟨Nat.zero_le _, Nat.zero_le _⟩) [0, 1, 2] [] [0, 1, 2] rfl rfl (by decide) (by decide) (by decide) (fun _ => rfl) (fun u5_1 _ => ?_)
  refine s_l2i C (pc := 8) dX3_beatPeriod_8 ?_
  exact s_iretX C (pc := 9) hr hlk ((u5_1.1, u5_1.2.1, u5_1.2.2.1, u5_1.2.2.2.1, u5_1.2.2.2.2.1, u5_1.2.2.2.2.2)) trivial [0, 1, 2] (by decide) (rfl) (rfl) dX3_beatPeriod_9

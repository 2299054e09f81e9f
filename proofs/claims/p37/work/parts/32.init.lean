/-! the constructors -/
set_option maxHeartbeats 4000000 in
theorem kX1_init (l : Launch) (X : XT) (h : Nat) : KN l yX1_init wsX1_init ({ frames := 1, cells := 2, slots := 8, locals := 20 }) X [.ref h] [(h, .inr (1, [.null, .null, .int 0, .int 0, .int 0, .int 0]))] (fun u : Nat × Nat => [(h, .inr (1, [.ref u.1, .ref u.2, .int 0, .int 1, .int 10, .int 500])), (u.1, .inl (X.2.1, 4, .inl (fun _ => 0))), (u.2, .inl (X.2.1, 4, .inl (fun _ => 0)))]) 2 8 := by
  refine k_ofN (cc := cX1_init) (own := RX1) (maxL := 1) (ls0 := [(0, .ref h)]) (by decide) rfl rfl (Nat.le_of_ble_eq_true rfl) rfl ?_
  intro p e s m args below meth c A g C hret hlk hnm
  refine s_aload_n C dX1_init_0 rfl 0 rfl ?_
  refine s_oinit C (List.mem_of_getElem? (i := 1) rfl) (List.mem_of_getElem? (i := 2) rfl) (List.mem_of_getElem? (i := 3) rfl) (Nat.le_of_ble_eq_true rfl) (Nat.le_of_ble_eq_true rfl) (Nat.le_of_ble_eq_true rfl) dX1_init_1 ?_
  refine s_aload_n C (pc := 4) dX1_init_4 rfl 0 rfl ?_
  refine s_iconst C (pc := 5) (v := 4) dX1_init_5 rfl ?_
  refine s_newa C (pc := 6) (atype := .int) (ty := .int) (N := 4) (a0 := (4, .inl (fun _ => 0))) (List.mem_of_getElem? (i := 4) rfl) rfl 0 rfl (fun _ h => h) (fun _ => rfl) (by decide) (by decide) (by decide) (by decide) (by decide) dX1_init_6 (fun q1 g1 C1 => ?_)
  refine s_putF C1 hnm (pc := 8) (T := TX1) (N := 6) (ws' := [(h, .inr (1, [.ref q1, .null, .int 0, .int 0, .int 0, .int 0])), (q1, .inl (X.2.1, 4, .inl (fun _ => 0)))]) (fun _ h => (List.mem_cons_of_mem _ (List.mem_append_right _ h))) 0 rfl rfl tyX1 tyX1_ok nmX1 0 (by decide) (List.mem_of_getElem? (i := 5) rfl) rfl rfl rfl rfl rfl (Nat.le_of_ble_eq_true rfl) rfl dX1_init_8 ?_
  refine s_aload_n C1 (pc := 11) dX1_init_11 rfl 0 rfl ?_
  refine s_iconst C1 (pc := 12) (v := 4) dX1_init_12 rfl ?_
  refine s_newa C1 (pc := 13) (atype := .int) (ty := .int) (N := 4) (a0 := (4, .inl (fun _ => 0))) (List.mem_of_getElem? (i := 4) rfl) rfl 0 rfl (fun _ h => h) (fun _ => rfl) (by decide) (by decide) (by decide) (by decide) (by decide) dX1_init_13 (fun q2 g2 C2 => ?_)
  refine s_putF C2 hnm (pc := 15) (T := TX1) (N := 6) (ws' := [(h, .inr (1, [.ref q1, .ref q2, .int 0, .int 0, .int 0, .int 0])), (q1, .inl (X.2.1, 4, .inl (fun _ => 0))), (q2, .inl (X.2.1, 4, .inl (fun _ => 0)))]) (fun _ h => (List.mem_cons_of_mem _ (List.mem_append_right _ h))) 0 rfl rfl tyX1 tyX1_ok nmX1 1 (by decide) (List.mem_of_getElem? (i := 6) rfl) rfl rfl rfl rfl rfl (Nat.le_of_ble_eq_true rfl) rfl dX1_init_15 ?_
  refine s_aload_n C2 (pc := 18) dX1_init_18 rfl 0 rfl ?_
  refine s_iconst C2 (pc := 19) (v := 0) dX1_init_19 rfl ?_
  refine s_put C2 (pc := 20) (T := TX1) (N := 6) (ws' := [(h, .inr (1, [.ref q1, .ref q2, .int 0, .int 0, .int 0, .int 0])), (q1, .inl (X.2.1, 4, .inl (fun _ => 0))), (q2, .inl (X.2.1, 4, .inl (fun _ => 0)))]) (fun _ h => (List.mem_cons_of_mem _ (List.mem_append_right _ h))) 0 rfl rfl tyX1 tyX1_ok nmX1 2 (by decide) (List.mem_of_getElem? (i := 7) rfl) rfl rfl rfl rfl (Nat.le_of_ble_eq_true rfl) rfl dX1_init_20 ?_
  refine s_aload_n C2 (pc := 23) dX1_init_23 rfl 0 rfl ?_
  refine s_iconst C2 (pc := 24) (v := 1) dX1_init_24 rfl ?_
  refine s_put C2 (pc := 25) (T := TX1) (N := 6) (ws' := [(h, .inr (1, [.ref q1, .ref q2, .int 0, .int 1, .int 0, .int 0])), (q1, .inl (X.2.1, 4, .inl (fun _ => 0))), (q2, .inl (X.2.1, 4, .inl (fun _ => 0)))]) (fun _ h => (List.mem_cons_of_mem _ (List.mem_append_right _ h))) 0 rfl rfl tyX1 tyX1_ok nmX1 3 (by decide) (List.mem_of_getElem? (i := 8) rfl) rfl rfl rfl rfl (Nat.le_of_ble_eq_true rfl) rfl dX1_init_25 ?_
  refine s_aload_n C2 (pc := 28) dX1_init_28 rfl 0 rfl ?_
  refine s_bipush C2 (pc := 29) (v := 10) dX1_init_29 rfl ?_
  refine s_put C2 (pc := 31) (T := TX1) (N := 6) (ws' := [(h, .inr (1, [.ref q1, .ref q2, .int 0, .int 1, .int 10, .int 0])), (q1, .inl (X.2.1, 4, .inl (fun _ => 0))), (q2, .inl (X.2.1, 4, .inl (fun _ => 0)))]) (fun _ h => (List.mem_cons_of_mem _ (List.mem_append_right _ h))) 0 rfl rfl tyX1 tyX1_ok nmX1 4 (by decide) (List.mem_of_getElem? (i := 9) rfl) rfl rfl rfl rfl (Nat.le_of_ble_eq_true rfl) rfl dX1_init_31 ?_
  refine s_aload_n C2 (pc := 34) dX1_init_34 rfl 0 rfl ?_
  refine s_sipush C2 (pc := 35) (v := 500) dX1_init_35 rfl ?_
  refine s_put C2 (pc := 38) (T := TX1) (N := 6) (ws' := [(h, .inr (1, [.ref q1, .ref q2, .int 0, .int 1, .int 10, .int 500])), (q1, .inl (X.2.1, 4, .inl (fun _ => 0))), (q2, .inl (X.2.1, 4, .inl (fun _ => 0)))]) (fun _ h => (List.mem_cons_of_mem _ (List.mem_append_right _ h))) 0 rfl rfl tyX1 tyX1_ok nmX1 5 (by decide) (List.mem_of_getElem? (i := 10) rfl) rfl rfl rfl rfl (Nat.le_of_ble_eq_true rfl) rfl dX1_init_38 ?_
  exact s_vretN (pc := 41) C2 hret hlk (q1, q2) [0, 1, 2] (by decide) rfl dX1_init_41
set_option maxHeartbeats 4000000 in
theorem kX0_init (l : Launch) (X : XT) (h : Nat) : KN l yX0_init wsX0_init ({ frames := 1, cells := 1, slots := 144, locals := 20 }) X [.ref h] [(h, .inr (0, [.null, .int 0, .long 0, .long 0, .long 0]))] (fun u : Nat => [(h, .inr (0, [.ref u, .int 0, .long 1, .long 1, .long 1])), (u, .inl (X.2.1, 144, .inl (fun _ => 0)))]) 1 144 := by
  refine k_ofN (cc := cX0_init) (own := RX0) (maxL := 1) (ls0 := [(0, .ref h)]) (by decide) rfl rfl (Nat.le_of_ble_eq_true rfl) rfl ?_
  intro p e s m args below meth c A g C hret hlk hnm
  refine s_aload_n C dX0_init_0 rfl 0 rfl ?_
  refine s_oinit C (List.mem_of_getElem? (i := 1) rfl) (List.mem_of_getElem? (i := 2) rfl) (List.mem_of_getElem? (i := 3) rfl) (Nat.le_of_ble_eq_true rfl) (Nat.le_of_ble_eq_true rfl) (Nat.le_of_ble_eq_true rfl) dX0_init_1 ?_
  refine s_aload_n C (pc := 4) dX0_init_4 rfl 0 rfl ?_
  refine s_sipush C (pc := 5) (v := 144) dX0_init_5 rfl ?_
  refine s_newa C (pc := 8) (atype := .int) (ty := .int) (N := 144) (a0 := (144, .inl (fun _ => 0))) (List.mem_of_getElem? (i := 4) rfl) rfl 0 rfl (fun _ h => h) (fun _ => rfl) (by decide) (by decide) (by decide) (by decide) (by decide) dX0_init_8 (fun q1 g1 C1 => ?_)
  refine s_putF C1 hnm (pc := 10) (T := TX0) (N := 5) (ws' := [(h, .inr (0, [.ref q1, .int 0, .long 0, .long 0, .long 0])), (q1, .inl (X.2.1, 144, .inl (fun _ => 0)))]) (fun _ h => (List.mem_cons_of_mem _ (List.mem_append_right _ h))) 0 rfl rfl tyX0 tyX0_ok nmX0 0 (by decide) (List.mem_of_getElem? (i := 5) rfl) rfl rfl rfl rfl rfl (Nat.le_of_ble_eq_true rfl) rfl dX0_init_10 ?_
  refine s_aload_n C1 (pc := 13) dX0_init_13 rfl 0 rfl ?_
  refine s_lconst C1 (pc := 14) (v := 1) dX0_init_14 rfl ?_
  refine s_put C1 (pc := 15) (T := TX0) (N := 5) (ws' := [(h, .inr (0, [.ref q1, .int 0, .long 1, .long 0, .long 0])), (q1, .inl (X.2.1, 144, .inl (fun _ => 0)))]) (fun _ h => (List.mem_cons_of_mem _ (List.mem_append_right _ h))) 0 rfl rfl tyX0 tyX0_ok nmX0 2 (by decide) (List.mem_of_getElem? (i := 6) rfl) rfl rfl rfl rfl (Nat.le_of_ble_eq_true rfl) rfl dX0_init_15 ?_
  refine s_aload_n C1 (pc := 18) dX0_init_18 rfl 0 rfl ?_
  refine s_lconst C1 (pc := 19) (v := 1) dX0_init_19 rfl ?_
  refine s_put C1 (pc := 20) (T := TX0) (N := 5) (ws' := [(h, .inr (0, [.ref q1, .int 0, .long 1, .long 1, .long 0])), (q1, .inl (X.2.1, 144, .inl (fun _ => 0)))]) (fun _ h => (List.mem_cons_of_mem _ (List.mem_append_right _ h))) 0 rfl rfl tyX0 tyX0_ok nmX0 3 (by decide) (List.mem_of_getElem? (i := 7) rfl) rfl rfl rfl rfl (Nat.le_of_ble_eq_true rfl) rfl dX0_init_20 ?_
  refine s_aload_n C1 (pc := 23) dX0_init_23 rfl 0 rfl ?_
  refine s_lconst C1 (pc := 24) (v := 1) dX0_init_24 rfl ?_
  refine s_put C1 (pc := 25) (T := TX0) (N := 5) (ws' := [(h, .inr (0, [.ref q1, .int 0, .long 1, .long 1, .long 1])), (q1, .inl (X.2.1, 144, .inl (fun _ => 0)))]) (fun _ h => (List.mem_cons_of_mem _ (List.mem_append_right _ h))) 0 rfl rfl tyX0 tyX0_ok nmX0 4 (by decide) (List.mem_of_getElem? (i := 8) rfl) rfl rfl rfl rfl (Nat.le_of_ble_eq_true rfl) rfl dX0_init_25 ?_
  exact s_vretN (pc := 28) C1 hret hlk q1 [0, 1] (by decide) rfl dX0_init_28

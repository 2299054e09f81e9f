set_option maxHeartbeats 4000000 in
set_option maxRecDepth 100000 in
theorem kX1_has (l : Launch) (X : XT) (h hp hq n : Nat) (P Q : Nat → Int32) (o f ll : Int32) (i : Int32) (hn : n ≤ 4) : KI l yX1_has wsX1_has ({ frames := 0, cells := 0, slots := 0, locals := 0 }) X [.ref h, .int i] [(h, .inr (1, [.ref hp, .ref hq, .int (nI n), .int o, .int f, .int ll])), (hp, .inl (X.2.1, 4, .inl (P))), (hq, .inl (X.2.1, 4, .inl (Q)))] [(h, .inr (1, [.ref hp, .ref hq, .int (nI n), .int o, .int f, .int ll])), (hp, .inl (X.2.1, 4, .inl (P))), (hq, .inl (X.2.1, 4, .inl (Q)))] (bI (hv n i)) := by
  refine k_ofI (cc := cX1_has) (own := RX1) (maxL := 2) (ret := (some .boolean)) (ls0 := [(0, .ref h), (1, .int i)]) (by decide) rfl rfl (Nat.le_of_ble_eq_true rfl) rfl ?_
  intro p e s m args below meth c A g C hr hlk
  refine s_iload_n C (pc := 0) dX1_has_0 rfl 1 rfl ?_
  refine s_if_lt C (pc := 1) (tgt := 21) dX1_has_1 (by decide) (fun c1 => ?_) (fun c1 => ?_)
  · skip
    refine s_iconst C (pc := 21) (v := 0) dX1_has_21 (by decide) ?_
    exact s_zret C (pc := 22) hr hlk [0, 1, 2] (by decide) (rfl) rfl ((bI_neg (fun hh => absurd c1 (Int32.not_lt.mpr hh.1))).symm) dX1_has_22
  · skip
    refine s_iload_n C (pc := 4) dX1_has_4 rfl 1 rfl ?_
    refine s_aload_n C (pc := 5) dX1_has_5 rfl 0 rfl ?_
    refine s_get C (pc := 6) (T := TX1) (N := 6) (fun _ h => (List.mem_cons_of_mem _ (List.mem_append_right _ h))) 0 rfl rfl 2 (by decide) (List.mem_of_getElem? (i := 1) rfl) rfl rfl dX1_has_6 ?_
    refine s_icmp_ge C (pc := 9) (tgt := 21) dX1_has_9 (by decide) (fun c9 => ?_) (fun c9 => ?_)
    · skip
      refine s_iconst C (pc := 21) (v := 0) dX1_has_21 (by decide) ?_
      exact s_zret C (pc := 22) hr hlk [0, 1, 2] (by decide) (rfl) rfl ((bI_neg (fun hh => absurd c9 (Int32.not_le.mpr hh.2))).symm) dX1_has_22
    · skip
      refine s_iload_n C (pc := 12) dX1_has_12 rfl 1 rfl ?_
      refine s_iconst C (pc := 13) (v := 4) dX1_has_13 (by decide) ?_
      refine s_icmp_ge C (pc := 14) (tgt := 21) dX1_has_14 (by decide) (fun c14 => ?_) (fun c14 => ?_)
      · skip
        refine s_iconst C (pc := 21) (v := 0) dX1_has_21 (by decide) ?_
        exact s_zret C (pc := 22) hr hlk [0, 1, 2] (by decide) (rfl) rfl ((bI_neg (fun hh => absurd (Int32.lt_of_lt_of_le hh.2 ((nI_leI (a := n) (b := 4) (by omega) (by omega)).mpr hn)) (Int32.not_lt.mpr c14))).symm) dX1_has_22
      · skip
        refine s_iconst C (pc := 17) (v := 1) dX1_has_17 (by decide) ?_
        refine s_goto C (pc := 18) (tgt := 22) dX1_has_18 (by decide) ?_
        exact s_zret C (pc := 22) hr hlk [0, 1, 2] (by decide) (rfl) rfl ((bI_pos ⟨Int32.not_lt.mp c1, Int32.not_le.mp c9⟩).symm) dX1_has_22

set_option maxHeartbeats 4000000 in
set_option maxRecDepth 100000 in
theorem kX1_pOf (l : Launch) (X : XT) (h hp hq n : Nat) (P Q : Nat → Int32) (o f ll : Int32) (k : Nat) (hk : k < n) (hn : n ≤ 4) : KI l yX1_pOf wsX1_pOf ({ frames := 1, cells := 0, slots := 0, locals := 21 }) X [.ref h, .int (nI k)] [(h, .inr (1, [.ref hp, .ref hq, .int (nI n), .int o, .int f, .int ll])), (hp, .inl (X.2.1, 4, .inl (P))), (hq, .inl (X.2.1, 4, .inl (Q)))] [(h, .inr (1, [.ref hp, .ref hq, .int (nI n), .int o, .int f, .int ll])), (hp, .inl (X.2.1, 4, .inl (P))), (hq, .inl (X.2.1, 4, .inl (Q)))] (P k) := by
  refine k_ofI (cc := cX1_pOf) (own := RX1) (maxL := 2) (ret := (some .int)) (ls0 := [(0, .ref h), (1, .int (nI k))]) (by decide) rfl rfl (Nat.le_of_ble_eq_true rfl) rfl ?_
  intro p e s m args below meth c A g C hr hlk
  refine s_aload_n C (pc := 0) dX1_pOf_0 rfl 0 rfl ?_
  refine s_iload_n C (pc := 1) dX1_pOf_1 rfl 1 rfl ?_
  refine s_calli C (pc := 2) (wr := []) (wc' := [(h, .inr (1, [.ref hp, .ref hq, .int (nI n), .int o, .int f, .int ll])), (hp, .inl (X.2.1, 4, .inl (P))), (hq, .inl (X.2.1, 4, .inl (Q)))]) (wn := [(h, .inr (1, [.ref hp, .ref hq, .int (nI n), .int o, .int f, .int ll])), (hp, .inl (X.2.1, 4, .inl (P))), (hq, .inl (X.2.1, 4, .inl (Q)))]) (r_V C (As := [.int (nI k)]) (rest := []) (kX1_has l X h hp hq n P Q o f ll (nI k) (by first | assumption | omega | decide)) (cwV 1 C.ts gX1_pOf_X1_has rfl rfl rfl (by decide +kernel) ⟨Nat.le_of_ble_eq_true rfl, Nat.le_of_ble_eq_true rfl⟩) (q0 := 0) rfl rfl [0, 1, 2] (by decide) rfl rfl (Nat.le_of_ble_eq_true rfl) rfl dX1_pOf_2 ⟨Nat.zero_le _, Nat.zero_le _⟩) [0, 1, 2] [] [0, 1, 2] rfl rfl (by decide) (by decide) (by decide) rfl ?_
  refine s_bif_eq C (pc := 5) (tgt := 17) dX1_pOf_5 (by decide) (fun h => absurd (hv_of (by omega) (by omega)) h) (fun c5 => ?_)
  refine s_aload_n C (pc := 8) dX1_pOf_8 rfl 0 rfl ?_
  refine s_get C (pc := 9) (T := TX1) (N := 6) (fun _ h => (List.mem_cons_of_mem _ (List.mem_append_right _ h))) 0 rfl rfl 0 (by decide) (List.mem_of_getElem? (i := 1) rfl) rfl rfl dX1_pOf_9 ?_
  refine s_iload_n C (pc := 12) dX1_pOf_12 rfl 1 rfl ?_
  refine s_iald C (pc := 13) 1 rfl k rfl (by omega) (by decide) dX1_pOf_13 ?_
  refine s_goto C (pc := 14) (tgt := 18) dX1_pOf_14 (by decide) ?_
  exact s_iret C (pc := 18) hr hlk [0, 1, 2] (by decide) (rfl) (rfl) dX1_pOf_18

set_option maxHeartbeats 4000000 in
set_option maxRecDepth 100000 in
theorem kX1_qOf (l : Launch) (X : XT) (h hp hq n : Nat) (P Q : Nat → Int32) (o f ll : Int32) (k : Nat) (hk : k < n) (hn : n ≤ 4) : KI l yX1_qOf wsX1_qOf ({ frames := 1, cells := 0, slots := 0, locals := 21 }) X [.ref h, .int (nI k)] [(h, .inr (1, [.ref hp, .ref hq, .int (nI n), .int o, .int f, .int ll])), (hp, .inl (X.2.1, 4, .inl (P))), (hq, .inl (X.2.1, 4, .inl (Q)))] [(h, .inr (1, [.ref hp, .ref hq, .int (nI n), .int o, .int f, .int ll])), (hp, .inl (X.2.1, 4, .inl (P))), (hq, .inl (X.2.1, 4, .inl (Q)))] (Q k) := by
  refine k_ofI (cc := cX1_qOf) (own := RX1) (maxL := 2) (ret := (some .int)) (ls0 := [(0, .ref h), (1, .int (nI k))]) (by decide) rfl rfl (Nat.le_of_ble_eq_true rfl) rfl ?_
  intro p e s m args below meth c A g C hr hlk
  refine s_aload_n C (pc := 0) dX1_qOf_0 rfl 0 rfl ?_
  refine s_iload_n C (pc := 1) dX1_qOf_1 rfl 1 rfl ?_
  refine s_calli C (pc := 2) (wr := []) (wc' := [(h, .inr (1, [.ref hp, .ref hq, .int (nI n), .int o, .int f, .int ll])), (hp, .inl (X.2.1, 4, .inl (P))), (hq, .inl (X.2.1, 4, .inl (Q)))]) (wn := [(h, .inr (1, [.ref hp, .ref hq, .int (nI n), .int o, .int f, .int ll])), (hp, .inl (X.2.1, 4, .inl (P))), (hq, .inl (X.2.1, 4, .inl (Q)))]) (r_V C (As := [.int (nI k)]) (rest := []) (kX1_has l X h hp hq n P Q o f ll (nI k) (by first | assumption | omega | decide)) (cwV 1 C.ts gX1_qOf_X1_has rfl rfl rfl (by decide +kernel) ⟨Nat.le_of_ble_eq_true rfl, Nat.le_of_ble_eq_true rfl⟩) (q0 := 0) rfl rfl [0, 1, 2] (by decide) rfl rfl (Nat.le_of_ble_eq_true rfl) rfl dX1_qOf_2 ⟨Nat.zero_le _, Nat.zero_le _⟩) [0, 1, 2] [] [0, 1, 2] rfl rfl (by decide) (by decide) (by decide) rfl ?_
  refine s_bif_eq C (pc := 5) (tgt := 17) dX1_qOf_5 (by decide) (fun h => absurd (hv_of (by omega) (by omega)) h) (fun c5 => ?_)
  refine s_aload_n C (pc := 8) dX1_qOf_8 rfl 0 rfl ?_
  refine s_get C (pc := 9) (T := TX1) (N := 6) (fun _ h => (List.mem_cons_of_mem _ (List.mem_append_right _ h))) 0 rfl rfl 1 (by decide) (List.mem_of_getElem? (i := 1) rfl) rfl rfl dX1_qOf_9 ?_
  refine s_iload_n C (pc := 12) dX1_qOf_12 rfl 1 rfl ?_
  refine s_iald C (pc := 13) 2 rfl k rfl (by omega) (by decide) dX1_qOf_13 ?_
  refine s_goto C (pc := 14) (tgt := 18) dX1_qOf_14 (by decide) ?_
  exact s_iret C (pc := 18) hr hlk [0, 1, 2] (by decide) (rfl) (rfl) dX1_qOf_18

set_option maxHeartbeats 4000000 in
set_option maxRecDepth 100000 in
theorem kX1_areaOf (l : Launch) (X : XT) (h hp hq n : Nat) (P Q : Nat → Int32) (o f ll : Int32) (k : Nat) (hk : k < n) (hn : n ≤ 4) : KI l yX1_areaOf wsX1_areaOf ({ frames := 1, cells := 0, slots := 0, locals := 21 }) X [.ref h, .int (nI k)] [(h, .inr (1, [.ref hp, .ref hq, .int (nI n), .int o, .int f, .int ll])), (hp, .inl (X.2.1, 4, .inl (P))), (hq, .inl (X.2.1, 4, .inl (Q)))] [(h, .inr (1, [.ref hp, .ref hq, .int (nI n), .int o, .int f, .int ll])), (hp, .inl (X.2.1, 4, .inl (P))), (hq, .inl (X.2.1, 4, .inl (Q)))] (ar P Q k) := by
  refine k_ofI (cc := cX1_areaOf) (own := RX1) (maxL := 2) (ret := (some .int)) (ls0 := [(0, .ref h), (1, .int (nI k))]) (by decide) rfl rfl (Nat.le_of_ble_eq_true rfl) rfl ?_
  intro p e s m args below meth c A g C hr hlk
  refine s_aload_n C (pc := 0) dX1_areaOf_0 rfl 0 rfl ?_
  refine s_iload_n C (pc := 1) dX1_areaOf_1 rfl 1 rfl ?_
  refine s_calli C (pc := 2) (wr := []) (wc' := [(h, .inr (1, [.ref hp, .ref hq, .int (nI n), .int o, .int f, .int ll])), (hp, .inl (X.2.1, 4, .inl (P))), (hq, .inl (X.2.1, 4, .inl (Q)))]) (wn := [(h, .inr (1, [.ref hp, .ref hq, .int (nI n), .int o, .int f, .int ll])), (hp, .inl (X.2.1, 4, .inl (P))), (hq, .inl (X.2.1, 4, .inl (Q)))]) (r_V C (As := [.int (nI k)]) (rest := []) (kX1_has l X h hp hq n P Q o f ll (nI k) (by first | assumption | omega | decide)) (cwV 1 C.ts gX1_areaOf_X1_has rfl rfl rfl (by decide +kernel) ⟨Nat.le_of_ble_eq_true rfl, Nat.le_of_ble_eq_true rfl⟩) (q0 := 0) rfl rfl [0, 1, 2] (by decide) rfl rfl (Nat.le_of_ble_eq_true rfl) rfl dX1_areaOf_2 ⟨Nat.zero_le _, Nat.zero_le _⟩) [0, 1, 2] [] [0, 1, 2] rfl rfl (by decide) (by decide) (by decide) rfl ?_
  refine s_bif_eq C (pc := 5) (tgt := 38) dX1_areaOf_5 (by decide) (fun h => absurd (hv_of (by omega) (by omega)) h) (fun c5 => ?_)
  refine s_aload_n C (pc := 8) dX1_areaOf_8 rfl 0 rfl ?_
  refine s_get C (pc := 9) (T := TX1) (N := 6) (fun _ h => (List.mem_cons_of_mem _ (List.mem_append_right _ h))) 0 rfl rfl 0 (by decide) (List.mem_of_getElem? (i := 1) rfl) rfl rfl dX1_areaOf_9 ?_
  refine s_iload_n C (pc := 12) dX1_areaOf_12 rfl 1 rfl ?_
  refine s_iald C (pc := 13) 1 rfl k rfl (by omega) (by decide) dX1_areaOf_13 ?_
  refine s_aload_n C (pc := 14) dX1_areaOf_14 rfl 0 rfl ?_
  refine s_get C (pc := 15) (T := TX1) (N := 6) (fun _ h => (List.mem_cons_of_mem _ (List.mem_append_right _ h))) 0 rfl rfl 0 (by decide) (List.mem_of_getElem? (i := 1) rfl) rfl rfl dX1_areaOf_15 ?_
  refine s_iload_n C (pc := 18) dX1_areaOf_18 rfl 1 rfl ?_
  refine s_iald C (pc := 19) 1 rfl k rfl (by omega) (by decide) dX1_areaOf_19 ?_
  refine s_imul C (pc := 20) dX1_areaOf_20 ?_
  refine s_aload_n C (pc := 21) dX1_areaOf_21 rfl 0 rfl ?_
  refine s_get C (pc := 22) (T := TX1) (N := 6) (fun _ h => (List.mem_cons_of_mem _ (List.mem_append_right _ h))) 0 rfl rfl 1 (by decide) (List.mem_of_getElem? (i := 2) rfl) rfl rfl dX1_areaOf_22 ?_
  refine s_iload_n C (pc := 25) dX1_areaOf_25 rfl 1 rfl ?_
  refine s_iald C (pc := 26) 2 rfl k rfl (by omega) (by decide) dX1_areaOf_26 ?_
  refine s_aload_n C (pc := 27) dX1_areaOf_27 rfl 0 rfl ?_
  refine s_get C (pc := 28) (T := TX1) (N := 6) (fun _ h => (List.mem_cons_of_mem _ (List.mem_append_right _ h))) 0 rfl rfl 1 (by decide) (List.mem_of_getElem? (i := 2) rfl) rfl rfl dX1_areaOf_28 ?_
  refine s_iload_n C (pc := 31) dX1_areaOf_31 rfl 1 rfl ?_
  refine s_iald C (pc := 32) 2 rfl k rfl (by omega) (by decide) dX1_areaOf_32 ?_
  refine s_imul C (pc := 33) dX1_areaOf_33 ?_
  refine s_iadd C (pc := 34) dX1_areaOf_34 ?_
  refine s_goto C (pc := 35) (tgt := 39) dX1_areaOf_35 (by decide) ?_
  exact s_iret C (pc := 39) hr hlk [0, 1, 2] (by decide) (rfl) (rfl) dX1_areaOf_39

set_option maxHeartbeats 4000000 in
set_option maxRecDepth 100000 in
theorem kX1_put (l : Launch) (X : XT) (h hp hq n : Nat) (P Q : Nat → Int32) (o f ll : Int32) (k : Nat) (x y : Int32) (hk : k < n) (hn : n ≤ 4) : KV l yX1_put wsX1_put ({ frames := 1, cells := 0, slots := 0, locals := 21 }) X [.ref h, .int (nI k), .int x, .int y] [(h, .inr (1, [.ref hp, .ref hq, .int (nI n), .int o, .int f, .int ll])), (hp, .inl (X.2.1, 4, .inl (P))), (hq, .inl (X.2.1, 4, .inl (Q)))] [(h, .inr (1, [.ref hp, .ref hq, .int (nI n), .int o, .int f, .int ll])), (hp, .inl (X.2.1, 4, .inl (upd P k x))), (hq, .inl (X.2.1, 4, .inl (upd Q k y)))] := by
  refine k_ofV (cc := cX1_put) (own := RX1) (maxL := 4) (ret := none) (ls0 := [(0, .ref h), (1, .int (nI k)), (2, .int x), (3, .int y)]) (by decide) rfl rfl (Nat.le_of_ble_eq_true rfl) rfl ?_
  intro p e s m args below meth c A g C hr hlk
  refine s_aload_n C (pc := 0) dX1_put_0 rfl 0 rfl ?_
  refine s_iload_n C (pc := 1) dX1_put_1 rfl 1 rfl ?_
  refine s_calli C (pc := 2) (wr := []) (wc' := [(h, .inr (1, [.ref hp, .ref hq, .int (nI n), .int o, .int f, .int ll])), (hp, .inl (X.2.1, 4, .inl (P))), (hq, .inl (X.2.1, 4, .inl (Q)))]) (wn := [(h, .inr (1, [.ref hp, .ref hq, .int (nI n), .int o, .int f, .int ll])), (hp, .inl (X.2.1, 4, .inl (P))), (hq, .inl (X.2.1, 4, .inl (Q)))]) (r_V C (As := [.int (nI k)]) (rest := []) (kX1_has l X h hp hq n P Q o f ll (nI k) (by first | assumption | omega | decide)) (cwV 1 C.ts gX1_put_X1_has rfl rfl rfl (by decide +kernel) ⟨Nat.le_of_ble_eq_true rfl, Nat.le_of_ble_eq_true rfl⟩) (q0 := 0) rfl rfl [0, 1, 2] (by decide) rfl rfl (Nat.le_of_ble_eq_true rfl) rfl dX1_put_2 ⟨Nat.zero_le _, Nat.zero_le _⟩) [0, 1, 2] [] [0, 1, 2] rfl rfl (by decide) (by decide) (by decide) rfl ?_
  refine s_bif_eq C (pc := 5) (tgt := 22) dX1_put_5 (by decide) (fun h => absurd (hv_of (by omega) (by omega)) h) (fun c5 => ?_)
  refine s_aload_n C (pc := 8) dX1_put_8 rfl 0 rfl ?_
  refine s_get C (pc := 9) (T := TX1) (N := 6) (fun _ h => (List.mem_cons_of_mem _ (List.mem_append_right _ h))) 0 rfl rfl 0 (by decide) (List.mem_of_getElem? (i := 1) rfl) rfl rfl dX1_put_9 ?_
  refine s_iload_n C (pc := 12) dX1_put_12 rfl 1 rfl ?_
  refine s_iload_n C (pc := 13) dX1_put_13 rfl 2 rfl ?_
  refine s_iast C (pc := 14) (ws' := [(h, .inr (1, [.ref hp, .ref hq, .int (nI n), .int o, .int f, .int ll])), (hp, .inl (X.2.1, 4, .inl (upd P k x))), (hq, .inl (X.2.1, 4, .inl (Q)))]) 1 rfl k rfl (by omega) (by decide) rfl dX1_put_14 ?_
  refine s_aload_n C (pc := 15) dX1_put_15 rfl 0 rfl ?_
  refine s_get C (pc := 16) (T := TX1) (N := 6) (fun _ h => (List.mem_cons_of_mem _ (List.mem_append_right _ h))) 0 rfl rfl 1 (by decide) (List.mem_of_getElem? (i := 2) rfl) rfl rfl dX1_put_16 ?_
  refine s_iload_n C (pc := 19) dX1_put_19 rfl 1 rfl ?_
  refine s_iload_n C (pc := 20) dX1_put_20 rfl 3 rfl ?_
  refine s_iast C (pc := 21) (ws' := [(h, .inr (1, [.ref hp, .ref hq, .int (nI n), .int o, .int f, .int ll])), (hp, .inl (X.2.1, 4, .inl (upd P k x))), (hq, .inl (X.2.1, 4, .inl (upd Q k y)))]) 2 rfl k rfl (by omega) (by decide) rfl dX1_put_21 ?_
  exact s_vret C (pc := 22) hr hlk [0, 1, 2] (by decide) (rfl) dX1_put_22

set_option maxHeartbeats 4000000 in
set_option maxRecDepth 100000 in
theorem kX1_append (l : Launch) (X : XT) (h hp hq n : Nat) (P Q : Nat → Int32) (o f ll : Int32) (x y : Int32) (hn : n < 4) : KV l yX1_append wsX1_append ({ frames := 2, cells := 0, slots := 0, locals := 44 }) X [.ref h, .int x, .int y] [(h, .inr (1, [.ref hp, .ref hq, .int (nI n), .int o, .int f, .int ll])), (hp, .inl (X.2.1, 4, .inl (P))), (hq, .inl (X.2.1, 4, .inl (Q)))] [(h, .inr (1, [.ref hp, .ref hq, .int (nI (n + 1)), .int o, .int f, .int ll])), (hp, .inl (X.2.1, 4, .inl (upd P n x))), (hq, .inl (X.2.1, 4, .inl (upd Q n y)))] := by
  refine k_ofV (cc := cX1_append) (own := RX1) (maxL := 3) (ret := none) (ls0 := [(0, .ref h), (1, .int x), (2, .int y)]) (by decide) rfl rfl (Nat.le_of_ble_eq_true rfl) rfl ?_
  intro p e s m args below meth c A g C hr hlk
  refine s_aload_n C (pc := 0) dX1_append_0 rfl 0 rfl ?_
  refine s_get C (pc := 1) (T := TX1) (N := 6) (fun _ h => (List.mem_cons_of_mem _ (List.mem_append_right _ h))) 0 rfl rfl 2 (by decide) (List.mem_of_getElem? (i := 1) rfl) rfl rfl dX1_append_1 ?_
  refine s_iconst C (pc := 4) (v := 4) dX1_append_4 (by decide) ?_
  refine s_icmp_ge C (pc := 5) (tgt := 30) dX1_append_5 (by decide) (fun h => absurd h (fun h2 => absurd (nat_le (a := 4) (b := n) (by omega) (by omega) h2) (by omega))) (fun c5 => ?_)
  refine s_aload_n C (pc := 8) dX1_append_8 rfl 0 rfl ?_
  refine s_dup C (pc := 9) dX1_append_9 rfl ?_
  refine s_get C (pc := 10) (T := TX1) (N := 6) (fun _ h => (List.mem_cons_of_mem _ (List.mem_append_right _ h))) 0 rfl rfl 2 (by decide) (List.mem_of_getElem? (i := 1) rfl) rfl rfl dX1_append_10 ?_
  refine s_iconst C (pc := 13) (v := 1) dX1_append_13 (by decide) ?_
  refine s_iadd C (pc := 14) dX1_append_14 ?_
  refine s_top C (y := nI (n + 1)) (nI_add _ _) ?_
  refine s_put C (pc := 15) (T := TX1) (N := 6) (ws' := [(h, .inr (1, [.ref hp, .ref hq, .int (nI (n + 1)), .int o, .int f, .int ll])), (hp, .inl (X.2.1, 4, .inl (P))), (hq, .inl (X.2.1, 4, .inl (Q)))]) (fun _ h => (List.mem_cons_of_mem _ (List.mem_append_right _ h))) 0 rfl rfl tyX1 tyX1_ok nmX1 2 (by decide) (List.mem_of_getElem? (i := 1) rfl) rfl rfl rfl rfl (Nat.le_of_ble_eq_true rfl) rfl dX1_append_15 ?_
  refine s_aload_n C (pc := 18) dX1_append_18 rfl 0 rfl ?_
  refine s_aload_n C (pc := 19) dX1_append_19 rfl 0 rfl ?_
  refine s_get C (pc := 20) (T := TX1) (N := 6) (fun _ h => (List.mem_cons_of_mem _ (List.mem_append_right _ h))) 0 rfl rfl 2 (by decide) (List.mem_of_getElem? (i := 1) rfl) rfl rfl dX1_append_20 ?_
  refine s_iconst C (pc := 23) (v := 1) dX1_append_23 (by decide) ?_
  refine s_isub C (pc := 24) dX1_append_24 ?_
  refine s_top C (y := nI n) (nI_pred _) ?_
  refine s_iload_n C (pc := 25) dX1_append_25 rfl 1 rfl ?_
  refine s_iload_n C (pc := 26) dX1_append_26 rfl 2 rfl ?_
  refine s_callv C (pc := 27) (wr := []) (wc' := [(h, .inr (1, [.ref hp, .ref hq, .int (nI (n + 1)), .int o, .int f, .int ll])), (hp, .inl (X.2.1, 4, .inl (upd P n x))), (hq, .inl (X.2.1, 4, .inl (upd Q n y)))]) (wn := [(h, .inr (1, [.ref hp, .ref hq, .int (nI (n + 1)), .int o, .int f, .int ll])), (hp, .inl (X.2.1, 4, .inl (upd P n x))), (hq, .inl (X.2.1, 4, .inl (upd Q n y)))]) (r_V C (As := [.int (nI n), .int x, .int y]) (rest := []) (kX1_put l X h hp hq (n + 1) P Q o f ll n x y (by first | assumption | omega | decide) (by first | assumption | omega | decide)) (cwV 3 C.ts gX1_append_X1_put rfl rfl rfl (by decide +kernel) ⟨Nat.le_of_ble_eq_true rfl, Nat.le_of_ble_eq_true rfl⟩) (q0 := 0) rfl rfl [0, 1, 2] (by decide) rfl rfl (Nat.le_of_ble_eq_true rfl) rfl dX1_append_27 ⟨Nat.zero_le _, Nat.zero_le _⟩) [0, 1, 2] [] [0, 1, 2] rfl rfl (by decide) (by decide) (by decide) rfl ?_
  exact s_vret C (pc := 30) hr hlk [0, 1, 2] (by decide) (rfl) dX1_append_30

set_option maxHeartbeats 4000000 in
set_option maxRecDepth 100000 in
theorem kX1_drop (l : Launch) (X : XT) (h hp hq n : Nat) (P Q : Nat → Int32) (o f ll : Int32) (k : Nat) (hk : k ≤ n) (hn : n < 4) : KV l yX1_drop wsX1_drop ({ frames := 2, cells := 0, slots := 0, locals := 44 }) X [.ref h, .int (nI k)] [(h, .inr (1, [.ref hp, .ref hq, .int (nI (n + 1)), .int o, .int f, .int ll])), (hp, .inl (X.2.1, 4, .inl (P))), (hq, .inl (X.2.1, 4, .inl (Q)))] [(h, .inr (1, [.ref hp, .ref hq, .int (nI n), .int o, .int f, .int ll])), (hp, .inl (X.2.1, 4, .inl (shR P k (n - k)))), (hq, .inl (X.2.1, 4, .inl (shR Q k (n - k))))] := by
  refine k_ofV (cc := cX1_drop) (own := RX1) (maxL := 3) (ret := none) (ls0 := [(0, .ref h), (1, .int (nI k))]) (by decide) rfl rfl (Nat.le_of_ble_eq_true rfl) rfl ?_
  intro p e s m args below meth c A g C hr hlk
  refine s_aload_n C (pc := 0) dX1_drop_0 rfl 0 rfl ?_
  refine s_iload_n C (pc := 1) dX1_drop_1 rfl 1 rfl ?_
  refine s_calli C (pc := 2) (wr := []) (wc' := [(h, .inr (1, [.ref hp, .ref hq, .int (nI (n + 1)), .int o, .int f, .int ll])), (hp, .inl (X.2.1, 4, .inl (P))), (hq, .inl (X.2.1, 4, .inl (Q)))]) (wn := [(h, .inr (1, [.ref hp, .ref hq, .int (nI (n + 1)), .int o, .int f, .int ll])), (hp, .inl (X.2.1, 4, .inl (P))), (hq, .inl (X.2.1, 4, .inl (Q)))]) (r_V C (As := [.int (nI k)]) (rest := []) (kX1_has l X h hp hq (n + 1) P Q o f ll (nI k) (by first | assumption | omega | decide)) (cwV 1 C.ts gX1_drop_X1_has rfl rfl rfl (by decide +kernel) ⟨Nat.le_of_ble_eq_true rfl, Nat.le_of_ble_eq_true rfl⟩) (q0 := 0) rfl rfl [0, 1, 2] (by decide) rfl rfl (Nat.le_of_ble_eq_true rfl) rfl dX1_drop_2 ⟨Nat.zero_le _, Nat.zero_le _⟩) [0, 1, 2] [] [0, 1, 2] rfl rfl (by decide) (by decide) (by decide) rfl ?_
  refine s_bif_eq C (pc := 5) (tgt := 55) dX1_drop_5 (by decide) (fun h => absurd (hv_of (by omega) (by omega)) h) (fun c5 => ?_)
  refine s_iload_n C (pc := 8) dX1_drop_8 rfl 1 rfl ?_
  refine s_istore_n C (pc := 9) (ls' := [(2, .int (nI k)), (0, .ref h), (1, .int (nI k))]) dX1_drop_9 rfl (by decide) rfl ?_
  have L10 : ∀ (n_ : Nat) (d : Nat), (d ≤ n - k) → n - k + 1 ≤ d + n_ → g [(h, .inr (1, [.ref hp, .ref hq, .int (nI (n + 1)), .int o, .int f, .int ll])), (hp, .inl (X.2.1, 4, .inl ((shR P k d)))), (hq, .inl (X.2.1, 4, .inl ((shR Q k d))))] 10 [(0, .ref h), (1, .int (nI k)), (2, .int (nI (k + d)))] [] := by
    intro n_
    induction n_ with
    | zero =>
      intro d hd hf
      exact absurd hf (by omega)
    | succ n_ ih10 =>
      intro d hd hf10
      refine s_iload_n C (pc := 10) dX1_drop_10 rfl 2 rfl ?_
      refine s_aload_n C (pc := 11) dX1_drop_11 rfl 0 rfl ?_
      refine s_get C (pc := 12) (T := TX1) (N := 6) (fun _ h => (List.mem_cons_of_mem _ (List.mem_append_right _ h))) 0 rfl rfl 2 (by decide) (List.mem_of_getElem? (i := 1) rfl) rfl rfl dX1_drop_12 ?_
      refine s_iconst C (pc := 15) (v := 1) dX1_drop_15 (by decide) ?_
      refine s_isub C (pc := 16) dX1_drop_16 ?_
      refine s_top C (y := nI n) (nI_pred _) ?_
      refine s_icmp_ge C (pc := 17) (tgt := 45) dX1_drop_17 (by decide) (fun c17 => ?_) (fun c17 => ?_)
      · skip
        have e17 := nat_le (a := n) (b := (k + d)) (by omega) (by omega) c17
        have hs0 : n - k = d := by omega
        subst hs0
        refine s_aload_n C (pc := 45) dX1_drop_45 rfl 0 rfl ?_
        refine s_dup C (pc := 46) dX1_drop_46 rfl ?_
        refine s_get C (pc := 47) (T := TX1) (N := 6) (fun _ h => (List.mem_cons_of_mem _ (List.mem_append_right _ h))) 0 rfl rfl 2 (by decide) (List.mem_of_getElem? (i := 1) rfl) rfl rfl dX1_drop_47 ?_
        refine s_iconst C (pc := 50) (v := 1) dX1_drop_50 (by decide) ?_
        refine s_isub C (pc := 51) dX1_drop_51 ?_
        refine s_top C (y := nI n) (nI_pred _) ?_
        refine s_put C (pc := 52) (T := TX1) (N := 6) (ws' := [(h, .inr (1, [.ref hp, .ref hq, .int (nI n), .int o, .int f, .int ll])), (hp, .inl (X.2.1, 4, .inl ((shR P k (n - k))))), (hq, .inl (X.2.1, 4, .inl ((shR Q k (n - k)))))]) (fun _ h => (List.mem_cons_of_mem _ (List.mem_append_right _ h))) 0 rfl rfl tyX1 tyX1_ok nmX1 2 (by decide) (List.mem_of_getElem? (i := 1) rfl) rfl rfl rfl rfl (Nat.le_of_ble_eq_true rfl) rfl dX1_drop_52 ?_
        exact s_vret C (pc := 55) hr hlk [0, 1, 2] (by decide) (rfl) dX1_drop_55
      · skip
        have e17 := nat_nle (a := n) (b := (k + d)) (by omega) (by omega) c17
        refine s_aload_n C (pc := 20) dX1_drop_20 rfl 0 rfl ?_
        refine s_iload_n C (pc := 21) dX1_drop_21 rfl 2 rfl ?_
        refine s_aload_n C (pc := 22) dX1_drop_22 rfl 0 rfl ?_
        refine s_iload_n C (pc := 23) dX1_drop_23 rfl 2 rfl ?_
        refine s_iconst C (pc := 24) (v := 1) dX1_drop_24 (by decide) ?_
        refine s_iadd C (pc := 25) dX1_drop_25 ?_
        refine s_top C (y := nI ((k + d) + 1)) (nI_add _ _) ?_
        refine s_calli C (pc := 26) (wr := []) (wc' := [(h, .inr (1, [.ref hp, .ref hq, .int (nI (n + 1)), .int o, .int f, .int ll])), (hp, .inl (X.2.1, 4, .inl ((shR P k d)))), (hq, .inl (X.2.1, 4, .inl ((shR Q k d))))]) (wn := [(h, .inr (1, [.ref hp, .ref hq, .int (nI (n + 1)), .int o, .int f, .int ll])), (hp, .inl (X.2.1, 4, .inl ((shR P k d)))), (hq, .inl (X.2.1, 4, .inl ((shR Q k d))))]) (r_V C (As := [.int (nI ((k + d) + 1))]) (rest := [.int (nI (k + d)), .ref h]) (kX1_pOf l X h hp hq (n + 1) (shR P k d) (shR Q k d) o f ll ((k + d) + 1) (by first | assumption | omega | decide) (by first | assumption | omega | decide)) (cwV 1 C.ts gX1_drop_X1_pOf rfl rfl rfl (by decide +kernel) ⟨Nat.le_of_ble_eq_true rfl, Nat.le_of_ble_eq_true rfl⟩) (q0 := 0) rfl rfl [0, 1, 2] (by decide) rfl rfl (Nat.le_of_ble_eq_true rfl) rfl dX1_drop_26 ⟨Nat.zero_le _, Nat.zero_le _⟩) [0, 1, 2] [] [0, 1, 2] rfl rfl (by decide) (by decide) (by decide) rfl ?_
        refine s_aload_n C (pc := 29) dX1_drop_29 rfl 0 rfl ?_
        refine s_iload_n C (pc := 30) dX1_drop_30 rfl 2 rfl ?_
        refine s_iconst C (pc := 31) (v := 1) dX1_drop_31 (by decide) ?_
        refine s_iadd C (pc := 32) dX1_drop_32 ?_
        refine s_top C (y := nI ((k + d) + 1)) (nI_add _ _) ?_
        refine s_calli C (pc := 33) (wr := []) (wc' := [(h, .inr (1, [.ref hp, .ref hq, .int (nI (n + 1)), .int o, .int f, .int ll])), (hp, .inl (X.2.1, 4, .inl ((shR P k d)))), (hq, .inl (X.2.1, 4, .inl ((shR Q k d))))]) (wn := [(h, .inr (1, [.ref hp, .ref hq, .int (nI (n + 1)), .int o, .int f, .int ll])), (hp, .inl (X.2.1, 4, .inl ((shR P k d)))), (hq, .inl (X.2.1, 4, .inl ((shR Q k d))))]) (r_V C (As := [.int (nI ((k + d) + 1))]) (rest := [.int ((shR P k d) ((k + d) + 1)), .int (nI (k + d)), .ref h]) (kX1_qOf l X h hp hq (n + 1) (shR P k d) (shR Q k d) o f ll ((k + d) + 1) (by first | assumption | omega | decide) (by first | assumption | omega | decide)) (cwV 1 C.ts gX1_drop_X1_qOf rfl rfl rfl (by decide +kernel) ⟨Nat.le_of_ble_eq_true rfl, Nat.le_of_ble_eq_true rfl⟩) (q0 := 0) rfl rfl [0, 1, 2] (by decide) rfl rfl (Nat.le_of_ble_eq_true rfl) rfl dX1_drop_33 ⟨Nat.zero_le _, Nat.zero_le _⟩) [0, 1, 2] [] [0, 1, 2] rfl rfl (by decide) (by decide) (by decide) rfl ?_
        refine s_callv C (pc := 36) (wr := []) (wc' := [(h, .inr (1, [.ref hp, .ref hq, .int (nI (n + 1)), .int o, .int f, .int ll])), (hp, .inl (X.2.1, 4, .inl (upd (shR P k d) (k + d) ((shR P k d) ((k + d) + 1))))), (hq, .inl (X.2.1, 4, .inl (upd (shR Q k d) (k + d) ((shR Q k d) ((k + d) + 1)))))]) (wn := [(h, .inr (1, [.ref hp, .ref hq, .int (nI (n + 1)), .int o, .int f, .int ll])), (hp, .inl (X.2.1, 4, .inl (upd (shR P k d) (k + d) ((shR P k d) ((k + d) + 1))))), (hq, .inl (X.2.1, 4, .inl (upd (shR Q k d) (k + d) ((shR Q k d) ((k + d) + 1)))))]) (r_V C (As := [.int (nI (k + d)), .int ((shR P k d) ((k + d) + 1)), .int ((shR Q k d) ((k + d) + 1))]) (rest := []) (kX1_put l X h hp hq (n + 1) (shR P k d) (shR Q k d) o f ll (k + d) ((shR P k d) ((k + d) + 1)) ((shR Q k d) ((k + d) + 1)) (by first | assumption | omega | decide) (by first | assumption | omega | decide)) (cwV 3 C.ts gX1_drop_X1_put rfl rfl rfl (by decide +kernel) ⟨Nat.le_of_ble_eq_true rfl, Nat.le_of_ble_eq_true rfl⟩) (q0 := 0) rfl rfl [0, 1, 2] (by decide) rfl rfl (Nat.le_of_ble_eq_true rfl) rfl dX1_drop_36 ⟨Nat.zero_le _, Nat.zero_le _⟩) [0, 1, 2] [] [0, 1, 2] rfl rfl (by decide) (by decide) (by decide) rfl ?_
        refine s_iinc C (pc := 39) (v := nI ((k + d) + 1)) (ls' := [(2, .int (nI ((k + d) + 1))), (0, .ref h), (1, .int (nI k))]) dX1_drop_39 2 rfl (nI_1 _) (by decide) rfl ?_
        refine s_goto C (pc := 42) (tgt := 10) dX1_drop_42 (by decide) ?_
        refine s_loc C (ls' := [(0, .ref h), (1, .int (nI k)), (2, .int (nI ((k + d) + 1)))]) [1, 2, 0] rfl ?_
        exact ih10 (d + 1) (by omega) (by omega)
  refine s_loc C (ls' := [(0, .ref h), (1, .int (nI k)), (2, .int (nI k))]) [1, 2, 0] rfl ?_
  exact L10 (n - k + 1) 0 (Nat.zero_le _) (by omega)

set_option maxHeartbeats 4000000 in
set_option maxRecDepth 100000 in
theorem kX1_hasPair (l : Launch) (X : XT) (h hp hq n : Nat) (P Q : Nat → Int32) (o f ll : Int32) (i j : Int32) (hn : n ≤ 4) : KI l yX1_hasPair wsX1_hasPair ({ frames := 1, cells := 0, slots := 0, locals := 21 }) X [.ref h, .int i, .int j] [(h, .inr (1, [.ref hp, .ref hq, .int (nI n), .int o, .int f, .int ll])), (hp, .inl (X.2.1, 4, .inl (P))), (hq, .inl (X.2.1, 4, .inl (Q)))] [(h, .inr (1, [.ref hp, .ref hq, .int (nI n), .int o, .int f, .int ll])), (hp, .inl (X.2.1, 4, .inl (P))), (hq, .inl (X.2.1, 4, .inl (Q)))] (bI (hv n i ∧ hv n j ∧ i < j)) := by
  refine k_ofI (cc := cX1_hasPair) (own := RX1) (maxL := 3) (ret := (some .boolean)) (ls0 := [(0, .ref h), (1, .int i), (2, .int j)]) (by decide) rfl rfl (Nat.le_of_ble_eq_true rfl) rfl ?_
  intro p e s m args below meth c A g C hr hlk
  refine s_aload_n C (pc := 0) dX1_hasPair_0 rfl 0 rfl ?_
  refine s_iload_n C (pc := 1) dX1_hasPair_1 rfl 1 rfl ?_
  refine s_calli C (pc := 2) (wr := []) (wc' := [(h, .inr (1, [.ref hp, .ref hq, .int (nI n), .int o, .int f, .int ll])), (hp, .inl (X.2.1, 4, .inl (P))), (hq, .inl (X.2.1, 4, .inl (Q)))]) (wn := [(h, .inr (1, [.ref hp, .ref hq, .int (nI n), .int o, .int f, .int ll])), (hp, .inl (X.2.1, 4, .inl (P))), (hq, .inl (X.2.1, 4, .inl (Q)))]) (r_V C (As := [.int i]) (rest := []) (kX1_has l X h hp hq n P Q o f ll i (by first | assumption | omega | decide)) (cwV 1 C.ts gX1_hasPair_X1_has rfl rfl rfl (by decide +kernel) ⟨Nat.le_of_ble_eq_true rfl, Nat.le_of_ble_eq_true rfl⟩) (q0 := 0) rfl rfl [0, 1, 2] (by decide) rfl rfl (Nat.le_of_ble_eq_true rfl) rfl dX1_hasPair_2 ⟨Nat.zero_le _, Nat.zero_le _⟩) [0, 1, 2] [] [0, 1, 2] rfl rfl (by decide) (by decide) (by decide) rfl ?_
  refine s_bif_eq C (pc := 5) (tgt := 25) dX1_hasPair_5 (by decide) (fun c5 => ?_) (fun c5 => ?_)
  · skip
    refine s_iconst C (pc := 25) (v := 0) dX1_hasPair_25 (by decide) ?_
    exact s_zret C (pc := 26) hr hlk [0, 1, 2] (by decide) (rfl) rfl ((bI_neg (fun hh => (c5) (hh.1))).symm) dX1_hasPair_26
  · skip
    refine s_aload_n C (pc := 8) dX1_hasPair_8 rfl 0 rfl ?_
    refine s_iload_n C (pc := 9) dX1_hasPair_9 rfl 2 rfl ?_
    refine s_calli C (pc := 10) (wr := []) (wc' := [(h, .inr (1, [.ref hp, .ref hq, .int (nI n), .int o, .int f, .int ll])), (hp, .inl (X.2.1, 4, .inl (P))), (hq, .inl (X.2.1, 4, .inl (Q)))]) (wn := [(h, .inr (1, [.ref hp, .ref hq, .int (nI n), .int o, .int f, .int ll])), (hp, .inl (X.2.1, 4, .inl (P))), (hq, .inl (X.2.1, 4, .inl (Q)))]) (r_V C (As := [.int j]) (rest := []) (kX1_has l X h hp hq n P Q o f ll j (by first | assumption | omega | decide)) (cwV 1 C.ts gX1_hasPair_X1_has rfl rfl rfl (by decide +kernel) ⟨Nat.le_of_ble_eq_true rfl, Nat.le_of_ble_eq_true rfl⟩) (q0 := 0) rfl rfl [0, 1, 2] (by decide) rfl rfl (Nat.le_of_ble_eq_true rfl) rfl dX1_hasPair_10 ⟨Nat.zero_le _, Nat.zero_le _⟩) [0, 1, 2] [] [0, 1, 2] rfl rfl (by decide) (by decide) (by decide) rfl ?_
    refine s_bif_eq C (pc := 13) (tgt := 25) dX1_hasPair_13 (by decide) (fun c13 => ?_) (fun c13 => ?_)
    · skip
      refine s_iconst C (pc := 25) (v := 0) dX1_hasPair_25 (by decide) ?_
      exact s_zret C (pc := 26) hr hlk [0, 1, 2] (by decide) (rfl) rfl ((bI_neg (fun hh => (c13) (hh.2.1))).symm) dX1_hasPair_26
    · skip
      refine s_iload_n C (pc := 16) dX1_hasPair_16 rfl 1 rfl ?_
      refine s_iload_n C (pc := 17) dX1_hasPair_17 rfl 2 rfl ?_
      refine s_icmp_ge C (pc := 18) (tgt := 25) dX1_hasPair_18 (by decide) (fun c18 => ?_) (fun c18 => ?_)
      · skip
        refine s_iconst C (pc := 25) (v := 0) dX1_hasPair_25 (by decide) ?_
        exact s_zret C (pc := 26) hr hlk [0, 1, 2] (by decide) (rfl) rfl ((bI_neg (fun hh => (fun q => absurd c18 (Int32.not_le.mpr q)) (hh.2.2))).symm) dX1_hasPair_26
      · skip
        refine s_iconst C (pc := 21) (v := 1) dX1_hasPair_21 (by decide) ?_
        refine s_goto C (pc := 22) (tgt := 26) dX1_hasPair_22 (by decide) ?_
        exact s_zret C (pc := 26) hr hlk [0, 1, 2] (by decide) (rfl) rfl ((bI_pos ⟨c5, c13, Int32.not_le.mp c18⟩).symm) dX1_hasPair_26

set_option maxHeartbeats 4000000 in
set_option maxRecDepth 100000 in
theorem kX1_hasAll (l : Launch) (X : XT) (h hp hq n : Nat) (P Q : Nat → Int32) (o f ll : Int32) (x : Int32)  : KI l yX1_hasAll wsX1_hasAll ({ frames := 0, cells := 0, slots := 0, locals := 0 }) X [.ref h, .int x] [(h, .inr (1, [.ref hp, .ref hq, .int (nI n), .int o, .int f, .int ll])), (hp, .inl (X.2.1, 4, .inl (P))), (hq, .inl (X.2.1, 4, .inl (Q)))] [(h, .inr (1, [.ref hp, .ref hq, .int (nI n), .int o, .int f, .int ll])), (hp, .inl (X.2.1, 4, .inl (P))), (hq, .inl (X.2.1, 4, .inl (Q)))] (bI (x < (1 : Int32) <<< (nI n &&& 31))) := by
  refine k_ofI (cc := cX1_hasAll) (own := RX1) (maxL := 2) (ret := (some .boolean)) (ls0 := [(0, .ref h), (1, .int x)]) (by decide) rfl rfl (Nat.le_of_ble_eq_true rfl) rfl ?_
  intro p e s m args below meth c A g C hr hlk
  refine s_iload_n C (pc := 0) dX1_hasAll_0 rfl 1 rfl ?_
  refine s_iconst C (pc := 1) (v := 1) dX1_hasAll_1 (by decide) ?_
  refine s_aload_n C (pc := 2) dX1_hasAll_2 rfl 0 rfl ?_
  refine s_get C (pc := 3) (T := TX1) (N := 6) (fun _ h => (List.mem_cons_of_mem _ (List.mem_append_right _ h))) 0 rfl rfl 2 (by decide) (List.mem_of_getElem? (i := 1) rfl) rfl rfl dX1_hasAll_3 ?_
  refine s_ishl C (pc := 6) dX1_hasAll_6 ?_
  refine s_icmp_ge C (pc := 7) (tgt := 14) dX1_hasAll_7 (by decide) (fun c7 => ?_) (fun c7 => ?_)
  · skip
    refine s_iconst C (pc := 14) (v := 0) dX1_hasAll_14 (by decide) ?_
    exact s_zret C (pc := 15) hr hlk [0, 1, 2] (by decide) (rfl) rfl ((bI_neg (fun hh => (fun q => absurd c7 (Int32.not_le.mpr q)) (hh))).symm) dX1_hasAll_15
  · skip
    refine s_iconst C (pc := 10) (v := 1) dX1_hasAll_10 (by decide) ?_
    refine s_goto C (pc := 11) (tgt := 15) dX1_hasAll_11 (by decide) ?_
    exact s_zret C (pc := 15) hr hlk [0, 1, 2] (by decide) (rfl) rfl ((bI_pos (Int32.not_le.mp c7)).symm) dX1_hasAll_15

set_option maxHeartbeats 4000000 in
set_option maxRecDepth 100000 in
theorem kX1_isFactorPair (l : Launch) (X : XT) (h hp hq n : Nat) (P Q : Nat → Int32) (o f ll : Int32) (a b : Int32)  : KI l yX1_isFactorPair wsX1_isFactorPair ({ frames := 0, cells := 0, slots := 0, locals := 0 }) X [.ref h, .int a, .int b] [(h, .inr (1, [.ref hp, .ref hq, .int (nI n), .int o, .int f, .int ll])), (hp, .inl (X.2.1, 4, .inl (P))), (hq, .inl (X.2.1, 4, .inl (Q)))] [(h, .inr (1, [.ref hp, .ref hq, .int (nI n), .int o, .int f, .int ll])), (hp, .inl (X.2.1, 4, .inl (P))), (hq, .inl (X.2.1, 4, .inl (Q)))] (bI (-o ≤ a ∧ a ≤ o ∧ -o ≤ b ∧ b ≤ o ∧ (¬ a = 0 ∨ ¬ b = 0))) := by
  refine k_ofI (cc := cX1_isFactorPair) (own := RX1) (maxL := 3) (ret := (some .boolean)) (ls0 := [(0, .ref h), (1, .int a), (2, .int b)]) (by decide) rfl rfl (Nat.le_of_ble_eq_true rfl) rfl ?_
  intro p e s m args below meth c A g C hr hlk
  refine s_iload_n C (pc := 0) dX1_isFactorPair_0 rfl 1 rfl ?_
  refine s_aload_n C (pc := 1) dX1_isFactorPair_1 rfl 0 rfl ?_
  refine s_get C (pc := 2) (T := TX1) (N := 6) (fun _ h => (List.mem_cons_of_mem _ (List.mem_append_right _ h))) 0 rfl rfl 3 (by decide) (List.mem_of_getElem? (i := 1) rfl) rfl rfl dX1_isFactorPair_2 ?_
  refine s_ineg C (pc := 5) dX1_isFactorPair_5 ?_
  refine s_icmp_lt C (pc := 6) (tgt := 46) dX1_isFactorPair_6 (by decide) (fun c6 => ?_) (fun c6 => ?_)
  · skip
    refine s_iconst C (pc := 46) (v := 0) dX1_isFactorPair_46 (by decide) ?_
    exact s_zret C (pc := 47) hr hlk [0, 1, 2] (by decide) (rfl) rfl ((bI_neg (fun hh => (fun q => absurd c6 (Int32.not_lt.mpr q)) (hh.1))).symm) dX1_isFactorPair_47
  · skip
    refine s_iload_n C (pc := 9) dX1_isFactorPair_9 rfl 1 rfl ?_
    refine s_aload_n C (pc := 10) dX1_isFactorPair_10 rfl 0 rfl ?_
    refine s_get C (pc := 11) (T := TX1) (N := 6) (fun _ h => (List.mem_cons_of_mem _ (List.mem_append_right _ h))) 0 rfl rfl 3 (by decide) (List.mem_of_getElem? (i := 1) rfl) rfl rfl dX1_isFactorPair_11 ?_
    refine s_icmp_gt C (pc := 14) (tgt := 46) dX1_isFactorPair_14 (by decide) (fun c14 => ?_) (fun c14 => ?_)
    · skip
      refine s_iconst C (pc := 46) (v := 0) dX1_isFactorPair_46 (by decide) ?_
      exact s_zret C (pc := 47) hr hlk [0, 1, 2] (by decide) (rfl) rfl ((bI_neg (fun hh => (fun q => absurd c14 (Int32.not_lt.mpr q)) (hh.2.1))).symm) dX1_isFactorPair_47
    · skip
      refine s_iload_n C (pc := 17) dX1_isFactorPair_17 rfl 2 rfl ?_
      refine s_aload_n C (pc := 18) dX1_isFactorPair_18 rfl 0 rfl ?_
      refine s_get C (pc := 19) (T := TX1) (N := 6) (fun _ h => (List.mem_cons_of_mem _ (List.mem_append_right _ h))) 0 rfl rfl 3 (by decide) (List.mem_of_getElem? (i := 1) rfl) rfl rfl dX1_isFactorPair_19 ?_
      refine s_ineg C (pc := 22) dX1_isFactorPair_22 ?_
      refine s_icmp_lt C (pc := 23) (tgt := 46) dX1_isFactorPair_23 (by decide) (fun c23 => ?_) (fun c23 => ?_)
      · skip
        refine s_iconst C (pc := 46) (v := 0) dX1_isFactorPair_46 (by decide) ?_
        exact s_zret C (pc := 47) hr hlk [0, 1, 2] (by decide) (rfl) rfl ((bI_neg (fun hh => (fun q => absurd c23 (Int32.not_lt.mpr q)) (hh.2.2.1))).symm) dX1_isFactorPair_47
      · skip
        refine s_iload_n C (pc := 26) dX1_isFactorPair_26 rfl 2 rfl ?_
        refine s_aload_n C (pc := 27) dX1_isFactorPair_27 rfl 0 rfl ?_
        refine s_get C (pc := 28) (T := TX1) (N := 6) (fun _ h => (List.mem_cons_of_mem _ (List.mem_append_right _ h))) 0 rfl rfl 3 (by decide) (List.mem_of_getElem? (i := 1) rfl) rfl rfl dX1_isFactorPair_28 ?_
        refine s_icmp_gt C (pc := 31) (tgt := 46) dX1_isFactorPair_31 (by decide) (fun c31 => ?_) (fun c31 => ?_)
        · skip
          refine s_iconst C (pc := 46) (v := 0) dX1_isFactorPair_46 (by decide) ?_
          exact s_zret C (pc := 47) hr hlk [0, 1, 2] (by decide) (rfl) rfl ((bI_neg (fun hh => (fun q => absurd c31 (Int32.not_lt.mpr q)) (hh.2.2.2.1))).symm) dX1_isFactorPair_47
        · skip
          refine s_iload_n C (pc := 34) dX1_isFactorPair_34 rfl 1 rfl ?_
          refine s_if_ne C (pc := 35) (tgt := 42) dX1_isFactorPair_35 (by decide) (fun c35 => ?_) (fun c35 => ?_)
          · skip
            refine s_iconst C (pc := 42) (v := 1) dX1_isFactorPair_42 (by decide) ?_
            refine s_goto C (pc := 43) (tgt := 47) dX1_isFactorPair_43 (by decide) ?_
            exact s_zret C (pc := 47) hr hlk [0, 1, 2] (by decide) (rfl) rfl ((bI_pos ⟨Int32.not_lt.mp c6, Int32.not_lt.mp c14, Int32.not_lt.mp c23, Int32.not_lt.mp c31, Or.inl c35⟩).symm) dX1_isFactorPair_47
          · skip
            refine s_iload_n C (pc := 38) dX1_isFactorPair_38 rfl 2 rfl ?_
            refine s_if_eq C (pc := 39) (tgt := 46) dX1_isFactorPair_39 (by decide) (fun c39 => ?_) (fun c39 => ?_)
            · skip
              refine s_iconst C (pc := 46) (v := 0) dX1_isFactorPair_46 (by decide) ?_
              exact s_zret C (pc := 47) hr hlk [0, 1, 2] (by decide) (rfl) rfl ((bI_neg (fun hh => (fun q => q.elim (fun z => z c35) (fun z => z c39)) (hh.2.2.2.2))).symm) dX1_isFactorPair_47
            · skip
              refine s_iconst C (pc := 42) (v := 1) dX1_isFactorPair_42 (by decide) ?_
              refine s_goto C (pc := 43) (tgt := 47) dX1_isFactorPair_43 (by decide) ?_
              exact s_zret C (pc := 47) hr hlk [0, 1, 2] (by decide) (rfl) rfl ((bI_pos ⟨Int32.not_lt.mp c6, Int32.not_lt.mp c14, Int32.not_lt.mp c23, Int32.not_lt.mp c31, Or.inr c39⟩).symm) dX1_isFactorPair_47

set_option maxHeartbeats 4000000 in
set_option maxRecDepth 100000 in
theorem kX2_realPart (l : Launch) (X : XT) (p0 q0 a b : Int32)  : KI l yX2_realPart wsX2_realPart ({ frames := 0, cells := 0, slots := 0, locals := 0 }) X [.int p0, .int q0, .int a, .int b] [] [] (reI p0 q0 a b) := by
  refine k_ofI (cc := cX2_realPart) (own := RX2) (maxL := 4) (ret := (some .int)) (ls0 := [(0, .int p0), (1, .int q0), (2, .int a), (3, .int b)]) (by decide) rfl rfl (Nat.le_of_ble_eq_true rfl) rfl ?_
  intro p e s m args below meth c A g C hr hlk
  refine s_iload_n C (pc := 0) dX2_realPart_0 rfl 2 rfl ?_
  refine s_iload_n C (pc := 1) dX2_realPart_1 rfl 0 rfl ?_
  refine s_imul C (pc := 2) dX2_realPart_2 ?_
  refine s_iload_n C (pc := 3) dX2_realPart_3 rfl 3 rfl ?_
  refine s_iload_n C (pc := 4) dX2_realPart_4 rfl 1 rfl ?_
  refine s_imul C (pc := 5) dX2_realPart_5 ?_
  refine s_iadd C (pc := 6) dX2_realPart_6 ?_
  exact s_iret C (pc := 7) hr hlk [] (by decide) (rfl) (rfl) dX2_realPart_7

set_option maxHeartbeats 4000000 in
set_option maxRecDepth 100000 in
theorem kX2_imaginaryPart (l : Launch) (X : XT) (p0 q0 a b : Int32)  : KI l yX2_imaginaryPart wsX2_imaginaryPart ({ frames := 0, cells := 0, slots := 0, locals := 0 }) X [.int p0, .int q0, .int a, .int b] [] [] (imI p0 q0 a b) := by
  refine k_ofI (cc := cX2_imaginaryPart) (own := RX2) (maxL := 4) (ret := (some .int)) (ls0 := [(0, .int p0), (1, .int q0), (2, .int a), (3, .int b)]) (by decide) rfl rfl (Nat.le_of_ble_eq_true rfl) rfl ?_
  intro p e s m args below meth c A g C hr hlk
  refine s_iload_n C (pc := 0) dX2_imaginaryPart_0 rfl 3 rfl ?_
  refine s_iload_n C (pc := 1) dX2_imaginaryPart_1 rfl 0 rfl ?_
  refine s_imul C (pc := 2) dX2_imaginaryPart_2 ?_
  refine s_iload_n C (pc := 3) dX2_imaginaryPart_3 rfl 2 rfl ?_
  refine s_iload_n C (pc := 4) dX2_imaginaryPart_4 rfl 1 rfl ?_
  refine s_imul C (pc := 5) dX2_imaginaryPart_5 ?_
  refine s_isub C (pc := 6) dX2_imaginaryPart_6 ?_
  exact s_iret C (pc := 7) hr hlk [] (by decide) (rfl) (rfl) dX2_imaginaryPart_7

set_option maxHeartbeats 4000000 in
set_option maxRecDepth 100000 in
theorem kX2_divided (l : Launch) (X : XT) (x y : Int64)  : KL l yX2_divided wsX2_divided ({ frames := 0, cells := 0, slots := 0, locals := 0 }) X [.long x, .long y] [] [] (dvL x y) := by
  refine k_ofL (cc := cX2_divided) (own := RX2) (maxL := 4) (ret := (some .long)) (ls0 := [(0, .long x), (2, .long y)]) (by decide) rfl rfl (Nat.le_of_ble_eq_true rfl) rfl ?_
  intro p e s m args below meth c A g C hr hlk
  refine s_lload_n C (pc := 0) dX2_divided_0 rfl 1 rfl ?_
  refine s_lconst C (pc := 1) (v := 0) dX2_divided_1 (by decide) ?_
  refine s_lcmp_le C (pc := 2) (tgt := 12) dX2_divided_2 dX2_divided_3 (by decide) (fun c2 => ?_) (fun c2 => ?_)
  · skip
    refine s_lconst C (pc := 12) (v := 0) dX2_divided_12 (by decide) ?_
    exact s_lret C (pc := 13) hr hlk [] (by decide) (rfl) ((if_pos c2).symm) dX2_divided_13
  · skip
    refine s_lload_n C (pc := 6) dX2_divided_6 rfl 0 rfl ?_
    refine s_lload_n C (pc := 7) dX2_divided_7 rfl 1 rfl ?_
    refine s_ldiv C (pc := 8) dX2_divided_8 (fun h => c2 (by rw [h]; decide)) ?_
    refine s_goto C (pc := 9) (tgt := 13) dX2_divided_9 (by decide) ?_
    exact s_lret C (pc := 13) hr hlk [] (by decide) (rfl) ((if_neg c2).symm) dX2_divided_13

set_option maxHeartbeats 4000000 in
set_option maxRecDepth 100000 in
theorem kX2_gcd (l : Launch) (X : XT) (a b : Int64)  : KL l yX2_gcd wsX2_gcd ({ frames := 0, cells := 0, slots := 0, locals := 0 }) X [.long a, .long b] [] [] (gcL a b) := by
  refine k_ofL (cc := cX2_gcd) (own := RX2) (maxL := 11) (ret := (some .long)) (ls0 := [(0, .long a), (2, .long b)]) (by decide) rfl rfl (Nat.le_of_ble_eq_true rfl) rfl ?_
  intro p e s m args below meth c A g C hr hlk
  refine s_lload_n C (pc := 0) dX2_gcd_0 rfl 0 rfl ?_
  refine s_lstore C (pc := 1) (ls' := [(4, .long a), (0, .long a), (2, .long b)]) dX2_gcd_1 (by decide) rfl ?_
  refine s_lload_n C (pc := 3) dX2_gcd_3 rfl 2 rfl ?_
  refine s_lstore C (pc := 4) (ls' := [(6, .long b), (4, .long a), (0, .long a), (2, .long b)]) dX2_gcd_4 (by decide) rfl ?_
  refine s_iconst C (pc := 6) (v := 0) dX2_gcd_6 (by decide) ?_
  refine s_istore C (pc := 7) (ls' := [(8, .int 0), (6, .long b), (4, .long a), (0, .long a), (2, .long b)]) dX2_gcd_7 (by decide) rfl ?_
  have L9 : ∀ (n_ : Nat) (k : Nat) (x y : Int64), (k ≤ 100) → (gcdF (100 - k) x y = gcL a b) → 101 ≤ k + n_ → g [] 9 [(8, .int (nI k)), (4, .long x), (6, .long y)] [] := by
    intro n_
    induction n_ with
    | zero =>
      intro k x y hk hI hf
      exact absurd hf (by omega)
    | succ n_ ih9 =>
      intro k x y hk hI hf9
      refine s_iload C (pc := 9) dX2_gcd_9 0 rfl ?_
      refine s_bipush C (pc := 11) (v := 100) dX2_gcd_11 (by decide) ?_
      refine s_icmp_ge C (pc := 13) (tgt := 44) dX2_gcd_13 (by decide) (fun c13 => ?_) (fun c13 => ?_)
      · skip
        have e13 := nat_le (a := 100) (b := k) (by omega) (by omega) c13
        have hs0 : 100 = k := by omega
        subst hs0
        refine s_lload C (pc := 44) dX2_gcd_44 1 rfl ?_
        exact s_lret C (pc := 46) hr hlk [] (by decide) (rfl) (hI) dX2_gcd_46
      · skip
        have e13 := nat_nle (a := 100) (b := k) (by omega) (by omega) c13
        obtain ⟨u, hu⟩ : ∃ u, 100 - k = u + 1 := ⟨100 - k - 1, by omega⟩
        rw [hu] at hI
        refine s_lload C (pc := 16) dX2_gcd_16 2 rfl ?_
        refine s_lconst C (pc := 18) (v := 0) dX2_gcd_18 (by decide) ?_
        refine s_lcmp_eq C (pc := 19) (tgt := 44) dX2_gcd_19 dX2_gcd_20 (by decide) (fun c19 => ?_) (fun c19 => ?_)
        · skip
          refine s_lload C (pc := 44) dX2_gcd_44 1 rfl ?_
          exact s_lret C (pc := 46) hr hlk [] (by decide) (rfl) (((if_pos c19).symm.trans hI : _ = _)) dX2_gcd_46
        · skip
          refine s_lload C (pc := 23) dX2_gcd_23 1 rfl ?_
          refine s_lload C (pc := 25) dX2_gcd_25 2 rfl ?_
          refine s_lrem C (pc := 27) dX2_gcd_27 c19 ?_
          refine s_lstore C (pc := 28) (ls' := [(9, .long (x - x / y * y)), (8, .int (nI k)), (4, .long x), (6, .long y)]) dX2_gcd_28 (by decide) rfl ?_
          refine s_lload C (pc := 30) dX2_gcd_30 3 rfl ?_
          refine s_lstore C (pc := 32) (ls' := [(4, .long y), (9, .long (x - x / y * y)), (8, .int (nI k)), (6, .long y)]) dX2_gcd_32 (by decide) rfl ?_
          refine s_lload C (pc := 34) dX2_gcd_34 1 rfl ?_
          refine s_lstore C (pc := 36) (ls' := [(6, .long (x - x / y * y)), (4, .long y), (9, .long (x - x / y * y)), (8, .int (nI k))]) dX2_gcd_36 (by decide) rfl ?_
          refine s_iinc C (pc := 38) (v := nI (k + 1)) (ls' := [(8, .int (nI (k + 1))), (6, .long (x - x / y * y)), (4, .long y), (9, .long (x - x / y * y))]) dX2_gcd_38 3 rfl (nI_1 _) (by decide) rfl ?_
          refine s_goto C (pc := 41) (tgt := 9) dX2_gcd_41 (by decide) ?_
          refine s_loc C (ls' := [(8, .int (nI (k + 1))), (4, .long y), (6, .long (x - x / y * y))]) [0, 2, 1] rfl ?_
          exact ih9 (k + 1) y (x - x / y * y) (by omega) (by rw [show 100 - (k + 1) = u by omega, ← hI]; exact (if_neg c19).symm) (by omega)
  refine s_loc C (ls' := [(8, .int 0), (4, .long a), (6, .long b)]) [0, 2, 1] rfl ?_
  exact L9 101 0 a b (Nat.zero_le _) (gcL_eq a b).symm (by omega)

set_option maxHeartbeats 4000000 in
set_option maxRecDepth 100000 in
theorem kX2_root (l : Launch) (X : XT) (sq : Int64)  : KI l yX2_root wsX2_root ({ frames := 0, cells := 0, slots := 0, locals := 0 }) X [.long sq] [] [] (rtL sq) := by
  refine k_ofI (cc := cX2_root) (own := RX2) (maxL := 6) (ret := (some .int)) (ls0 := [(0, .long sq)]) (by decide) rfl rfl (Nat.le_of_ble_eq_true rfl) rfl ?_
  intro p e s m args below meth c A g C hr hlk
  refine s_iconst C (pc := 0) (v := 0) dX2_root_0 (by decide) ?_
  refine s_istore_n C (pc := 1) (ls' := [(2, .int 0), (0, .long sq)]) dX2_root_1 rfl (by decide) rfl ?_
  refine s_sipush C (pc := 2) (v := 16384) dX2_root_2 (by decide) ?_
  refine s_istore_n C (pc := 5) (ls' := [(3, .int 16384), (2, .int 0), (0, .long sq)]) dX2_root_5 rfl (by decide) rfl ?_
  have L6 : ∀ (n_ : Nat) (j : Nat) (r : Int32), (j ≤ 15) → (rtF sq j r = rtL sq) → j < n_ → g [] 6 [(3, .int (btF j)), (2, .int r), (0, .long sq)] [] := by
    intro n_
    induction n_ with
    | zero =>
      intro j r hj hI hf
      exact absurd hf (by omega)
    | succ n_ ih6 =>
      intro j r hj hI hf6
      refine s_iload_n C (pc := 6) dX2_root_6 rfl 0 rfl ?_
      refine s_if_le C (pc := 7) (tgt := 37) dX2_root_7 (by decide) (fun c7 => ?_) (fun c7 => ?_)
      · skip
        have hj0 : 0 = j := ((btF_pos j (by omega)).mp c7).symm
        subst hj0
        refine s_iload_n C (pc := 37) dX2_root_37 rfl 1 rfl ?_
        exact s_iret C (pc := 38) hr hlk [] (by decide) (rfl) (hI) dX2_root_38
      · skip
        have hj0 : ¬ j = 0 := fun h => c7 ((btF_pos j (by omega)).mpr h)
        obtain ⟨j1, hj1⟩ : ∃ j1, j = j1 + 1 := ⟨j - 1, by omega⟩
        subst hj1
        refine s_iload_n C (pc := 10) dX2_root_10 rfl 1 rfl ?_
        refine s_iload_n C (pc := 11) dX2_root_11 rfl 0 rfl ?_
        refine s_iadd C (pc := 12) dX2_root_12 ?_
        refine s_i2l C (pc := 13) dX2_root_13 ?_
        refine s_lstore C (pc := 14) (ls' := [(4, .long ((r + (btF (j1 + 1))).toInt64)), (3, .int (btF (j1 + 1))), (2, .int r), (0, .long sq)]) dX2_root_14 (by decide) rfl ?_
        refine s_lload C (pc := 16) dX2_root_16 0 rfl ?_
        refine s_lload C (pc := 18) dX2_root_18 0 rfl ?_
        refine s_lmul C (pc := 20) dX2_root_20 ?_
        refine s_lload_n C (pc := 21) dX2_root_21 rfl 3 rfl ?_
        refine s_lcmp_gt C (pc := 22) (tgt := 30) dX2_root_22 dX2_root_23 (by decide) (fun c22 => ?_) (fun c22 => ?_)
        · skip
          refine s_iload_n C (pc := 30) dX2_root_30 rfl 1 rfl ?_
          refine s_iconst C (pc := 31) (v := 1) dX2_root_31 (by decide) ?_
          refine s_ishr C (pc := 32) dX2_root_32 ?_
          refine s_top C (y := btF j1) (btF_shr j1 (by omega)) ?_
          refine s_istore_n C (pc := 33) (ls' := [(3, .int (btF j1)), (4, .long ((r + (btF (j1 + 1))).toInt64)), (2, .int r), (0, .long sq)]) dX2_root_33 rfl (by decide) rfl ?_
          refine s_goto C (pc := 34) (tgt := 6) dX2_root_34 (by decide) ?_
          refine s_loc C (ls' := [(3, .int (btF j1)), (2, .int r), (0, .long sq)]) [0, 2, 3] rfl ?_
          exact ih6 j1 r (by omega) (by rw [← hI]; exact (if_pos c22).symm) (by omega)
        · skip
          refine s_iload_n C (pc := 26) dX2_root_26 rfl 2 rfl ?_
          refine s_iload_n C (pc := 27) dX2_root_27 rfl 1 rfl ?_
          refine s_iadd C (pc := 28) dX2_root_28 ?_
          refine s_istore_n C (pc := 29) (ls' := [(2, .int (r + (btF (j1 + 1)))), (4, .long ((r + (btF (j1 + 1))).toInt64)), (3, .int (btF (j1 + 1))), (0, .long sq)]) dX2_root_29 rfl (by decide) rfl ?_
          refine s_iload_n C (pc := 30) dX2_root_30 rfl 2 rfl ?_
          refine s_iconst C (pc := 31) (v := 1) dX2_root_31 (by decide) ?_
          refine s_ishr C (pc := 32) dX2_root_32 ?_
          refine s_top C (y := btF j1) (btF_shr j1 (by omega)) ?_
          refine s_istore_n C (pc := 33) (ls' := [(3, .int (btF j1)), (2, .int (r + (btF (j1 + 1)))), (4, .long ((r + (btF (j1 + 1))).toInt64)), (0, .long sq)]) dX2_root_33 rfl (by decide) rfl ?_
          refine s_goto C (pc := 34) (tgt := 6) dX2_root_34 (by decide) ?_
          refine s_loc C (ls' := [(3, .int (btF j1)), (2, .int (r + (btF (j1 + 1)))), (0, .long sq)]) [0, 1, 3] rfl ?_
          exact ih6 j1 (r + btF (j1 + 1)) (by omega) (by rw [← hI]; exact (if_neg c22).symm) (by omega)
  exact L6 16 15 0 (Nat.le_refl _) (rtL_eq sq).symm (by omega)

set_option maxHeartbeats 4000000 in
set_option maxRecDepth 100000 in
theorem kX2_isScreen (l : Launch) (X : XT) (x y : Int32)  : KI l yX2_isScreen wsX2_isScreen ({ frames := 0, cells := 0, slots := 0, locals := 0 }) X [.int x, .int y] [] [] (bI (1 ≤ x ∧ x ≤ 20 ∧ 0 ≤ y ∧ y ≤ 20)) := by
  refine k_ofI (cc := cX2_isScreen) (own := RX2) (maxL := 2) (ret := (some .boolean)) (ls0 := [(0, .int x), (1, .int y)]) (by decide) rfl rfl (Nat.le_of_ble_eq_true rfl) rfl ?_
  intro p e s m args below meth c A g C hr hlk
  refine s_iload_n C (pc := 0) dX2_isScreen_0 rfl 0 rfl ?_
  refine s_iconst C (pc := 1) (v := 1) dX2_isScreen_1 (by decide) ?_
  refine s_icmp_lt C (pc := 2) (tgt := 25) dX2_isScreen_2 (by decide) (fun c2 => ?_) (fun c2 => ?_)
  · skip
    refine s_iconst C (pc := 25) (v := 0) dX2_isScreen_25 (by decide) ?_
    exact s_zret C (pc := 26) hr hlk [] (by decide) (rfl) rfl ((bI_neg (fun hh => (fun q => absurd c2 (Int32.not_lt.mpr q)) (hh.1))).symm) dX2_isScreen_26
  · skip
    refine s_iload_n C (pc := 5) dX2_isScreen_5 rfl 0 rfl ?_
    refine s_bipush C (pc := 6) (v := 20) dX2_isScreen_6 (by decide) ?_
    refine s_icmp_gt C (pc := 8) (tgt := 25) dX2_isScreen_8 (by decide) (fun c8 => ?_) (fun c8 => ?_)
    · skip
      refine s_iconst C (pc := 25) (v := 0) dX2_isScreen_25 (by decide) ?_
      exact s_zret C (pc := 26) hr hlk [] (by decide) (rfl) rfl ((bI_neg (fun hh => (fun q => absurd c8 (Int32.not_lt.mpr q)) (hh.2.1))).symm) dX2_isScreen_26
    · skip
      refine s_iload_n C (pc := 11) dX2_isScreen_11 rfl 1 rfl ?_
      refine s_if_lt C (pc := 12) (tgt := 25) dX2_isScreen_12 (by decide) (fun c12 => ?_) (fun c12 => ?_)
      · skip
        refine s_iconst C (pc := 25) (v := 0) dX2_isScreen_25 (by decide) ?_
        exact s_zret C (pc := 26) hr hlk [] (by decide) (rfl) rfl ((bI_neg (fun hh => (fun q => absurd c12 (Int32.not_lt.mpr q)) (hh.2.2.1))).symm) dX2_isScreen_26
      · skip
        refine s_iload_n C (pc := 15) dX2_isScreen_15 rfl 1 rfl ?_
        refine s_bipush C (pc := 16) (v := 20) dX2_isScreen_16 (by decide) ?_
        refine s_icmp_gt C (pc := 18) (tgt := 25) dX2_isScreen_18 (by decide) (fun c18 => ?_) (fun c18 => ?_)
        · skip
          refine s_iconst C (pc := 25) (v := 0) dX2_isScreen_25 (by decide) ?_
          exact s_zret C (pc := 26) hr hlk [] (by decide) (rfl) rfl ((bI_neg (fun hh => (fun q => absurd c18 (Int32.not_lt.mpr q)) (hh.2.2.2))).symm) dX2_isScreen_26
        · skip
          refine s_iconst C (pc := 21) (v := 1) dX2_isScreen_21 (by decide) ?_
          refine s_goto C (pc := 22) (tgt := 26) dX2_isScreen_22 (by decide) ?_
          exact s_zret C (pc := 26) hr hlk [] (by decide) (rfl) rfl ((bI_pos ⟨Int32.not_lt.mp c2, Int32.not_lt.mp c8, Int32.not_lt.mp c12, Int32.not_lt.mp c18⟩).symm) dX2_isScreen_26

set_option maxHeartbeats 4000000 in
set_option maxRecDepth 100000 in
theorem kX2_isSlot (l : Launch) (X : XT) (i : Int32)  : KI l yX2_isSlot wsX2_isSlot ({ frames := 0, cells := 0, slots := 0, locals := 0 }) X [.int i] [] [] (bI (0 ≤ i ∧ i < 2)) := by
  refine k_ofI (cc := cX2_isSlot) (own := RX2) (maxL := 1) (ret := (some .boolean)) (ls0 := [(0, .int i)]) (by decide) rfl rfl (Nat.le_of_ble_eq_true rfl) rfl ?_
  intro p e s m args below meth c A g C hr hlk
  refine s_iload_n C (pc := 0) dX2_isSlot_0 rfl 0 rfl ?_
  refine s_if_lt C (pc := 1) (tgt := 13) dX2_isSlot_1 (by decide) (fun c1 => ?_) (fun c1 => ?_)
  · skip
    refine s_iconst C (pc := 13) (v := 0) dX2_isSlot_13 (by decide) ?_
    exact s_zret C (pc := 14) hr hlk [] (by decide) (rfl) rfl ((bI_neg (fun hh => (fun q => absurd c1 (Int32.not_lt.mpr q)) (hh.1))).symm) dX2_isSlot_14
  · skip
    refine s_iload_n C (pc := 4) dX2_isSlot_4 rfl 0 rfl ?_
    refine s_iconst C (pc := 5) (v := 2) dX2_isSlot_5 (by decide) ?_
    refine s_icmp_ge C (pc := 6) (tgt := 13) dX2_isSlot_6 (by decide) (fun c6 => ?_) (fun c6 => ?_)
    · skip
      refine s_iconst C (pc := 13) (v := 0) dX2_isSlot_13 (by decide) ?_
      exact s_zret C (pc := 14) hr hlk [] (by decide) (rfl) rfl ((bI_neg (fun hh => (fun q => absurd c6 (Int32.not_le.mpr q)) (hh.2))).symm) dX2_isSlot_14
    · skip
      refine s_iconst C (pc := 9) (v := 1) dX2_isSlot_9 (by decide) ?_
      refine s_goto C (pc := 10) (tgt := 14) dX2_isSlot_10 (by decide) ?_
      exact s_zret C (pc := 14) hr hlk [] (by decide) (rfl) rfl ((bI_pos ⟨Int32.not_lt.mp c1, Int32.not_le.mp c6⟩).symm) dX2_isSlot_14

set_option maxHeartbeats 4000000 in
set_option maxRecDepth 100000 in
theorem kX1_pairNorm (l : Launch) (X : XT) (h hp hq n : Nat) (P Q : Nat → Int32) (o f ll : Int32) (i j : Nat) (a b c1 d1 : Int32) (hi : i < n) (hj : j < n) (hn : n ≤ 4) : KI l yX1_pairNorm wsX1_pairNorm ({ frames := 2, cells := 0, slots := 0, locals := 42 }) X [.ref h, .int (nI i), .int (nI j), .int a, .int b, .int c1, .int d1] [(h, .inr (1, [.ref hp, .ref hq, .int (nI n), .int o, .int f, .int ll])), (hp, .inl (X.2.1, 4, .inl (P))), (hq, .inl (X.2.1, 4, .inl (Q)))] [(h, .inr (1, [.ref hp, .ref hq, .int (nI n), .int o, .int f, .int ll])), (hp, .inl (X.2.1, 4, .inl (P))), (hq, .inl (X.2.1, 4, .inl (Q)))] (pnI (P i) (Q i) (P j) (Q j) a b c1 d1) := by
  refine k_ofI (cc := cX1_pairNorm) (own := RX1) (maxL := 9) (ret := (some .int)) (ls0 := [(0, .ref h), (1, .int (nI i)), (2, .int (nI j)), (3, .int a), (4, .int b), (5, .int c1), (6, .int d1)]) (by decide) rfl rfl (Nat.le_of_ble_eq_true rfl) rfl ?_
  intro p e s m args below meth c A g C hr hlk
  refine s_aload_n C (pc := 0) dX1_pairNorm_0 rfl 0 rfl ?_
  refine s_iload_n C (pc := 1) dX1_pairNorm_1 rfl 2 rfl ?_
  refine s_calli C (pc := 2) (wr := []) (wc' := [(h, .inr (1, [.ref hp, .ref hq, .int (nI n), .int o, .int f, .int ll])), (hp, .inl (X.2.1, 4, .inl (P))), (hq, .inl (X.2.1, 4, .inl (Q)))]) (wn := [(h, .inr (1, [.ref hp, .ref hq, .int (nI n), .int o, .int f, .int ll])), (hp, .inl (X.2.1, 4, .inl (P))), (hq, .inl (X.2.1, 4, .inl (Q)))]) (r_V C (As := [.int (nI j)]) (rest := []) (kX1_pOf l X h hp hq n P Q o f ll j (by first | assumption | omega | decide) (by first | assumption | omega | decide)) (cwV 1 C.ts gX1_pairNorm_X1_pOf rfl rfl rfl (by decide +kernel) ⟨Nat.le_of_ble_eq_true rfl, Nat.le_of_ble_eq_true rfl⟩) (q0 := 0) rfl rfl [0, 1, 2] (by decide) rfl rfl (Nat.le_of_ble_eq_true rfl) rfl dX1_pairNorm_2 ⟨Nat.zero_le _, Nat.zero_le _⟩) [0, 1, 2] [] [0, 1, 2] rfl rfl (by decide) (by decide) (by decide) rfl ?_
  refine s_aload_n C (pc := 5) dX1_pairNorm_5 rfl 0 rfl ?_
  refine s_iload_n C (pc := 6) dX1_pairNorm_6 rfl 2 rfl ?_
  refine s_calli C (pc := 7) (wr := []) (wc' := [(h, .inr (1, [.ref hp, .ref hq, .int (nI n), .int o, .int f, .int ll])), (hp, .inl (X.2.1, 4, .inl (P))), (hq, .inl (X.2.1, 4, .inl (Q)))]) (wn := [(h, .inr (1, [.ref hp, .ref hq, .int (nI n), .int o, .int f, .int ll])), (hp, .inl (X.2.1, 4, .inl (P))), (hq, .inl (X.2.1, 4, .inl (Q)))]) (r_V C (As := [.int (nI j)]) (rest := [.int (P j)]) (kX1_qOf l X h hp hq n P Q o f ll j (by first | assumption | omega | decide) (by first | assumption | omega | decide)) (cwV 1 C.ts gX1_pairNorm_X1_qOf rfl rfl rfl (by decide +kernel) ⟨Nat.le_of_ble_eq_true rfl, Nat.le_of_ble_eq_true rfl⟩) (q0 := 0) rfl rfl [0, 1, 2] (by decide) rfl rfl (Nat.le_of_ble_eq_true rfl) rfl dX1_pairNorm_7 ⟨Nat.zero_le _, Nat.zero_le _⟩) [0, 1, 2] [] [0, 1, 2] rfl rfl (by decide) (by decide) (by decide) rfl ?_
  refine s_iload_n C (pc := 10) dX1_pairNorm_10 rfl 3 rfl ?_
  refine s_iload C (pc := 11) dX1_pairNorm_11 4 rfl ?_
  refine s_calli C (pc := 13) (wr := [(h, .inr (1, [.ref hp, .ref hq, .int (nI n), .int o, .int f, .int ll])), (hp, .inl (X.2.1, 4, .inl (P))), (hq, .inl (X.2.1, 4, .inl (Q)))]) (wc' := []) (wn := [(h, .inr (1, [.ref hp, .ref hq, .int (nI n), .int o, .int f, .int ll])), (hp, .inl (X.2.1, 4, .inl (P))), (hq, .inl (X.2.1, 4, .inl (Q)))]) (r_SN C (As := [.int (P j), .int (Q j), .int a, .int b]) (rest := []) (kX2_realPart l X (P j) (Q j) a b ) ⟨va_cnB 4 C.ts gX1_pairNorm_X2_realPart_n46 rfl rfl rfl (nm31 C) (C.ts _ (List.mem_of_getElem? (i := 18) rfl)) (by decide +kernel) ⟨Nat.le_of_ble_eq_true rfl, Nat.le_of_ble_eq_true rfl⟩, C.ts _ (List.mem_of_getElem? (i := 17) rfl), trivial⟩ [] (by decide) rfl rfl (Nat.le_of_ble_eq_true rfl) rfl dX1_pairNorm_13 ⟨Nat.zero_le _, Nat.zero_le _⟩) [] [0, 1, 2] [0, 1, 2] rfl rfl (by decide) (by decide) (by decide) rfl ?_
  refine s_aload_n C (pc := 16) dX1_pairNorm_16 rfl 0 rfl ?_
  refine s_iload_n C (pc := 17) dX1_pairNorm_17 rfl 1 rfl ?_
  refine s_calli C (pc := 18) (wr := []) (wc' := [(h, .inr (1, [.ref hp, .ref hq, .int (nI n), .int o, .int f, .int ll])), (hp, .inl (X.2.1, 4, .inl (P))), (hq, .inl (X.2.1, 4, .inl (Q)))]) (wn := [(h, .inr (1, [.ref hp, .ref hq, .int (nI n), .int o, .int f, .int ll])), (hp, .inl (X.2.1, 4, .inl (P))), (hq, .inl (X.2.1, 4, .inl (Q)))]) (r_V C (As := [.int (nI i)]) (rest := [.int (reI (P j) (Q j) a b)]) (kX1_pOf l X h hp hq n P Q o f ll i (by first | assumption | omega | decide) (by first | assumption | omega | decide)) (cwV 1 C.ts gX1_pairNorm_X1_pOf rfl rfl rfl (by decide +kernel) ⟨Nat.le_of_ble_eq_true rfl, Nat.le_of_ble_eq_true rfl⟩) (q0 := 0) rfl rfl [0, 1, 2] (by decide) rfl rfl (Nat.le_of_ble_eq_true rfl) rfl dX1_pairNorm_18 ⟨Nat.zero_le _, Nat.zero_le _⟩) [0, 1, 2] [] [0, 1, 2] rfl rfl (by decide) (by decide) (by decide) rfl ?_
  refine s_aload_n C (pc := 21) dX1_pairNorm_21 rfl 0 rfl ?_
  refine s_iload_n C (pc := 22) dX1_pairNorm_22 rfl 1 rfl ?_
  refine s_calli C (pc := 23) (wr := []) (wc' := [(h, .inr (1, [.ref hp, .ref hq, .int (nI n), .int o, .int f, .int ll])), (hp, .inl (X.2.1, 4, .inl (P))), (hq, .inl (X.2.1, 4, .inl (Q)))]) (wn := [(h, .inr (1, [.ref hp, .ref hq, .int (nI n), .int o, .int f, .int ll])), (hp, .inl (X.2.1, 4, .inl (P))), (hq, .inl (X.2.1, 4, .inl (Q)))]) (r_V C (As := [.int (nI i)]) (rest := [.int (P i), .int (reI (P j) (Q j) a b)]) (kX1_qOf l X h hp hq n P Q o f ll i (by first | assumption | omega | decide) (by first | assumption | omega | decide)) (cwV 1 C.ts gX1_pairNorm_X1_qOf rfl rfl rfl (by decide +kernel) ⟨Nat.le_of_ble_eq_true rfl, Nat.le_of_ble_eq_true rfl⟩) (q0 := 0) rfl rfl [0, 1, 2] (by decide) rfl rfl (Nat.le_of_ble_eq_true rfl) rfl dX1_pairNorm_23 ⟨Nat.zero_le _, Nat.zero_le _⟩) [0, 1, 2] [] [0, 1, 2] rfl rfl (by decide) (by decide) (by decide) rfl ?_
  refine s_iload C (pc := 26) dX1_pairNorm_26 5 rfl ?_
  refine s_iload C (pc := 28) dX1_pairNorm_28 6 rfl ?_
  refine s_calli C (pc := 30) (wr := [(h, .inr (1, [.ref hp, .ref hq, .int (nI n), .int o, .int f, .int ll])), (hp, .inl (X.2.1, 4, .inl (P))), (hq, .inl (X.2.1, 4, .inl (Q)))]) (wc' := []) (wn := [(h, .inr (1, [.ref hp, .ref hq, .int (nI n), .int o, .int f, .int ll])), (hp, .inl (X.2.1, 4, .inl (P))), (hq, .inl (X.2.1, 4, .inl (Q)))]) (r_SN C (As := [.int (P i), .int (Q i), .int c1, .int d1]) (rest := [.int (reI (P j) (Q j) a b)]) (kX2_realPart l X (P i) (Q i) c1 d1 ) ⟨va_cnB 4 C.ts gX1_pairNorm_X2_realPart_n46 rfl rfl rfl (nm31 C) (C.ts _ (List.mem_of_getElem? (i := 18) rfl)) (by decide +kernel) ⟨Nat.le_of_ble_eq_true rfl, Nat.le_of_ble_eq_true rfl⟩, C.ts _ (List.mem_of_getElem? (i := 17) rfl), trivial⟩ [] (by decide) rfl rfl (Nat.le_of_ble_eq_true rfl) rfl dX1_pairNorm_30 ⟨Nat.zero_le _, Nat.zero_le _⟩) [] [0, 1, 2] [0, 1, 2] rfl rfl (by decide) (by decide) (by decide) rfl ?_
  refine s_isub C (pc := 33) dX1_pairNorm_33 ?_
  refine s_istore C (pc := 34) (ls' := [(7, .int ((reI (P j) (Q j) a b) - (reI (P i) (Q i) c1 d1))), (0, .ref h), (1, .int (nI i)), (2, .int (nI j)), (3, .int a), (4, .int b), (5, .int c1), (6, .int d1)]) dX1_pairNorm_34 (by decide) rfl ?_
  refine s_aload_n C (pc := 36) dX1_pairNorm_36 rfl 1 rfl ?_
  refine s_iload_n C (pc := 37) dX1_pairNorm_37 rfl 3 rfl ?_
  refine s_calli C (pc := 38) (wr := []) (wc' := [(h, .inr (1, [.ref hp, .ref hq, .int (nI n), .int o, .int f, .int ll])), (hp, .inl (X.2.1, 4, .inl (P))), (hq, .inl (X.2.1, 4, .inl (Q)))]) (wn := [(h, .inr (1, [.ref hp, .ref hq, .int (nI n), .int o, .int f, .int ll])), (hp, .inl (X.2.1, 4, .inl (P))), (hq, .inl (X.2.1, 4, .inl (Q)))]) (r_V C (As := [.int (nI j)]) (rest := []) (kX1_pOf l X h hp hq n P Q o f ll j (by first | assumption | omega | decide) (by first | assumption | omega | decide)) (cwV 1 C.ts gX1_pairNorm_X1_pOf rfl rfl rfl (by decide +kernel) ⟨Nat.le_of_ble_eq_true rfl, Nat.le_of_ble_eq_true rfl⟩) (q0 := 0) rfl rfl [0, 1, 2] (by decide) rfl rfl (Nat.le_of_ble_eq_true rfl) rfl dX1_pairNorm_38 ⟨Nat.zero_le _, Nat.zero_le _⟩) [0, 1, 2] [] [0, 1, 2] rfl rfl (by decide) (by decide) (by decide) rfl ?_
  refine s_aload_n C (pc := 41) dX1_pairNorm_41 rfl 1 rfl ?_
  refine s_iload_n C (pc := 42) dX1_pairNorm_42 rfl 3 rfl ?_
  refine s_calli C (pc := 43) (wr := []) (wc' := [(h, .inr (1, [.ref hp, .ref hq, .int (nI n), .int o, .int f, .int ll])), (hp, .inl (X.2.1, 4, .inl (P))), (hq, .inl (X.2.1, 4, .inl (Q)))]) (wn := [(h, .inr (1, [.ref hp, .ref hq, .int (nI n), .int o, .int f, .int ll])), (hp, .inl (X.2.1, 4, .inl (P))), (hq, .inl (X.2.1, 4, .inl (Q)))]) (r_V C (As := [.int (nI j)]) (rest := [.int (P j)]) (kX1_qOf l X h hp hq n P Q o f ll j (by first | assumption | omega | decide) (by first | assumption | omega | decide)) (cwV 1 C.ts gX1_pairNorm_X1_qOf rfl rfl rfl (by decide +kernel) ⟨Nat.le_of_ble_eq_true rfl, Nat.le_of_ble_eq_true rfl⟩) (q0 := 0) rfl rfl [0, 1, 2] (by decide) rfl rfl (Nat.le_of_ble_eq_true rfl) rfl dX1_pairNorm_43 ⟨Nat.zero_le _, Nat.zero_le _⟩) [0, 1, 2] [] [0, 1, 2] rfl rfl (by decide) (by decide) (by decide) rfl ?_
  refine s_iload_n C (pc := 46) dX1_pairNorm_46 rfl 4 rfl ?_
  refine s_iload C (pc := 47) dX1_pairNorm_47 5 rfl ?_
  refine s_calli C (pc := 49) (wr := [(h, .inr (1, [.ref hp, .ref hq, .int (nI n), .int o, .int f, .int ll])), (hp, .inl (X.2.1, 4, .inl (P))), (hq, .inl (X.2.1, 4, .inl (Q)))]) (wc' := []) (wn := [(h, .inr (1, [.ref hp, .ref hq, .int (nI n), .int o, .int f, .int ll])), (hp, .inl (X.2.1, 4, .inl (P))), (hq, .inl (X.2.1, 4, .inl (Q)))]) (r_SN C (As := [.int (P j), .int (Q j), .int a, .int b]) (rest := []) (kX2_imaginaryPart l X (P j) (Q j) a b ) ⟨va_cnB 4 C.ts gX1_pairNorm_X2_imaginaryPart_n50 rfl rfl rfl (nm32 C) (C.ts _ (List.mem_of_getElem? (i := 18) rfl)) (by decide +kernel) ⟨Nat.le_of_ble_eq_true rfl, Nat.le_of_ble_eq_true rfl⟩, C.ts _ (List.mem_of_getElem? (i := 20) rfl), trivial⟩ [] (by decide) rfl rfl (Nat.le_of_ble_eq_true rfl) rfl dX1_pairNorm_49 ⟨Nat.zero_le _, Nat.zero_le _⟩) [] [0, 1, 2] [0, 1, 2] rfl rfl (by decide) (by decide) (by decide) rfl ?_
  refine s_aload_n C (pc := 52) dX1_pairNorm_52 rfl 1 rfl ?_
  refine s_iload_n C (pc := 53) dX1_pairNorm_53 rfl 2 rfl ?_
  refine s_calli C (pc := 54) (wr := []) (wc' := [(h, .inr (1, [.ref hp, .ref hq, .int (nI n), .int o, .int f, .int ll])), (hp, .inl (X.2.1, 4, .inl (P))), (hq, .inl (X.2.1, 4, .inl (Q)))]) (wn := [(h, .inr (1, [.ref hp, .ref hq, .int (nI n), .int o, .int f, .int ll])), (hp, .inl (X.2.1, 4, .inl (P))), (hq, .inl (X.2.1, 4, .inl (Q)))]) (r_V C (As := [.int (nI i)]) (rest := [.int (imI (P j) (Q j) a b)]) (kX1_pOf l X h hp hq n P Q o f ll i (by first | assumption | omega | decide) (by first | assumption | omega | decide)) (cwV 1 C.ts gX1_pairNorm_X1_pOf rfl rfl rfl (by decide +kernel) ⟨Nat.le_of_ble_eq_true rfl, Nat.le_of_ble_eq_true rfl⟩) (q0 := 0) rfl rfl [0, 1, 2] (by decide) rfl rfl (Nat.le_of_ble_eq_true rfl) rfl dX1_pairNorm_54 ⟨Nat.zero_le _, Nat.zero_le _⟩) [0, 1, 2] [] [0, 1, 2] rfl rfl (by decide) (by decide) (by decide) rfl ?_
  refine s_aload_n C (pc := 57) dX1_pairNorm_57 rfl 1 rfl ?_
  refine s_iload_n C (pc := 58) dX1_pairNorm_58 rfl 2 rfl ?_
  refine s_calli C (pc := 59) (wr := []) (wc' := [(h, .inr (1, [.ref hp, .ref hq, .int (nI n), .int o, .int f, .int ll])), (hp, .inl (X.2.1, 4, .inl (P))), (hq, .inl (X.2.1, 4, .inl (Q)))]) (wn := [(h, .inr (1, [.ref hp, .ref hq, .int (nI n), .int o, .int f, .int ll])), (hp, .inl (X.2.1, 4, .inl (P))), (hq, .inl (X.2.1, 4, .inl (Q)))]) (r_V C (As := [.int (nI i)]) (rest := [.int (P i), .int (imI (P j) (Q j) a b)]) (kX1_qOf l X h hp hq n P Q o f ll i (by first | assumption | omega | decide) (by first | assumption | omega | decide)) (cwV 1 C.ts gX1_pairNorm_X1_qOf rfl rfl rfl (by decide +kernel) ⟨Nat.le_of_ble_eq_true rfl, Nat.le_of_ble_eq_true rfl⟩) (q0 := 0) rfl rfl [0, 1, 2] (by decide) rfl rfl (Nat.le_of_ble_eq_true rfl) rfl dX1_pairNorm_59 ⟨Nat.zero_le _, Nat.zero_le _⟩) [0, 1, 2] [] [0, 1, 2] rfl rfl (by decide) (by decide) (by decide) rfl ?_
  refine s_iload C (pc := 62) dX1_pairNorm_62 6 rfl ?_
  refine s_iload C (pc := 64) dX1_pairNorm_64 7 rfl ?_
  refine s_calli C (pc := 66) (wr := [(h, .inr (1, [.ref hp, .ref hq, .int (nI n), .int o, .int f, .int ll])), (hp, .inl (X.2.1, 4, .inl (P))), (hq, .inl (X.2.1, 4, .inl (Q)))]) (wc' := []) (wn := [(h, .inr (1, [.ref hp, .ref hq, .int (nI n), .int o, .int f, .int ll])), (hp, .inl (X.2.1, 4, .inl (P))), (hq, .inl (X.2.1, 4, .inl (Q)))]) (r_SN C (As := [.int (P i), .int (Q i), .int c1, .int d1]) (rest := [.int (imI (P j) (Q j) a b)]) (kX2_imaginaryPart l X (P i) (Q i) c1 d1 ) ⟨va_cnB 4 C.ts gX1_pairNorm_X2_imaginaryPart_n50 rfl rfl rfl (nm32 C) (C.ts _ (List.mem_of_getElem? (i := 18) rfl)) (by decide +kernel) ⟨Nat.le_of_ble_eq_true rfl, Nat.le_of_ble_eq_true rfl⟩, C.ts _ (List.mem_of_getElem? (i := 20) rfl), trivial⟩ [] (by decide) rfl rfl (Nat.le_of_ble_eq_true rfl) rfl dX1_pairNorm_66 ⟨Nat.zero_le _, Nat.zero_le _⟩) [] [0, 1, 2] [0, 1, 2] rfl rfl (by decide) (by decide) (by decide) rfl ?_
  refine s_isub C (pc := 69) dX1_pairNorm_69 ?_
  refine s_istore C (pc := 70) (ls' := [(8, .int ((imI (P j) (Q j) a b) - (imI (P i) (Q i) c1 d1))), (7, .int ((reI (P j) (Q j) a b) - (reI (P i) (Q i) c1 d1))), (0, .ref h), (1, .int (nI i)), (2, .int (nI j)), (3, .int a), (4, .int b), (5, .int c1), (6, .int d1)]) dX1_pairNorm_70 (by decide) rfl ?_
  refine s_iload C (pc := 72) dX1_pairNorm_72 1 rfl ?_
  refine s_iload C (pc := 74) dX1_pairNorm_74 1 rfl ?_
  refine s_imul C (pc := 76) dX1_pairNorm_76 ?_
  refine s_iload C (pc := 77) dX1_pairNorm_77 0 rfl ?_
  refine s_iload C (pc := 79) dX1_pairNorm_79 0 rfl ?_
  refine s_imul C (pc := 81) dX1_pairNorm_81 ?_
  refine s_iadd C (pc := 82) dX1_pairNorm_82 ?_
  exact s_iret C (pc := 83) hr hlk [0, 1, 2] (by decide) (rfl) (rfl) dX1_pairNorm_83

set_option maxHeartbeats 4000000 in
set_option maxRecDepth 100000 in
theorem kX0_kindOf (l : Launch) (X : XT) (hg hgn z : Nat) (F : Nat → Int32) (ar0 lf gl : Int64) (v : Int32)  : KI l yX0_kindOf wsX0_kindOf ({ frames := 0, cells := 0, slots := 0, locals := 0 }) X [.ref hg, .int v] [(hg, .inr (0, [.ref hgn, .int (nI z), .long ar0, .long lf, .long gl])), (hgn, .inl (X.2.1, 144, .inl (F)))] [(hg, .inr (0, [.ref hgn, .int (nI z), .long ar0, .long lf, .long gl])), (hgn, .inl (X.2.1, 144, .inl (F)))] (kdI v lf gl) := by
  refine k_ofI (cc := cX0_kindOf) (own := RX0) (maxL := 2) (ret := (some .int)) (ls0 := [(0, .ref hg), (1, .int v)]) (by decide) rfl rfl (Nat.le_of_ble_eq_true rfl) rfl ?_
  intro p e s m args below meth c A g C hr hlk
  refine s_iload_n C (pc := 0) dX0_kindOf_0 rfl 1 rfl ?_
  refine s_if_ne C (pc := 1) (tgt := 6) dX0_kindOf_1 (by decide) (fun c1 => ?_) (fun c1 => ?_)
  · skip
    refine s_iload_n C (pc := 6) dX0_kindOf_6 rfl 1 rfl ?_
    refine s_i2l C (pc := 7) dX0_kindOf_7 ?_
    refine s_aload_n C (pc := 8) dX0_kindOf_8 rfl 0 rfl ?_
    refine s_get C (pc := 9) (T := TX0) (N := 5) (fun _ h => (List.mem_cons_of_mem _ (List.mem_append_right _ h))) 0 rfl rfl 3 (by decide) (List.mem_of_getElem? (i := 1) rfl) rfl rfl dX0_kindOf_9 ?_
    refine s_lcmp_lt C (pc := 12) (tgt := 18) dX0_kindOf_12 dX0_kindOf_13 (by decide) (fun c12 => ?_) (fun c12 => ?_)
    · skip
      refine s_iload_n C (pc := 18) dX0_kindOf_18 rfl 1 rfl ?_
      refine s_i2l C (pc := 19) dX0_kindOf_19 ?_
      refine s_aload_n C (pc := 20) dX0_kindOf_20 rfl 0 rfl ?_
      refine s_get C (pc := 21) (T := TX0) (N := 5) (fun _ h => (List.mem_cons_of_mem _ (List.mem_append_right _ h))) 0 rfl rfl 4 (by decide) (List.mem_of_getElem? (i := 2) rfl) rfl rfl dX0_kindOf_21 ?_
      refine s_lcmp_gt C (pc := 24) (tgt := 32) dX0_kindOf_24 dX0_kindOf_25 (by decide) (fun c24 => ?_) (fun c24 => ?_)
      · skip
        refine s_iconst C (pc := 32) (v := 3) dX0_kindOf_32 (by decide) ?_
        exact s_iret C (pc := 33) hr hlk [0, 1] (by decide) (rfl) (by unfold kdI; rw [if_neg c1, if_pos c12, if_pos c24]) dX0_kindOf_33
      · skip
        refine s_iconst C (pc := 28) (v := 2) dX0_kindOf_28 (by decide) ?_
        refine s_goto C (pc := 29) (tgt := 33) dX0_kindOf_29 (by decide) ?_
        exact s_iret C (pc := 33) hr hlk [0, 1] (by decide) (rfl) (by unfold kdI; rw [if_neg c1, if_pos c12, if_neg c24]) dX0_kindOf_33
    · skip
      refine s_iconst C (pc := 16) (v := 1) dX0_kindOf_16 (by decide) ?_
      exact s_iret C (pc := 17) hr hlk [0, 1] (by decide) (rfl) (by unfold kdI; rw [if_neg c1, if_neg c12]) dX0_kindOf_17
  · skip
    refine s_iconst C (pc := 4) (v := 0) dX0_kindOf_4 (by decide) ?_
    exact s_iret C (pc := 5) hr hlk [0, 1] (by decide) (rfl) (by unfold kdI; rw [if_pos c1]) dX0_kindOf_5

set_option maxHeartbeats 4000000 in
set_option maxRecDepth 100000 in
theorem kX0_numerator (l : Launch) (X : XT) (hg hgn z : Nat) (F : Nat → Int32) (ar0 lf gl : Int64) (v : Int32)  : KL l yX0_numerator wsX0_numerator ({ frames := 1, cells := 0, slots := 0, locals := 30 }) X [.ref hg, .int v] [(hg, .inr (0, [.ref hgn, .int (nI z), .long ar0, .long lf, .long gl])), (hgn, .inl (X.2.1, 144, .inl (F)))] [(hg, .inr (0, [.ref hgn, .int (nI z), .long ar0, .long lf, .long gl])), (hgn, .inl (X.2.1, 144, .inl (F)))] (dvL v.toInt64 (gcL v.toInt64 ar0)) := by
  refine k_ofL (cc := cX0_numerator) (own := RX0) (maxL := 2) (ret := (some .long)) (ls0 := [(0, .ref hg), (1, .int v)]) (by decide) rfl rfl (Nat.le_of_ble_eq_true rfl) rfl ?_
  intro p e s m args below meth c A g C hr hlk
  refine s_iload_n C (pc := 0) dX0_numerator_0 rfl 1 rfl ?_
  refine s_i2l C (pc := 1) dX0_numerator_1 ?_
  refine s_iload_n C (pc := 2) dX0_numerator_2 rfl 1 rfl ?_
  refine s_i2l C (pc := 3) dX0_numerator_3 ?_
  refine s_aload_n C (pc := 4) dX0_numerator_4 rfl 0 rfl ?_
  refine s_get C (pc := 5) (T := TX0) (N := 5) (fun _ h => (List.mem_cons_of_mem _ (List.mem_append_right _ h))) 0 rfl rfl 2 (by decide) (List.mem_of_getElem? (i := 1) rfl) rfl rfl dX0_numerator_5 ?_
  refine s_calll C (pc := 8) (wr := [(hg, .inr (0, [.ref hgn, .int (nI z), .long ar0, .long lf, .long gl])), (hgn, .inl (X.2.1, 144, .inl (F)))]) (wc' := []) (wn := [(hg, .inr (0, [.ref hgn, .int (nI z), .long ar0, .long lf, .long gl])), (hgn, .inl (X.2.1, 144, .inl (F)))]) (r_SN C (As := [.long v.toInt64, .long ar0]) (rest := [.long v.toInt64]) (kX2_gcd l X v.toInt64 ar0 ) ⟨va_cnB 2 C.ts gX0_numerator_X2_gcd_n101 rfl rfl rfl (nm16 C) (C.ts _ (List.mem_of_getElem? (i := 3) rfl)) (by decide +kernel) ⟨Nat.le_of_ble_eq_true rfl, Nat.le_of_ble_eq_true rfl⟩, C.ts _ (List.mem_of_getElem? (i := 2) rfl), trivial⟩ [] (by decide) rfl rfl (Nat.le_of_ble_eq_true rfl) rfl dX0_numerator_8 ⟨Nat.zero_le _, Nat.zero_le _⟩) [] [0, 1] [0, 1] rfl rfl (by decide) (by decide) (by decide) rfl ?_
  refine s_calll C (pc := 11) (wr := [(hg, .inr (0, [.ref hgn, .int (nI z), .long ar0, .long lf, .long gl])), (hgn, .inl (X.2.1, 144, .inl (F)))]) (wc' := []) (wn := [(hg, .inr (0, [.ref hgn, .int (nI z), .long ar0, .long lf, .long gl])), (hgn, .inl (X.2.1, 144, .inl (F)))]) (r_SN C (As := [.long v.toInt64, .long (gcL v.toInt64 ar0)]) (rest := []) (kX2_divided l X v.toInt64 (gcL v.toInt64 ar0) ) ⟨va_cnB 2 C.ts gX0_numerator_X2_divided_n45 rfl rfl rfl (nm5 C) (C.ts _ (List.mem_of_getElem? (i := 3) rfl)) (by decide +kernel) ⟨Nat.le_of_ble_eq_true rfl, Nat.le_of_ble_eq_true rfl⟩, C.ts _ (List.mem_of_getElem? (i := 5) rfl), trivial⟩ [] (by decide) rfl rfl (Nat.le_of_ble_eq_true rfl) rfl dX0_numerator_11 ⟨Nat.zero_le _, Nat.zero_le _⟩) [] [0, 1] [0, 1] rfl rfl (by decide) (by decide) (by decide) rfl ?_
  exact s_lret C (pc := 14) hr hlk [0, 1] (by decide) (rfl) (rfl) dX0_numerator_14

set_option maxHeartbeats 4000000 in
set_option maxRecDepth 100000 in
theorem kX0_denominator (l : Launch) (X : XT) (hg hgn z : Nat) (F : Nat → Int32) (ar0 lf gl : Int64) (v : Int32)  : KL l yX0_denominator wsX0_denominator ({ frames := 1, cells := 0, slots := 0, locals := 30 }) X [.ref hg, .int v] [(hg, .inr (0, [.ref hgn, .int (nI z), .long ar0, .long lf, .long gl])), (hgn, .inl (X.2.1, 144, .inl (F)))] [(hg, .inr (0, [.ref hgn, .int (nI z), .long ar0, .long lf, .long gl])), (hgn, .inl (X.2.1, 144, .inl (F)))] (dvL ar0 (gcL v.toInt64 ar0)) := by
  refine k_ofL (cc := cX0_denominator) (own := RX0) (maxL := 2) (ret := (some .long)) (ls0 := [(0, .ref hg), (1, .int v)]) (by decide) rfl rfl (Nat.le_of_ble_eq_true rfl) rfl ?_
  intro p e s m args below meth c A g C hr hlk
  refine s_aload_n C (pc := 0) dX0_denominator_0 rfl 0 rfl ?_
  refine s_get C (pc := 1) (T := TX0) (N := 5) (fun _ h => (List.mem_cons_of_mem _ (List.mem_append_right _ h))) 0 rfl rfl 2 (by decide) (List.mem_of_getElem? (i := 1) rfl) rfl rfl dX0_denominator_1 ?_
  refine s_iload_n C (pc := 4) dX0_denominator_4 rfl 1 rfl ?_
  refine s_i2l C (pc := 5) dX0_denominator_5 ?_
  refine s_aload_n C (pc := 6) dX0_denominator_6 rfl 0 rfl ?_
  refine s_get C (pc := 7) (T := TX0) (N := 5) (fun _ h => (List.mem_cons_of_mem _ (List.mem_append_right _ h))) 0 rfl rfl 2 (by decide) (List.mem_of_getElem? (i := 1) rfl) rfl rfl dX0_denominator_7 ?_
  refine s_calll C (pc := 10) (wr := [(hg, .inr (0, [.ref hgn, .int (nI z), .long ar0, .long lf, .long gl])), (hgn, .inl (X.2.1, 144, .inl (F)))]) (wc' := []) (wn := [(hg, .inr (0, [.ref hgn, .int (nI z), .long ar0, .long lf, .long gl])), (hgn, .inl (X.2.1, 144, .inl (F)))]) (r_SN C (As := [.long v.toInt64, .long ar0]) (rest := [.long ar0]) (kX2_gcd l X v.toInt64 ar0 ) ⟨va_cnB 2 C.ts gX0_denominator_X2_gcd_n101 rfl rfl rfl (nm16 C) (C.ts _ (List.mem_of_getElem? (i := 3) rfl)) (by decide +kernel) ⟨Nat.le_of_ble_eq_true rfl, Nat.le_of_ble_eq_true rfl⟩, C.ts _ (List.mem_of_getElem? (i := 2) rfl), trivial⟩ [] (by decide) rfl rfl (Nat.le_of_ble_eq_true rfl) rfl dX0_denominator_10 ⟨Nat.zero_le _, Nat.zero_le _⟩) [] [0, 1] [0, 1] rfl rfl (by decide) (by decide) (by decide) rfl ?_
  refine s_calll C (pc := 13) (wr := [(hg, .inr (0, [.ref hgn, .int (nI z), .long ar0, .long lf, .long gl])), (hgn, .inl (X.2.1, 144, .inl (F)))]) (wc' := []) (wn := [(hg, .inr (0, [.ref hgn, .int (nI z), .long ar0, .long lf, .long gl])), (hgn, .inl (X.2.1, 144, .inl (F)))]) (r_SN C (As := [.long ar0, .long (gcL v.toInt64 ar0)]) (rest := []) (kX2_divided l X ar0 (gcL v.toInt64 ar0) ) ⟨va_cnB 2 C.ts gX0_denominator_X2_divided_n45 rfl rfl rfl (nm5 C) (C.ts _ (List.mem_of_getElem? (i := 3) rfl)) (by decide +kernel) ⟨Nat.le_of_ble_eq_true rfl, Nat.le_of_ble_eq_true rfl⟩, C.ts _ (List.mem_of_getElem? (i := 5) rfl), trivial⟩ [] (by decide) rfl rfl (Nat.le_of_ble_eq_true rfl) rfl dX0_denominator_13 ⟨Nat.zero_le _, Nat.zero_le _⟩) [] [0, 1] [0, 1] rfl rfl (by decide) (by decide) (by decide) rfl ?_
  exact s_lret C (pc := 16) hr hlk [0, 1] (by decide) (rfl) (rfl) dX0_denominator_16

set_option maxHeartbeats 4000000 in
set_option maxRecDepth 100000 in
theorem kX0_period (l : Launch) (X : XT) (hg hgn z : Nat) (F : Nat → Int32) (ar0 lf gl : Int64) (v : Int32)  : KI l yX0_period wsX0_period ({ frames := 1, cells := 0, slots := 0, locals := 25 }) X [.ref hg, .int v] [(hg, .inr (0, [.ref hgn, .int (nI z), .long ar0, .long lf, .long gl])), (hgn, .inl (X.2.1, 144, .inl (F)))] [(hg, .inr (0, [.ref hgn, .int (nI z), .long ar0, .long lf, .long gl])), (hgn, .inl (X.2.1, 144, .inl (F)))] (prI ar0 v) := by
  refine k_ofI (cc := cX0_period) (own := RX0) (maxL := 2) (ret := (some .int)) (ls0 := [(0, .ref hg), (1, .int v)]) (by decide) rfl rfl (Nat.le_of_ble_eq_true rfl) rfl ?_
  intro p e s m args below meth c A g C hr hlk
  refine s_aload_n C (pc := 0) dX0_period_0 rfl 0 rfl ?_
  refine s_get C (pc := 1) (T := TX0) (N := 5) (fun _ h => (List.mem_cons_of_mem _ (List.mem_append_right _ h))) 0 rfl rfl 2 (by decide) (List.mem_of_getElem? (i := 1) rfl) rfl rfl dX0_period_1 ?_
  refine s_iload_n C (pc := 4) dX0_period_4 rfl 1 rfl ?_
  refine s_i2l C (pc := 5) dX0_period_5 ?_
  refine s_calll C (pc := 6) (wr := [(hg, .inr (0, [.ref hgn, .int (nI z), .long ar0, .long lf, .long gl])), (hgn, .inl (X.2.1, 144, .inl (F)))]) (wc' := []) (wn := [(hg, .inr (0, [.ref hgn, .int (nI z), .long ar0, .long lf, .long gl])), (hgn, .inl (X.2.1, 144, .inl (F)))]) (r_SN C (As := [.long ar0, .long v.toInt64]) (rest := []) (kX2_divided l X ar0 v.toInt64 ) ⟨va_cnB 2 C.ts gX0_period_X2_divided_n45 rfl rfl rfl (nm5 C) (C.ts _ (List.mem_of_getElem? (i := 3) rfl)) (by decide +kernel) ⟨Nat.le_of_ble_eq_true rfl, Nat.le_of_ble_eq_true rfl⟩, C.ts _ (List.mem_of_getElem? (i := 2) rfl), trivial⟩ [] (by decide) rfl rfl (Nat.le_of_ble_eq_true rfl) rfl dX0_period_6 ⟨Nat.zero_le _, Nat.zero_le _⟩) [] [0, 1] [0, 1] rfl rfl (by decide) (by decide) (by decide) rfl ?_
  refine s_calli C (pc := 9) (wr := [(hg, .inr (0, [.ref hgn, .int (nI z), .long ar0, .long lf, .long gl])), (hgn, .inl (X.2.1, 144, .inl (F)))]) (wc' := []) (wn := [(hg, .inr (0, [.ref hgn, .int (nI z), .long ar0, .long lf, .long gl])), (hgn, .inl (X.2.1, 144, .inl (F)))]) (r_SN C (As := [.long (dvL ar0 v.toInt64)]) (rest := []) (kX2_root l X (dvL ar0 v.toInt64) ) ⟨va_cnB 1 C.ts gX0_period_X2_root_n104 rfl rfl rfl (nm19 C) (C.ts _ (List.mem_of_getElem? (i := 3) rfl)) (by decide +kernel) ⟨Nat.le_of_ble_eq_true rfl, Nat.le_of_ble_eq_true rfl⟩, C.ts _ (List.mem_of_getElem? (i := 5) rfl), trivial⟩ [] (by decide) rfl rfl (Nat.le_of_ble_eq_true rfl) rfl dX0_period_9 ⟨Nat.zero_le _, Nat.zero_le _⟩) [] [0, 1] [0, 1] rfl rfl (by decide) (by decide) (by decide) rfl ?_
  exact s_iret C (pc := 12) hr hlk [0, 1] (by decide) (rfl) (rfl) dX0_period_12

set_option maxHeartbeats 4000000 in
set_option maxRecDepth 100000 in
theorem kX0_add (l : Launch) (X : XT) (hg hgn z : Nat) (F : Nat → Int32) (ar0 lf gl : Int64) (v : Int32) (hz : z < 144) : KV l yX0_add wsX0_add ({ frames := 0, cells := 0, slots := 0, locals := 0 }) X [.ref hg, .int v] [(hg, .inr (0, [.ref hgn, .int (nI z), .long ar0, .long lf, .long gl])), (hgn, .inl (X.2.1, 144, .inl (F)))] [(hg, .inr (0, [.ref hgn, .int (nI (z + 1)), .long ar0, .long lf, .long gl])), (hgn, .inl (X.2.1, 144, .inl (upd F z v)))] := by
  refine k_ofV (cc := cX0_add) (own := RX0) (maxL := 2) (ret := none) (ls0 := [(0, .ref hg), (1, .int v)]) (by decide) rfl rfl (Nat.le_of_ble_eq_true rfl) rfl ?_
  intro p e s m args below meth c A g C hr hlk
  refine s_aload_n C (pc := 0) dX0_add_0 rfl 0 rfl ?_
  refine s_get C (pc := 1) (T := TX0) (N := 5) (fun _ h => (List.mem_cons_of_mem _ (List.mem_append_right _ h))) 0 rfl rfl 1 (by decide) (List.mem_of_getElem? (i := 1) rfl) rfl rfl dX0_add_1 ?_
  refine s_if_lt C (pc := 4) (tgt := 37) dX0_add_4 (by decide) (fun h => absurd h (nI_pos (by omega))) (fun c4 => ?_)
  refine s_aload_n C (pc := 7) dX0_add_7 rfl 0 rfl ?_
  refine s_get C (pc := 8) (T := TX0) (N := 5) (fun _ h => (List.mem_cons_of_mem _ (List.mem_append_right _ h))) 0 rfl rfl 1 (by decide) (List.mem_of_getElem? (i := 1) rfl) rfl rfl dX0_add_8 ?_
  refine s_sipush C (pc := 11) (v := 144) dX0_add_11 (by decide) ?_
  refine s_icmp_ge C (pc := 14) (tgt := 37) dX0_add_14 (by decide) (fun h => absurd h (fun h2 => absurd (nat_le (a := 144) (b := z) (by omega) (by omega) h2) (by omega))) (fun c14 => ?_)
  refine s_aload_n C (pc := 17) dX0_add_17 rfl 0 rfl ?_
  refine s_get C (pc := 18) (T := TX0) (N := 5) (fun _ h => (List.mem_cons_of_mem _ (List.mem_append_right _ h))) 0 rfl rfl 0 (by decide) (List.mem_of_getElem? (i := 2) rfl) rfl rfl dX0_add_18 ?_
  refine s_aload_n C (pc := 21) dX0_add_21 rfl 0 rfl ?_
  refine s_get C (pc := 22) (T := TX0) (N := 5) (fun _ h => (List.mem_cons_of_mem _ (List.mem_append_right _ h))) 0 rfl rfl 1 (by decide) (List.mem_of_getElem? (i := 1) rfl) rfl rfl dX0_add_22 ?_
  refine s_iload_n C (pc := 25) dX0_add_25 rfl 1 rfl ?_
  refine s_iast C (pc := 26) (ws' := [(hg, .inr (0, [.ref hgn, .int (nI z), .long ar0, .long lf, .long gl])), (hgn, .inl (X.2.1, 144, .inl (upd F z v)))]) 1 rfl z rfl (by omega) (by decide) rfl dX0_add_26 ?_
  refine s_aload_n C (pc := 27) dX0_add_27 rfl 0 rfl ?_
  refine s_dup C (pc := 28) dX0_add_28 rfl ?_
  refine s_get C (pc := 29) (T := TX0) (N := 5) (fun _ h => (List.mem_cons_of_mem _ (List.mem_append_right _ h))) 0 rfl rfl 1 (by decide) (List.mem_of_getElem? (i := 1) rfl) rfl rfl dX0_add_29 ?_
  refine s_iconst C (pc := 32) (v := 1) dX0_add_32 (by decide) ?_
  refine s_iadd C (pc := 33) dX0_add_33 ?_
  refine s_top C (y := nI (z + 1)) (nI_add _ _) ?_
  refine s_put C (pc := 34) (T := TX0) (N := 5) (ws' := [(hg, .inr (0, [.ref hgn, .int (nI (z + 1)), .long ar0, .long lf, .long gl])), (hgn, .inl (X.2.1, 144, .inl (upd F z v)))]) (fun _ h => (List.mem_cons_of_mem _ (List.mem_append_right _ h))) 0 rfl rfl tyX0 tyX0_ok nmX0 1 (by decide) (List.mem_of_getElem? (i := 1) rfl) rfl rfl rfl rfl (Nat.le_of_ble_eq_true rfl) rfl dX0_add_34 ?_
  exact s_vret C (pc := 37) hr hlk [0, 1] (by decide) (rfl) dX0_add_37

set_option maxHeartbeats 4000000 in
set_option maxRecDepth 100000 in
theorem kX0_bandCount (l : Launch) (X : XT) (hg hgn z : Nat) (F : Nat → Int32) (ar0 lf gl : Int64) (hz : z ≤ 144) : KI l yX0_bandCount wsX0_bandCount ({ frames := 1, cells := 0, slots := 0, locals := 21 }) X [.ref hg] [(hg, .inr (0, [.ref hgn, .int (nI z), .long ar0, .long lf, .long gl])), (hgn, .inl (X.2.1, 144, .inl (F)))] [(hg, .inr (0, [.ref hgn, .int (nI z), .long ar0, .long lf, .long gl])), (hgn, .inl (X.2.1, 144, .inl (F)))] (bcF F lf gl z) := by
  refine k_ofI (cc := cX0_bandCount) (own := RX0) (maxL := 3) (ret := (some .int)) (ls0 := [(0, .ref hg)]) (by decide) rfl rfl (Nat.le_of_ble_eq_true rfl) rfl ?_
  intro p e s m args below meth c A g C hr hlk
  refine s_iconst C (pc := 0) (v := 0) dX0_bandCount_0 (by decide) ?_
  refine s_istore_n C (pc := 1) (ls' := [(1, .int 0), (0, .ref hg)]) dX0_bandCount_1 rfl (by decide) rfl ?_
  refine s_iconst C (pc := 2) (v := 0) dX0_bandCount_2 (by decide) ?_
  refine s_istore_n C (pc := 3) (ls' := [(2, .int 0), (1, .int 0), (0, .ref hg)]) dX0_bandCount_3 rfl (by decide) rfl ?_
  have L4 : ∀ (n_ : Nat) (k : Nat), (k ≤ z) → z + 1 ≤ k + n_ → g [(hg, .inr (0, [.ref hgn, .int (nI z), .long ar0, .long lf, .long gl])), (hgn, .inl (X.2.1, 144, .inl (F)))] 4 [(0, .ref hg), (1, .int (bcF F lf gl k)), (2, .int (nI k))] [] := by
    intro n_
    induction n_ with
    | zero =>
      intro k hk hf
      exact absurd hf (by omega)
    | succ n_ ih4 =>
      intro k hk hf4
      refine s_iload_n C (pc := 4) dX0_bandCount_4 rfl 2 rfl ?_
      refine s_aload_n C (pc := 5) dX0_bandCount_5 rfl 0 rfl ?_
      refine s_get C (pc := 6) (T := TX0) (N := 5) (fun _ h => (List.mem_cons_of_mem _ (List.mem_append_right _ h))) 0 rfl rfl 1 (by decide) (List.mem_of_getElem? (i := 1) rfl) rfl rfl dX0_bandCount_6 ?_
      refine s_icmp_ge C (pc := 9) (tgt := 42) dX0_bandCount_9 (by decide) (fun c9 => ?_) (fun c9 => ?_)
      · skip
        have e9 := nat_le (a := z) (b := k) (by omega) (by omega) c9
        have hs0 : z = k := by omega
        subst hs0
        refine s_iload_n C (pc := 42) dX0_bandCount_42 rfl 1 rfl ?_
        exact s_iret C (pc := 43) hr hlk [0, 1] (by decide) (rfl) (rfl) dX0_bandCount_43
      · skip
        have e9 := nat_nle (a := z) (b := k) (by omega) (by omega) c9
        refine s_iload_n C (pc := 12) dX0_bandCount_12 rfl 2 rfl ?_
        refine s_sipush C (pc := 13) (v := 144) dX0_bandCount_13 (by decide) ?_
        refine s_icmp_ge C (pc := 16) (tgt := 42) dX0_bandCount_16 (by decide) (fun h => absurd h (fun h2 => absurd (nat_le (a := 144) (b := k) (by omega) (by omega) h2) (by omega))) (fun c16 => ?_)
        refine s_aload_n C (pc := 19) dX0_bandCount_19 rfl 0 rfl ?_
        refine s_aload_n C (pc := 20) dX0_bandCount_20 rfl 0 rfl ?_
        refine s_get C (pc := 21) (T := TX0) (N := 5) (fun _ h => (List.mem_cons_of_mem _ (List.mem_append_right _ h))) 0 rfl rfl 0 (by decide) (List.mem_of_getElem? (i := 2) rfl) rfl rfl dX0_bandCount_21 ?_
        refine s_iload_n C (pc := 24) dX0_bandCount_24 rfl 2 rfl ?_
        refine s_iald C (pc := 25) 1 rfl k rfl (by omega) (by decide) dX0_bandCount_25 ?_
        refine s_calli C (pc := 26) (wr := []) (wc' := [(hg, .inr (0, [.ref hgn, .int (nI z), .long ar0, .long lf, .long gl])), (hgn, .inl (X.2.1, 144, .inl (F)))]) (wn := [(hg, .inr (0, [.ref hgn, .int (nI z), .long ar0, .long lf, .long gl])), (hgn, .inl (X.2.1, 144, .inl (F)))]) (r_V C (As := [.int (F k)]) (rest := []) (kX0_kindOf l X hg hgn z F ar0 lf gl (F k) ) (cwV 1 C.ts gX0_bandCount_X0_kindOf rfl rfl rfl (by decide +kernel) ⟨Nat.le_of_ble_eq_true rfl, Nat.le_of_ble_eq_true rfl⟩) (q0 := 0) rfl rfl [0, 1] (by decide) rfl rfl (Nat.le_of_ble_eq_true rfl) rfl dX0_bandCount_26 ⟨Nat.zero_le _, Nat.zero_le _⟩) [0, 1] [] [0, 1] rfl rfl (by decide) (by decide) (by decide) rfl ?_
        refine s_iconst C (pc := 29) (v := 3) dX0_bandCount_29 (by decide) ?_
        refine s_icmp_ne C (pc := 30) (tgt := 36) dX0_bandCount_30 (by decide) (fun c30 => ?_) (fun c30 => ?_)
        · skip
          refine s_iinc C (pc := 36) (v := nI (k + 1)) (ls' := [(2, .int (nI (k + 1))), (0, .ref hg), (1, .int (bcF F lf gl k))]) dX0_bandCount_36 2 rfl (nI_1 _) (by decide) rfl ?_
          refine s_goto C (pc := 39) (tgt := 4) dX0_bandCount_39 (by decide) ?_
          refine s_loc C (ls' := [(0, .ref hg), (1, .int (bcF F lf gl k)), (2, .int (nI (k + 1)))]) [1, 2, 0] rfl ?_
          have hb := ih4 (k + 1) (by omega) (by omega)
          rw [show bcF F lf gl (k + 1) = bcF F lf gl k from if_neg c30] at hb
          exact hb
        · skip
          refine s_iinc C (pc := 33) (v := (bcF F lf gl k) + 4) (ls' := [(1, .int ((bcF F lf gl k) + 4)), (0, .ref hg), (2, .int (nI k))]) dX0_bandCount_33 1 rfl rfl (by decide) rfl ?_
          refine s_iinc C (pc := 36) (v := nI (k + 1)) (ls' := [(2, .int (nI (k + 1))), (1, .int ((bcF F lf gl k) + 4)), (0, .ref hg)]) dX0_bandCount_36 2 rfl (nI_1 _) (by decide) rfl ?_
          refine s_goto C (pc := 39) (tgt := 4) dX0_bandCount_39 (by decide) ?_
          refine s_loc C (ls' := [(0, .ref hg), (1, .int ((bcF F lf gl k) + 4)), (2, .int (nI (k + 1)))]) [2, 1, 0] rfl ?_
          have hb := ih4 (k + 1) (by omega) (by omega)
          rw [show bcF F lf gl (k + 1) = bcF F lf gl k + 4 from if_pos c30] at hb
          exact hb
  refine s_loc C (ls' := [(0, .ref hg), (1, .int 0), (2, .int 0)]) [2, 1, 0] rfl ?_
  exact L4 (z + 1) 0 (Nat.zero_le _) (by omega)

set_option maxHeartbeats 4000000 in
set_option maxRecDepth 100000 in
theorem kX0_combinationsWith (l : Launch) (X : XT) (hg hgn z : Nat) (F : Nat → Int32) (ar0 lf gl : Int64) (v : Int32) (hz : z ≤ 144) : KI l yX0_combinationsWith wsX0_combinationsWith ({ frames := 0, cells := 0, slots := 0, locals := 0 }) X [.ref hg, .int v] [(hg, .inr (0, [.ref hgn, .int (nI z), .long ar0, .long lf, .long gl])), (hgn, .inl (X.2.1, 144, .inl (F)))] [(hg, .inr (0, [.ref hgn, .int (nI z), .long ar0, .long lf, .long gl])), (hgn, .inl (X.2.1, 144, .inl (F)))] (cwF F v z) := by
  refine k_ofI (cc := cX0_combinationsWith) (own := RX0) (maxL := 4) (ret := (some .int)) (ls0 := [(0, .ref hg), (1, .int v)]) (by decide) rfl rfl (Nat.le_of_ble_eq_true rfl) rfl ?_
  intro p e s m args below meth c A g C hr hlk
  refine s_iconst C (pc := 0) (v := 0) dX0_combinationsWith_0 (by decide) ?_
  refine s_istore_n C (pc := 1) (ls' := [(2, .int 0), (0, .ref hg), (1, .int v)]) dX0_combinationsWith_1 rfl (by decide) rfl ?_
  refine s_iconst C (pc := 2) (v := 0) dX0_combinationsWith_2 (by decide) ?_
  refine s_istore_n C (pc := 3) (ls' := [(3, .int 0), (2, .int 0), (0, .ref hg), (1, .int v)]) dX0_combinationsWith_3 rfl (by decide) rfl ?_
  have L4 : ∀ (n_ : Nat) (k : Nat), (k ≤ z) → z + 1 ≤ k + n_ → g [(hg, .inr (0, [.ref hgn, .int (nI z), .long ar0, .long lf, .long gl])), (hgn, .inl (X.2.1, 144, .inl (F)))] 4 [(0, .ref hg), (1, .int v), (2, .int (cwF F v k)), (3, .int (nI k))] [] := by
    intro n_
    induction n_ with
    | zero =>
      intro k hk hf
      exact absurd hf (by omega)
    | succ n_ ih4 =>
      intro k hk hf4
      refine s_iload_n C (pc := 4) dX0_combinationsWith_4 rfl 3 rfl ?_
      refine s_aload_n C (pc := 5) dX0_combinationsWith_5 rfl 0 rfl ?_
      refine s_get C (pc := 6) (T := TX0) (N := 5) (fun _ h => (List.mem_cons_of_mem _ (List.mem_append_right _ h))) 0 rfl rfl 1 (by decide) (List.mem_of_getElem? (i := 1) rfl) rfl rfl dX0_combinationsWith_6 ?_
      refine s_icmp_ge C (pc := 9) (tgt := 38) dX0_combinationsWith_9 (by decide) (fun c9 => ?_) (fun c9 => ?_)
      · skip
        have e9 := nat_le (a := z) (b := k) (by omega) (by omega) c9
        have hs0 : z = k := by omega
        subst hs0
        refine s_iload_n C (pc := 38) dX0_combinationsWith_38 rfl 2 rfl ?_
        exact s_iret C (pc := 39) hr hlk [0, 1] (by decide) (rfl) (rfl) dX0_combinationsWith_39
      · skip
        have e9 := nat_nle (a := z) (b := k) (by omega) (by omega) c9
        refine s_iload_n C (pc := 12) dX0_combinationsWith_12 rfl 3 rfl ?_
        refine s_sipush C (pc := 13) (v := 144) dX0_combinationsWith_13 (by decide) ?_
        refine s_icmp_ge C (pc := 16) (tgt := 38) dX0_combinationsWith_16 (by decide) (fun h => absurd h (fun h2 => absurd (nat_le (a := 144) (b := k) (by omega) (by omega) h2) (by omega))) (fun c16 => ?_)
        refine s_aload_n C (pc := 19) dX0_combinationsWith_19 rfl 0 rfl ?_
        refine s_get C (pc := 20) (T := TX0) (N := 5) (fun _ h => (List.mem_cons_of_mem _ (List.mem_append_right _ h))) 0 rfl rfl 0 (by decide) (List.mem_of_getElem? (i := 2) rfl) rfl rfl dX0_combinationsWith_20 ?_
        refine s_iload_n C (pc := 23) dX0_combinationsWith_23 rfl 3 rfl ?_
        refine s_iald C (pc := 24) 1 rfl k rfl (by omega) (by decide) dX0_combinationsWith_24 ?_
        refine s_iload_n C (pc := 25) dX0_combinationsWith_25 rfl 1 rfl ?_
        refine s_icmp_ne C (pc := 26) (tgt := 32) dX0_combinationsWith_26 (by decide) (fun c26 => ?_) (fun c26 => ?_)
        · skip
          refine s_iinc C (pc := 32) (v := nI (k + 1)) (ls' := [(3, .int (nI (k + 1))), (0, .ref hg), (1, .int v), (2, .int (cwF F v k))]) dX0_combinationsWith_32 3 rfl (nI_1 _) (by decide) rfl ?_
          refine s_goto C (pc := 35) (tgt := 4) dX0_combinationsWith_35 (by decide) ?_
          refine s_loc C (ls' := [(0, .ref hg), (1, .int v), (2, .int (cwF F v k)), (3, .int (nI (k + 1)))]) [1, 2, 3, 0] rfl ?_
          have hb := ih4 (k + 1) (by omega) (by omega)
          rw [show cwF F v (k + 1) = cwF F v k from if_neg c26] at hb
          exact hb
        · skip
          refine s_iinc C (pc := 29) (v := (cwF F v k) + 4) (ls' := [(2, .int ((cwF F v k) + 4)), (0, .ref hg), (1, .int v), (3, .int (nI k))]) dX0_combinationsWith_29 2 rfl rfl (by decide) rfl ?_
          refine s_iinc C (pc := 32) (v := nI (k + 1)) (ls' := [(3, .int (nI (k + 1))), (2, .int ((cwF F v k) + 4)), (0, .ref hg), (1, .int v)]) dX0_combinationsWith_32 3 rfl (nI_1 _) (by decide) rfl ?_
          refine s_goto C (pc := 35) (tgt := 4) dX0_combinationsWith_35 (by decide) ?_
          refine s_loc C (ls' := [(0, .ref hg), (1, .int v), (2, .int ((cwF F v k) + 4)), (3, .int (nI (k + 1)))]) [2, 3, 1, 0] rfl ?_
          have hb := ih4 (k + 1) (by omega) (by omega)
          rw [show cwF F v (k + 1) = cwF F v k + 4 from if_pos c26] at hb
          exact hb
  refine s_loc C (ls' := [(0, .ref hg), (1, .int v), (2, .int 0), (3, .int 0)]) [2, 3, 1, 0] rfl ?_
  exact L4 (z + 1) 0 (Nat.zero_le _) (by omega)

set_option maxHeartbeats 4000000 in
set_option maxRecDepth 100000 in
theorem kX0_worstPeriodFound (l : Launch) (X : XT) (hg hgn z : Nat) (F : Nat → Int32) (ar0 lf gl : Int64) (hz : z ≤ 144) : KI l yX0_worstPeriodFound wsX0_worstPeriodFound ({ frames := 2, cells := 0, slots := 0, locals := 46 }) X [.ref hg] [(hg, .inr (0, [.ref hgn, .int (nI z), .long ar0, .long lf, .long gl])), (hgn, .inl (X.2.1, 144, .inl (F)))] [(hg, .inr (0, [.ref hgn, .int (nI z), .long ar0, .long lf, .long gl])), (hgn, .inl (X.2.1, 144, .inl (F)))] (prI ar0 (wlF F lf gl z)) := by
  refine k_ofI (cc := cX0_worstPeriodFound) (own := RX0) (maxL := 3) (ret := (some .int)) (ls0 := [(0, .ref hg)]) (by decide) rfl rfl (Nat.le_of_ble_eq_true rfl) rfl ?_
  intro p e s m args below meth c A g C hr hlk
  refine s_iconst C (pc := 0) (v := 0) dX0_worstPeriodFound_0 (by decide) ?_
  refine s_istore_n C (pc := 1) (ls' := [(1, .int 0), (0, .ref hg)]) dX0_worstPeriodFound_1 rfl (by decide) rfl ?_
  refine s_iconst C (pc := 2) (v := 0) dX0_worstPeriodFound_2 (by decide) ?_
  refine s_istore_n C (pc := 3) (ls' := [(2, .int 0), (1, .int 0), (0, .ref hg)]) dX0_worstPeriodFound_3 rfl (by decide) rfl ?_
  have L4 : ∀ (n_ : Nat) (k : Nat), (k ≤ z) → z + 1 ≤ k + n_ → g [(hg, .inr (0, [.ref hgn, .int (nI z), .long ar0, .long lf, .long gl])), (hgn, .inl (X.2.1, 144, .inl (F)))] 4 [(0, .ref hg), (1, .int (wlF F lf gl k)), (2, .int (nI k))] [] := by
    intro n_
    induction n_ with
    | zero =>
      intro k hk hf
      exact absurd hf (by omega)
    | succ n_ ih4 =>
      intro k hk hf4
      refine s_iload_n C (pc := 4) dX0_worstPeriodFound_4 rfl 2 rfl ?_
      refine s_aload_n C (pc := 5) dX0_worstPeriodFound_5 rfl 0 rfl ?_
      refine s_get C (pc := 6) (T := TX0) (N := 5) (fun _ h => (List.mem_cons_of_mem _ (List.mem_append_right _ h))) 0 rfl rfl 1 (by decide) (List.mem_of_getElem? (i := 1) rfl) rfl rfl dX0_worstPeriodFound_6 ?_
      refine s_icmp_ge C (pc := 9) (tgt := 60) dX0_worstPeriodFound_9 (by decide) (fun c9 => ?_) (fun c9 => ?_)
      · skip
        have e9 := nat_le (a := z) (b := k) (by omega) (by omega) c9
        have hs0 : z = k := by omega
        subst hs0
        refine s_aload_n C (pc := 60) dX0_worstPeriodFound_60 rfl 0 rfl ?_
        refine s_iload_n C (pc := 61) dX0_worstPeriodFound_61 rfl 1 rfl ?_
        refine s_calli C (pc := 62) (wr := []) (wc' := [(hg, .inr (0, [.ref hgn, .int (nI z), .long ar0, .long lf, .long gl])), (hgn, .inl (X.2.1, 144, .inl (F)))]) (wn := [(hg, .inr (0, [.ref hgn, .int (nI z), .long ar0, .long lf, .long gl])), (hgn, .inl (X.2.1, 144, .inl (F)))]) (r_V C (As := [.int (wlF F lf gl z)]) (rest := []) (kX0_period l X hg hgn z F ar0 lf gl (wlF F lf gl z) ) (cwV 1 C.ts gX0_worstPeriodFound_X0_period rfl rfl rfl (by decide +kernel) ⟨Nat.le_of_ble_eq_true rfl, Nat.le_of_ble_eq_true rfl⟩) (q0 := 0) rfl rfl [0, 1] (by decide) rfl rfl (Nat.le_of_ble_eq_true rfl) rfl dX0_worstPeriodFound_62 ⟨Nat.zero_le _, Nat.zero_le _⟩) [0, 1] [] [0, 1] rfl rfl (by decide) (by decide) (by decide) rfl ?_
        exact s_iret C (pc := 65) hr hlk [0, 1] (by decide) (rfl) (rfl) dX0_worstPeriodFound_65
      · skip
        have e9 := nat_nle (a := z) (b := k) (by omega) (by omega) c9
        refine s_iload_n C (pc := 12) dX0_worstPeriodFound_12 rfl 2 rfl ?_
        refine s_sipush C (pc := 13) (v := 144) dX0_worstPeriodFound_13 (by decide) ?_
        refine s_icmp_ge C (pc := 16) (tgt := 60) dX0_worstPeriodFound_16 (by decide) (fun h => absurd h (fun h2 => absurd (nat_le (a := 144) (b := k) (by omega) (by omega) h2) (by omega))) (fun c16 => ?_)
        refine s_aload_n C (pc := 19) dX0_worstPeriodFound_19 rfl 0 rfl ?_
        refine s_aload_n C (pc := 20) dX0_worstPeriodFound_20 rfl 0 rfl ?_
        refine s_get C (pc := 21) (T := TX0) (N := 5) (fun _ h => (List.mem_cons_of_mem _ (List.mem_append_right _ h))) 0 rfl rfl 0 (by decide) (List.mem_of_getElem? (i := 2) rfl) rfl rfl dX0_worstPeriodFound_21 ?_
        refine s_iload_n C (pc := 24) dX0_worstPeriodFound_24 rfl 2 rfl ?_
        refine s_iald C (pc := 25) 1 rfl k rfl (by omega) (by decide) dX0_worstPeriodFound_25 ?_
        refine s_calli C (pc := 26) (wr := []) (wc' := [(hg, .inr (0, [.ref hgn, .int (nI z), .long ar0, .long lf, .long gl])), (hgn, .inl (X.2.1, 144, .inl (F)))]) (wn := [(hg, .inr (0, [.ref hgn, .int (nI z), .long ar0, .long lf, .long gl])), (hgn, .inl (X.2.1, 144, .inl (F)))]) (r_V C (As := [.int (F k)]) (rest := []) (kX0_kindOf l X hg hgn z F ar0 lf gl (F k) ) (cwV 1 C.ts gX0_worstPeriodFound_X0_kindOf rfl rfl rfl (by decide +kernel) ⟨Nat.le_of_ble_eq_true rfl, Nat.le_of_ble_eq_true rfl⟩) (q0 := 0) rfl rfl [0, 1] (by decide) rfl rfl (Nat.le_of_ble_eq_true rfl) rfl dX0_worstPeriodFound_26 ⟨Nat.zero_le _, Nat.zero_le _⟩) [0, 1] [] [0, 1] rfl rfl (by decide) (by decide) (by decide) rfl ?_
        refine s_iconst C (pc := 29) (v := 3) dX0_worstPeriodFound_29 (by decide) ?_
        refine s_icmp_ne C (pc := 30) (tgt := 54) dX0_worstPeriodFound_30 (by decide) (fun c30 => ?_) (fun c30 => ?_)
        · skip
          refine s_iinc C (pc := 54) (v := nI (k + 1)) (ls' := [(2, .int (nI (k + 1))), (0, .ref hg), (1, .int (wlF F lf gl k))]) dX0_worstPeriodFound_54 2 rfl (nI_1 _) (by decide) rfl ?_
          refine s_goto C (pc := 57) (tgt := 4) dX0_worstPeriodFound_57 (by decide) ?_
          refine s_loc C (ls' := [(0, .ref hg), (1, .int (wlF F lf gl k)), (2, .int (nI (k + 1)))]) [1, 2, 0] rfl ?_
          have hb := ih4 (k + 1) (by omega) (by omega)
          rw [show wlF F lf gl (k + 1) = wlF F lf gl k from if_neg c30] at hb
          exact hb
        · skip
          refine s_iload_n C (pc := 33) dX0_worstPeriodFound_33 rfl 1 rfl ?_
          refine s_if_eq C (pc := 34) (tgt := 47) dX0_worstPeriodFound_34 (by decide) (fun c34 => ?_) (fun c34 => ?_)
          · skip
            refine s_aload_n C (pc := 47) dX0_worstPeriodFound_47 rfl 0 rfl ?_
            refine s_get C (pc := 48) (T := TX0) (N := 5) (fun _ h => (List.mem_cons_of_mem _ (List.mem_append_right _ h))) 0 rfl rfl 0 (by decide) (List.mem_of_getElem? (i := 2) rfl) rfl rfl dX0_worstPeriodFound_48 ?_
            refine s_iload_n C (pc := 51) dX0_worstPeriodFound_51 rfl 2 rfl ?_
            refine s_iald C (pc := 52) 1 rfl k rfl (by omega) (by decide) dX0_worstPeriodFound_52 ?_
            refine s_istore_n C (pc := 53) (ls' := [(1, .int (F k)), (0, .ref hg), (2, .int (nI k))]) dX0_worstPeriodFound_53 rfl (by decide) rfl ?_
            refine s_iinc C (pc := 54) (v := nI (k + 1)) (ls' := [(2, .int (nI (k + 1))), (1, .int (F k)), (0, .ref hg)]) dX0_worstPeriodFound_54 2 rfl (nI_1 _) (by decide) rfl ?_
            refine s_goto C (pc := 57) (tgt := 4) dX0_worstPeriodFound_57 (by decide) ?_
            refine s_loc C (ls' := [(0, .ref hg), (1, .int (F k)), (2, .int (nI (k + 1)))]) [2, 1, 0] rfl ?_
            have hb := ih4 (k + 1) (by omega) (by omega)
            rw [show wlF F lf gl (k + 1) = F k from (if_pos c30).trans (if_pos c34)] at hb
            exact hb
          · skip
            refine s_aload_n C (pc := 37) dX0_worstPeriodFound_37 rfl 0 rfl ?_
            refine s_get C (pc := 38) (T := TX0) (N := 5) (fun _ h => (List.mem_cons_of_mem _ (List.mem_append_right _ h))) 0 rfl rfl 0 (by decide) (List.mem_of_getElem? (i := 2) rfl) rfl rfl dX0_worstPeriodFound_38 ?_
            refine s_iload_n C (pc := 41) dX0_worstPeriodFound_41 rfl 2 rfl ?_
            refine s_iald C (pc := 42) 1 rfl k rfl (by omega) (by decide) dX0_worstPeriodFound_42 ?_
            refine s_iload_n C (pc := 43) dX0_worstPeriodFound_43 rfl 1 rfl ?_
            refine s_icmp_ge C (pc := 44) (tgt := 54) dX0_worstPeriodFound_44 (by decide) (fun c44 => ?_) (fun c44 => ?_)
            · skip
              refine s_iinc C (pc := 54) (v := nI (k + 1)) (ls' := [(2, .int (nI (k + 1))), (0, .ref hg), (1, .int (wlF F lf gl k))]) dX0_worstPeriodFound_54 2 rfl (nI_1 _) (by decide) rfl ?_
              refine s_goto C (pc := 57) (tgt := 4) dX0_worstPeriodFound_57 (by decide) ?_
              refine s_loc C (ls' := [(0, .ref hg), (1, .int (wlF F lf gl k)), (2, .int (nI (k + 1)))]) [1, 2, 0] rfl ?_
              have hb := ih4 (k + 1) (by omega) (by omega)
              rw [show wlF F lf gl (k + 1) = wlF F lf gl k from (if_pos c30).trans ((if_neg c34).trans (if_pos c44))] at hb
              exact hb
            · skip
              refine s_aload_n C (pc := 47) dX0_worstPeriodFound_47 rfl 0 rfl ?_
              refine s_get C (pc := 48) (T := TX0) (N := 5) (fun _ h => (List.mem_cons_of_mem _ (List.mem_append_right _ h))) 0 rfl rfl 0 (by decide) (List.mem_of_getElem? (i := 2) rfl) rfl rfl dX0_worstPeriodFound_48 ?_
              refine s_iload_n C (pc := 51) dX0_worstPeriodFound_51 rfl 2 rfl ?_
              refine s_iald C (pc := 52) 1 rfl k rfl (by omega) (by decide) dX0_worstPeriodFound_52 ?_
              refine s_istore_n C (pc := 53) (ls' := [(1, .int (F k)), (0, .ref hg), (2, .int (nI k))]) dX0_worstPeriodFound_53 rfl (by decide) rfl ?_
              refine s_iinc C (pc := 54) (v := nI (k + 1)) (ls' := [(2, .int (nI (k + 1))), (1, .int (F k)), (0, .ref hg)]) dX0_worstPeriodFound_54 2 rfl (nI_1 _) (by decide) rfl ?_
              refine s_goto C (pc := 57) (tgt := 4) dX0_worstPeriodFound_57 (by decide) ?_
              refine s_loc C (ls' := [(0, .ref hg), (1, .int (F k)), (2, .int (nI (k + 1)))]) [2, 1, 0] rfl ?_
              have hb := ih4 (k + 1) (by omega) (by omega)
              rw [show wlF F lf gl (k + 1) = F k from (if_pos c30).trans ((if_neg c34).trans (if_neg c44))] at hb
              exact hb
  refine s_loc C (ls' := [(0, .ref hg), (1, .int 0), (2, .int 0)]) [2, 1, 0] rfl ?_
  exact L4 (z + 1) 0 (Nat.zero_le _) (by omega)

set_option maxHeartbeats 4000000 in
set_option maxRecDepth 100000 in
theorem kX0_sort (l : Launch) (X : XT) (hg hgn z : Nat) (F : Nat → Int32) (ar0 lf gl : Int64) (hz : z ≤ 144) (hz1 : 1 ≤ z) : KV l yX0_sort wsX0_sort ({ frames := 0, cells := 0, slots := 0, locals := 0 }) X [.ref hg] [(hg, .inr (0, [.ref hgn, .int (nI z), .long ar0, .long lf, .long gl])), (hgn, .inl (X.2.1, 144, .inl (F)))] [(hg, .inr (0, [.ref hgn, .int (nI z), .long ar0, .long lf, .long gl])), (hgn, .inl (X.2.1, 144, .inl (srF F (z - 1))))] := by
  refine k_ofV (cc := cX0_sort) (own := RX0) (maxL := 4) (ret := none) (ls0 := [(0, .ref hg)]) (by decide) rfl rfl (Nat.le_of_ble_eq_true rfl) rfl ?_
  intro p e s m args below meth c A g C hr hlk
  refine s_iconst C (pc := 0) (v := 1) dX0_sort_0 (by decide) ?_
  refine s_istore_n C (pc := 1) (ls' := [(1, .int 1), (0, .ref hg)]) dX0_sort_1 rfl (by decide) rfl ?_
  have L2 : ∀ (n_ : Nat) (j : Nat), (j + 1 ≤ z) → z ≤ j + n_ → g [(hg, .inr (0, [.ref hgn, .int (nI z), .long ar0, .long lf, .long gl])), (hgn, .inl (X.2.1, 144, .inl ((srF F j))))] 2 [(0, .ref hg), (1, .int (nI (j + 1)))] [] := by
    intro n_
    induction n_ with
    | zero =>
      intro j hj hf
      exact absurd hf (by omega)
    | succ n_ ih2 =>
      intro j hj hf2
      refine s_iload_n C (pc := 2) dX0_sort_2 rfl 1 rfl ?_
      refine s_aload_n C (pc := 3) dX0_sort_3 rfl 0 rfl ?_
      refine s_get C (pc := 4) (T := TX0) (N := 5) (fun _ h => (List.mem_cons_of_mem _ (List.mem_append_right _ h))) 0 rfl rfl 1 (by decide) (List.mem_of_getElem? (i := 1) rfl) rfl rfl dX0_sort_4 ?_
      refine s_icmp_ge C (pc := 7) (tgt := 75) dX0_sort_7 (by decide) (fun c7 => ?_) (fun c7 => ?_)
      · skip
        have e7 := nat_le (a := z) (b := (j + 1)) (by omega) (by omega) c7
        have hs0 : z - 1 = j := by omega
        subst hs0
        exact s_vret C (pc := 75) hr hlk [0, 1] (by decide) (rfl) dX0_sort_75
      · skip
        have e7 := nat_nle (a := z) (b := (j + 1)) (by omega) (by omega) c7
        refine s_iload_n C (pc := 10) dX0_sort_10 rfl 1 rfl ?_
        refine s_sipush C (pc := 11) (v := 144) dX0_sort_11 (by decide) ?_
        refine s_icmp_ge C (pc := 14) (tgt := 75) dX0_sort_14 (by decide) (fun h => absurd h (fun h2 => absurd (nat_le (a := 144) (b := (j + 1)) (by omega) (by omega) h2) (by omega))) (fun c14 => ?_)
        refine s_aload_n C (pc := 17) dX0_sort_17 rfl 0 rfl ?_
        refine s_get C (pc := 18) (T := TX0) (N := 5) (fun _ h => (List.mem_cons_of_mem _ (List.mem_append_right _ h))) 0 rfl rfl 0 (by decide) (List.mem_of_getElem? (i := 2) rfl) rfl rfl dX0_sort_18 ?_
        refine s_iload_n C (pc := 21) dX0_sort_21 rfl 1 rfl ?_
        refine s_iald C (pc := 22) 1 rfl (j + 1) rfl (by omega) (by decide) dX0_sort_22 ?_
        refine s_top C (y := srF F j (j + 1)) (rfl) ?_
        refine s_istore_n C (pc := 23) (ls' := [(2, .int (srF F j (j + 1))), (0, .ref hg), (1, .int (nI (j + 1)))]) dX0_sort_23 rfl (by decide) rfl ?_
        refine s_iload_n C (pc := 24) dX0_sort_24 rfl 2 rfl ?_
        refine s_istore_n C (pc := 25) (ls' := [(3, .int (nI (j + 1))), (2, .int (srF F j (j + 1))), (0, .ref hg), (1, .int (nI (j + 1)))]) dX0_sort_25 rfl (by decide) rfl ?_
        have L26 : ∀ (n_ : Nat) (q : Nat) (f1 : Nat → Int32), (q ≤ j + 1) → (insW f1 (srF F j (j + 1)) q = insW (srF F j) (srF F j (j + 1)) (j + 1)) → q < n_ → g [(hg, .inr (0, [.ref hgn, .int (nI z), .long ar0, .long lf, .long gl])), (hgn, .inl (X.2.1, 144, .inl (f1)))] 26 [(0, .ref hg), (1, .int (nI (j + 1))), (2, .int (srF F j (j + 1))), (3, .int (nI q))] [] := by
          intro n_
          induction n_ with
          | zero =>
            intro q f1 hq hI hf
            exact absurd hf (by omega)
          | succ n_ ih26 =>
            intro q f1 hq hI hf26
            refine s_iload_n C (pc := 26) dX0_sort_26 rfl 3 rfl ?_
            refine s_if_le C (pc := 27) (tgt := 62) dX0_sort_27 (by decide) (fun c27 => ?_) (fun c27 => ?_)
            · skip
              have e27 := nat_le (a := q) (b := 0) (by omega) (by omega) c27
              refine s_aload_n C (pc := 62) dX0_sort_62 rfl 0 rfl ?_
              refine s_get C (pc := 63) (T := TX0) (N := 5) (fun _ h => (List.mem_cons_of_mem _ (List.mem_append_right _ h))) 0 rfl rfl 0 (by decide) (List.mem_of_getElem? (i := 2) rfl) rfl rfl dX0_sort_63 ?_
              refine s_iload_n C (pc := 66) dX0_sort_66 rfl 3 rfl ?_
              refine s_iload_n C (pc := 67) dX0_sort_67 rfl 2 rfl ?_
              refine s_iast C (pc := 68) (ws' := [(hg, .inr (0, [.ref hgn, .int (nI z), .long ar0, .long lf, .long gl])), (hgn, .inl (X.2.1, 144, .inl (upd f1 q (srF F j (j + 1)))))]) 1 rfl q rfl (by omega) (by decide) rfl dX0_sort_68 ?_
              refine s_iinc C (pc := 69) (v := nI ((j + 1) + 1)) (ls' := [(1, .int (nI ((j + 1) + 1))), (0, .ref hg), (2, .int (srF F j (j + 1))), (3, .int (nI q))]) dX0_sort_69 1 rfl (nI_1 _) (by decide) rfl ?_
              refine s_goto C (pc := 72) (tgt := 2) dX0_sort_72 (by decide) ?_
              refine s_loc C (ls' := [(0, .ref hg), (1, .int (nI ((j + 1) + 1)))]) [1, 0] rfl ?_
              have hb := ih2 (j + 1) (by omega) (by omega)
              have hq0 : 0 = q := by omega
              subst hq0
              rw [show srF F (j + 1) = upd f1 0 (srF F j (j + 1)) from hI.symm] at hb
              exact hb
            · skip
              have e27 := nat_nle (a := q) (b := 0) (by omega) (by omega) c27
              obtain ⟨q1, hq1⟩ : ∃ q1, q = q1 + 1 := ⟨q - 1, by omega⟩
              subst hq1
              refine s_aload_n C (pc := 30) dX0_sort_30 rfl 0 rfl ?_
              refine s_get C (pc := 31) (T := TX0) (N := 5) (fun _ h => (List.mem_cons_of_mem _ (List.mem_append_right _ h))) 0 rfl rfl 0 (by decide) (List.mem_of_getElem? (i := 2) rfl) rfl rfl dX0_sort_31 ?_
              refine s_iload_n C (pc := 34) dX0_sort_34 rfl 3 rfl ?_
              refine s_iconst C (pc := 35) (v := 1) dX0_sort_35 (by decide) ?_
              refine s_isub C (pc := 36) dX0_sort_36 ?_
              refine s_top C (y := nI q1) (nI_pred _) ?_
              refine s_iald C (pc := 37) 1 rfl q1 rfl (by omega) (by decide) dX0_sort_37 ?_
              refine s_iload_n C (pc := 38) dX0_sort_38 rfl 2 rfl ?_
              refine s_icmp_le C (pc := 39) (tgt := 62) dX0_sort_39 (by decide) (fun c39 => ?_) (fun c39 => ?_)
              · skip
                refine s_aload_n C (pc := 62) dX0_sort_62 rfl 0 rfl ?_
                refine s_get C (pc := 63) (T := TX0) (N := 5) (fun _ h => (List.mem_cons_of_mem _ (List.mem_append_right _ h))) 0 rfl rfl 0 (by decide) (List.mem_of_getElem? (i := 2) rfl) rfl rfl dX0_sort_63 ?_
                refine s_iload_n C (pc := 66) dX0_sort_66 rfl 3 rfl ?_
                refine s_iload_n C (pc := 67) dX0_sort_67 rfl 2 rfl ?_
                refine s_iast C (pc := 68) (ws' := [(hg, .inr (0, [.ref hgn, .int (nI z), .long ar0, .long lf, .long gl])), (hgn, .inl (X.2.1, 144, .inl (upd f1 (q1 + 1) (srF F j (j + 1)))))]) 1 rfl (q1 + 1) rfl (by omega) (by decide) rfl dX0_sort_68 ?_
                refine s_iinc C (pc := 69) (v := nI ((j + 1) + 1)) (ls' := [(1, .int (nI ((j + 1) + 1))), (0, .ref hg), (2, .int (srF F j (j + 1))), (3, .int (nI (q1 + 1)))]) dX0_sort_69 1 rfl (nI_1 _) (by decide) rfl ?_
                refine s_goto C (pc := 72) (tgt := 2) dX0_sort_72 (by decide) ?_
                refine s_loc C (ls' := [(0, .ref hg), (1, .int (nI ((j + 1) + 1)))]) [1, 0] rfl ?_
                have hb := ih2 (j + 1) (by omega) (by omega)
                rw [show srF F (j + 1) = upd f1 (q1 + 1) (srF F j (j + 1)) from hI.symm.trans (if_pos c39)] at hb
                exact hb
              · skip
                refine s_aload_n C (pc := 42) dX0_sort_42 rfl 0 rfl ?_
                refine s_get C (pc := 43) (T := TX0) (N := 5) (fun _ h => (List.mem_cons_of_mem _ (List.mem_append_right _ h))) 0 rfl rfl 0 (by decide) (List.mem_of_getElem? (i := 2) rfl) rfl rfl dX0_sort_43 ?_
                refine s_iload_n C (pc := 46) dX0_sort_46 rfl 3 rfl ?_
                refine s_aload_n C (pc := 47) dX0_sort_47 rfl 0 rfl ?_
                refine s_get C (pc := 48) (T := TX0) (N := 5) (fun _ h => (List.mem_cons_of_mem _ (List.mem_append_right _ h))) 0 rfl rfl 0 (by decide) (List.mem_of_getElem? (i := 2) rfl) rfl rfl dX0_sort_48 ?_
                refine s_iload_n C (pc := 51) dX0_sort_51 rfl 3 rfl ?_
                refine s_iconst C (pc := 52) (v := 1) dX0_sort_52 (by decide) ?_
                refine s_isub C (pc := 53) dX0_sort_53 ?_
                refine s_top C (y := nI q1) (nI_pred _) ?_
                refine s_iald C (pc := 54) 1 rfl q1 rfl (by omega) (by decide) dX0_sort_54 ?_
                refine s_iast C (pc := 55) (ws' := [(hg, .inr (0, [.ref hgn, .int (nI z), .long ar0, .long lf, .long gl])), (hgn, .inl (X.2.1, 144, .inl (upd f1 (q1 + 1) (f1 q1))))]) 1 rfl (q1 + 1) rfl (by omega) (by decide) rfl dX0_sort_55 ?_
                refine s_iinc C (pc := 56) (v := nI q1) (ls' := [(3, .int (nI q1)), (0, .ref hg), (1, .int (nI (j + 1))), (2, .int (srF F j (j + 1)))]) dX0_sort_56 3 rfl (pk_m1 _) (by decide) rfl ?_
                refine s_goto C (pc := 59) (tgt := 26) dX0_sort_59 (by decide) ?_
                refine s_loc C (ls' := [(0, .ref hg), (1, .int (nI (j + 1))), (2, .int (srF F j (j + 1))), (3, .int (nI q1))]) [1, 2, 3, 0] rfl ?_
                exact ih26 q1 (upd f1 (q1 + 1) (f1 q1)) (by omega) (by rw [← hI]; exact (if_neg c39).symm) (by omega)
        refine s_loc C (ls' := [(0, .ref hg), (1, .int (nI (j + 1))), (2, .int (srF F j (j + 1))), (3, .int (nI (j + 1)))]) [2, 3, 1, 0] rfl ?_
        exact L26 (j + 2) (j + 1) (srF F j) (Nat.le_refl _) rfl (by omega)
  refine s_loc C (ls' := [(0, .ref hg), (1, .int 1)]) [1, 0] rfl ?_
  exact L2 z 0 hz1 (by omega)

set_option maxHeartbeats 4000000 in
set_option maxRecDepth 100000 in
theorem kX0_differentNorms (l : Launch) (X : XT) (hg hgn z : Nat) (F : Nat → Int32) (ar0 lf gl : Int64) (hz : z ≤ 144) : KI l yX0_differentNorms wsX0_differentNorms ({ frames := 0, cells := 0, slots := 0, locals := 0 }) X [.ref hg] [(hg, .inr (0, [.ref hgn, .int (nI z), .long ar0, .long lf, .long gl])), (hgn, .inl (X.2.1, 144, .inl (F)))] [(hg, .inr (0, [.ref hgn, .int (nI z), .long ar0, .long lf, .long gl])), (hgn, .inl (X.2.1, 144, .inl (F)))] (dnF F z) := by
  refine k_ofI (cc := cX0_differentNorms) (own := RX0) (maxL := 3) (ret := (some .int)) (ls0 := [(0, .ref hg)]) (by decide) rfl rfl (Nat.le_of_ble_eq_true rfl) rfl ?_
  intro p e s m args below meth c A g C hr hlk
  refine s_iconst C (pc := 0) (v := 0) dX0_differentNorms_0 (by decide) ?_
  refine s_istore_n C (pc := 1) (ls' := [(1, .int 0), (0, .ref hg)]) dX0_differentNorms_1 rfl (by decide) rfl ?_
  refine s_iconst C (pc := 2) (v := 0) dX0_differentNorms_2 (by decide) ?_
  refine s_istore_n C (pc := 3) (ls' := [(2, .int 0), (1, .int 0), (0, .ref hg)]) dX0_differentNorms_3 rfl (by decide) rfl ?_
  have L4 : ∀ (n_ : Nat) (k : Nat), (k ≤ z) → z + 1 ≤ k + n_ → g [(hg, .inr (0, [.ref hgn, .int (nI z), .long ar0, .long lf, .long gl])), (hgn, .inl (X.2.1, 144, .inl (F)))] 4 [(0, .ref hg), (1, .int (dnF F k)), (2, .int (nI k))] [] := by
    intro n_
    induction n_ with
    | zero =>
      intro k hk hf
      exact absurd hf (by omega)
    | succ n_ ih4 =>
      intro k hk hf4
      refine s_iload_n C (pc := 4) dX0_differentNorms_4 rfl 2 rfl ?_
      refine s_aload_n C (pc := 5) dX0_differentNorms_5 rfl 0 rfl ?_
      refine s_get C (pc := 6) (T := TX0) (N := 5) (fun _ h => (List.mem_cons_of_mem _ (List.mem_append_right _ h))) 0 rfl rfl 1 (by decide) (List.mem_of_getElem? (i := 1) rfl) rfl rfl dX0_differentNorms_6 ?_
      refine s_icmp_ge C (pc := 9) (tgt := 49) dX0_differentNorms_9 (by decide) (fun c9 => ?_) (fun c9 => ?_)
      · skip
        have e9 := nat_le (a := z) (b := k) (by omega) (by omega) c9
        have hs0 : z = k := by omega
        subst hs0
        refine s_iload_n C (pc := 49) dX0_differentNorms_49 rfl 1 rfl ?_
        exact s_iret C (pc := 50) hr hlk [0, 1] (by decide) (rfl) (rfl) dX0_differentNorms_50
      · skip
        have e9 := nat_nle (a := z) (b := k) (by omega) (by omega) c9
        refine s_iload_n C (pc := 12) dX0_differentNorms_12 rfl 2 rfl ?_
        refine s_sipush C (pc := 13) (v := 144) dX0_differentNorms_13 (by decide) ?_
        refine s_icmp_ge C (pc := 16) (tgt := 49) dX0_differentNorms_16 (by decide) (fun h => absurd h (fun h2 => absurd (nat_le (a := 144) (b := k) (by omega) (by omega) h2) (by omega))) (fun c16 => ?_)
        refine s_iload_n C (pc := 19) dX0_differentNorms_19 rfl 2 rfl ?_
        refine s_if_eq C (pc := 20) (tgt := 40) dX0_differentNorms_20 (by decide) (fun c20 => ?_) (fun c20 => ?_)
        · skip
          have e20 := nat_eq (a := k) (b := 0) (by omega) (by omega) c20
          refine s_iinc C (pc := 40) (v := (dnF F k) + 1) (ls' := [(1, .int ((dnF F k) + 1)), (0, .ref hg), (2, .int (nI k))]) dX0_differentNorms_40 1 rfl rfl (by decide) rfl ?_
          refine s_iinc C (pc := 43) (v := nI (k + 1)) (ls' := [(2, .int (nI (k + 1))), (1, .int ((dnF F k) + 1)), (0, .ref hg)]) dX0_differentNorms_43 2 rfl (nI_1 _) (by decide) rfl ?_
          refine s_goto C (pc := 46) (tgt := 4) dX0_differentNorms_46 (by decide) ?_
          refine s_loc C (ls' := [(0, .ref hg), (1, .int ((dnF F k) + 1)), (2, .int (nI (k + 1)))]) [2, 1, 0] rfl ?_
          have hb := ih4 (k + 1) (by omega) (by omega)
          rw [show dnF F (k + 1) = dnF F k + 1 from if_neg (fun h => h.1 e20)] at hb
          exact hb
        · skip
          have e20 := nat_ne (a := k) (b := 0) (by omega) (by omega) c20
          obtain ⟨k1, hk1⟩ : ∃ k1, k = k1 + 1 := ⟨k - 1, by omega⟩
          subst hk1
          refine s_aload_n C (pc := 23) dX0_differentNorms_23 rfl 0 rfl ?_
          refine s_get C (pc := 24) (T := TX0) (N := 5) (fun _ h => (List.mem_cons_of_mem _ (List.mem_append_right _ h))) 0 rfl rfl 0 (by decide) (List.mem_of_getElem? (i := 2) rfl) rfl rfl dX0_differentNorms_24 ?_
          refine s_iload_n C (pc := 27) dX0_differentNorms_27 rfl 2 rfl ?_
          refine s_iald C (pc := 28) 1 rfl (k1 + 1) rfl (by omega) (by decide) dX0_differentNorms_28 ?_
          refine s_aload_n C (pc := 29) dX0_differentNorms_29 rfl 0 rfl ?_
          refine s_get C (pc := 30) (T := TX0) (N := 5) (fun _ h => (List.mem_cons_of_mem _ (List.mem_append_right _ h))) 0 rfl rfl 0 (by decide) (List.mem_of_getElem? (i := 2) rfl) rfl rfl dX0_differentNorms_30 ?_
          refine s_iload_n C (pc := 33) dX0_differentNorms_33 rfl 2 rfl ?_
          refine s_iconst C (pc := 34) (v := 1) dX0_differentNorms_34 (by decide) ?_
          refine s_isub C (pc := 35) dX0_differentNorms_35 ?_
          refine s_top C (y := nI k1) (nI_pred _) ?_
          refine s_iald C (pc := 36) 1 rfl k1 rfl (by omega) (by decide) dX0_differentNorms_36 ?_
          refine s_icmp_eq C (pc := 37) (tgt := 43) dX0_differentNorms_37 (by decide) (fun c37 => ?_) (fun c37 => ?_)
          · skip
            refine s_iinc C (pc := 43) (v := nI ((k1 + 1) + 1)) (ls' := [(2, .int (nI ((k1 + 1) + 1))), (0, .ref hg), (1, .int (dnF F (k1 + 1)))]) dX0_differentNorms_43 2 rfl (nI_1 _) (by decide) rfl ?_
            refine s_goto C (pc := 46) (tgt := 4) dX0_differentNorms_46 (by decide) ?_
            refine s_loc C (ls' := [(0, .ref hg), (1, .int (dnF F (k1 + 1))), (2, .int (nI ((k1 + 1) + 1)))]) [1, 2, 0] rfl ?_
            have hb := ih4 (k1 + 1 + 1) (by omega) (by omega)
            rw [show dnF F (k1 + 1 + 1) = dnF F (k1 + 1) from if_pos ⟨by omega, c37⟩] at hb
            exact hb
          · skip
            refine s_iinc C (pc := 40) (v := (dnF F (k1 + 1)) + 1) (ls' := [(1, .int ((dnF F (k1 + 1)) + 1)), (0, .ref hg), (2, .int (nI (k1 + 1)))]) dX0_differentNorms_40 1 rfl rfl (by decide) rfl ?_
            refine s_iinc C (pc := 43) (v := nI ((k1 + 1) + 1)) (ls' := [(2, .int (nI ((k1 + 1) + 1))), (1, .int ((dnF F (k1 + 1)) + 1)), (0, .ref hg)]) dX0_differentNorms_43 2 rfl (nI_1 _) (by decide) rfl ?_
            refine s_goto C (pc := 46) (tgt := 4) dX0_differentNorms_46 (by decide) ?_
            refine s_loc C (ls' := [(0, .ref hg), (1, .int ((dnF F (k1 + 1)) + 1)), (2, .int (nI ((k1 + 1) + 1)))]) [2, 1, 0] rfl ?_
            have hb := ih4 (k1 + 1 + 1) (by omega) (by omega)
            rw [show dnF F (k1 + 1 + 1) = dnF F (k1 + 1) + 1 from if_neg (fun h => c37 h.2)] at hb
            exact hb
  refine s_loc C (ls' := [(0, .ref hg), (1, .int 0), (2, .int 0)]) [2, 1, 0] rfl ?_
  exact L4 (z + 1) 0 (Nat.zero_le _) (by omega)

set_option maxHeartbeats 4000000 in
set_option maxRecDepth 100000 in
theorem kX0_normAt (l : Launch) (X : XT) (hg hgn z : Nat) (F : Nat → Int32) (ar0 lf gl : Int64) (rk : Int32) (hz : z ≤ 144) : KI l yX0_normAt wsX0_normAt ({ frames := 0, cells := 0, slots := 0, locals := 0 }) X [.ref hg, .int rk] [(hg, .inr (0, [.ref hgn, .int (nI z), .long ar0, .long lf, .long gl])), (hgn, .inl (X.2.1, 144, .inl (F)))] [(hg, .inr (0, [.ref hgn, .int (nI z), .long ar0, .long lf, .long gl])), (hgn, .inl (X.2.1, 144, .inl (F)))] (naF F rk z 0 0) := by
  refine k_ofI (cc := cX0_normAt) (own := RX0) (maxL := 4) (ret := (some .int)) (ls0 := [(0, .ref hg), (1, .int rk)]) (by decide) rfl rfl (Nat.le_of_ble_eq_true rfl) rfl ?_
  intro p e s m args below meth c A g C hr hlk
  refine s_iconst C (pc := 0) (v := 0) dX0_normAt_0 (by decide) ?_
  refine s_istore_n C (pc := 1) (ls' := [(2, .int 0), (0, .ref hg), (1, .int rk)]) dX0_normAt_1 rfl (by decide) rfl ?_
  refine s_iconst C (pc := 2) (v := 0) dX0_normAt_2 (by decide) ?_
  refine s_istore_n C (pc := 3) (ls' := [(3, .int 0), (2, .int 0), (0, .ref hg), (1, .int rk)]) dX0_normAt_3 rfl (by decide) rfl ?_
  have L4 : ∀ (n_ : Nat) (k : Nat) (nx : Int32), (k ≤ z) → (naF F rk (z - k) k nx = naF F rk z 0 0) → z + 1 ≤ k + n_ → g [(hg, .inr (0, [.ref hgn, .int (nI z), .long ar0, .long lf, .long gl])), (hgn, .inl (X.2.1, 144, .inl (F)))] 4 [(0, .ref hg), (1, .int rk), (2, .int nx), (3, .int (nI k))] [] := by
    intro n_
    induction n_ with
    | zero =>
      intro k nx hk hI hf
      exact absurd hf (by omega)
    | succ n_ ih4 =>
      intro k nx hk hI hf4
      refine s_iload_n C (pc := 4) dX0_normAt_4 rfl 3 rfl ?_
      refine s_aload_n C (pc := 5) dX0_normAt_5 rfl 0 rfl ?_
      refine s_get C (pc := 6) (T := TX0) (N := 5) (fun _ h => (List.mem_cons_of_mem _ (List.mem_append_right _ h))) 0 rfl rfl 1 (by decide) (List.mem_of_getElem? (i := 1) rfl) rfl rfl dX0_normAt_6 ?_
      refine s_icmp_ge C (pc := 9) (tgt := 61) dX0_normAt_9 (by decide) (fun c9 => ?_) (fun c9 => ?_)
      · skip
        have e9 := nat_le (a := z) (b := k) (by omega) (by omega) c9
        rw [show z - k = 0 by omega] at hI
        refine s_bipush C (pc := 61) (v := (-4)) dX0_normAt_61 (by decide) ?_
        exact s_iret C (pc := 63) hr hlk [0, 1] (by decide) (rfl) (hI) dX0_normAt_63
      · skip
        have e9 := nat_nle (a := z) (b := k) (by omega) (by omega) c9
        obtain ⟨u, hu⟩ : ∃ u, z - k = u + 1 := ⟨z - k - 1, by omega⟩
        rw [hu] at hI
        refine s_iload_n C (pc := 12) dX0_normAt_12 rfl 3 rfl ?_
        refine s_sipush C (pc := 13) (v := 144) dX0_normAt_13 (by decide) ?_
        refine s_icmp_ge C (pc := 16) (tgt := 61) dX0_normAt_16 (by decide) (fun h => absurd h (fun h2 => absurd (nat_le (a := 144) (b := k) (by omega) (by omega) h2) (by omega))) (fun c16 => ?_)
        refine s_iload_n C (pc := 19) dX0_normAt_19 rfl 3 rfl ?_
        refine s_if_eq C (pc := 20) (tgt := 40) dX0_normAt_20 (by decide) (fun c20 => ?_) (fun c20 => ?_)
        · skip
          have e20 := nat_eq (a := k) (b := 0) (by omega) (by omega) c20
          refine s_iload_n C (pc := 40) dX0_normAt_40 rfl 2 rfl ?_
          refine s_iload_n C (pc := 41) dX0_normAt_41 rfl 1 rfl ?_
          refine s_icmp_ne C (pc := 42) (tgt := 52) dX0_normAt_42 (by decide) (fun c42 => ?_) (fun c42 => ?_)
          · skip
            refine s_iinc C (pc := 52) (v := nx + 1) (ls' := [(2, .int (nx + 1)), (0, .ref hg), (1, .int rk), (3, .int (nI k))]) dX0_normAt_52 2 rfl rfl (by decide) rfl ?_
            refine s_iinc C (pc := 55) (v := nI (k + 1)) (ls' := [(3, .int (nI (k + 1))), (2, .int (nx + 1)), (0, .ref hg), (1, .int rk)]) dX0_normAt_55 3 rfl (nI_1 _) (by decide) rfl ?_
            refine s_goto C (pc := 58) (tgt := 4) dX0_normAt_58 (by decide) ?_
            refine s_loc C (ls' := [(0, .ref hg), (1, .int rk), (2, .int (nx + 1)), (3, .int (nI (k + 1)))]) [2, 3, 1, 0] rfl ?_
            exact ih4 (k + 1) (nx + 1) (by omega) (by rw [show z - (k + 1) = u by omega, ← hI]; exact ((if_neg (fun h => h.1 e20)).trans (if_neg c42)).symm) (by omega)
          · skip
            refine s_aload_n C (pc := 45) dX0_normAt_45 rfl 0 rfl ?_
            refine s_get C (pc := 46) (T := TX0) (N := 5) (fun _ h => (List.mem_cons_of_mem _ (List.mem_append_right _ h))) 0 rfl rfl 0 (by decide) (List.mem_of_getElem? (i := 2) rfl) rfl rfl dX0_normAt_46 ?_
            refine s_iload_n C (pc := 49) dX0_normAt_49 rfl 3 rfl ?_
            refine s_iald C (pc := 50) 1 rfl k rfl (by omega) (by decide) dX0_normAt_50 ?_
            exact s_iret C (pc := 51) hr hlk [0, 1] (by decide) (rfl) ((((if_neg (fun h => h.1 e20)).trans (if_pos c42)).symm.trans hI)) dX0_normAt_51
        · skip
          have e20 := nat_ne (a := k) (b := 0) (by omega) (by omega) c20
          obtain ⟨k1, hk1⟩ : ∃ k1, k = k1 + 1 := ⟨k - 1, by omega⟩
          subst hk1
          refine s_aload_n C (pc := 23) dX0_normAt_23 rfl 0 rfl ?_
          refine s_get C (pc := 24) (T := TX0) (N := 5) (fun _ h => (List.mem_cons_of_mem _ (List.mem_append_right _ h))) 0 rfl rfl 0 (by decide) (List.mem_of_getElem? (i := 2) rfl) rfl rfl dX0_normAt_24 ?_
          refine s_iload_n C (pc := 27) dX0_normAt_27 rfl 3 rfl ?_
          refine s_iald C (pc := 28) 1 rfl (k1 + 1) rfl (by omega) (by decide) dX0_normAt_28 ?_
          refine s_aload_n C (pc := 29) dX0_normAt_29 rfl 0 rfl ?_
          refine s_get C (pc := 30) (T := TX0) (N := 5) (fun _ h => (List.mem_cons_of_mem _ (List.mem_append_right _ h))) 0 rfl rfl 0 (by decide) (List.mem_of_getElem? (i := 2) rfl) rfl rfl dX0_normAt_30 ?_
          refine s_iload_n C (pc := 33) dX0_normAt_33 rfl 3 rfl ?_
          refine s_iconst C (pc := 34) (v := 1) dX0_normAt_34 (by decide) ?_
          refine s_isub C (pc := 35) dX0_normAt_35 ?_
          refine s_top C (y := nI k1) (nI_pred _) ?_
          refine s_iald C (pc := 36) 1 rfl k1 rfl (by omega) (by decide) dX0_normAt_36 ?_
          refine s_icmp_eq C (pc := 37) (tgt := 55) dX0_normAt_37 (by decide) (fun c37 => ?_) (fun c37 => ?_)
          · skip
            refine s_iinc C (pc := 55) (v := nI ((k1 + 1) + 1)) (ls' := [(3, .int (nI ((k1 + 1) + 1))), (0, .ref hg), (1, .int rk), (2, .int nx)]) dX0_normAt_55 3 rfl (nI_1 _) (by decide) rfl ?_
            refine s_goto C (pc := 58) (tgt := 4) dX0_normAt_58 (by decide) ?_
            refine s_loc C (ls' := [(0, .ref hg), (1, .int rk), (2, .int nx), (3, .int (nI ((k1 + 1) + 1)))]) [1, 2, 3, 0] rfl ?_
            exact ih4 (k1 + 1 + 1) nx (by omega) (by rw [show z - (k1 + 1 + 1) = u by omega, ← hI]; exact (if_pos ⟨by omega, c37⟩).symm) (by omega)
          · skip
            refine s_iload_n C (pc := 40) dX0_normAt_40 rfl 2 rfl ?_
            refine s_iload_n C (pc := 41) dX0_normAt_41 rfl 1 rfl ?_
            refine s_icmp_ne C (pc := 42) (tgt := 52) dX0_normAt_42 (by decide) (fun c42 => ?_) (fun c42 => ?_)
            · skip
              refine s_iinc C (pc := 52) (v := nx + 1) (ls' := [(2, .int (nx + 1)), (0, .ref hg), (1, .int rk), (3, .int (nI (k1 + 1)))]) dX0_normAt_52 2 rfl rfl (by decide) rfl ?_
              refine s_iinc C (pc := 55) (v := nI ((k1 + 1) + 1)) (ls' := [(3, .int (nI ((k1 + 1) + 1))), (2, .int (nx + 1)), (0, .ref hg), (1, .int rk)]) dX0_normAt_55 3 rfl (nI_1 _) (by decide) rfl ?_
              refine s_goto C (pc := 58) (tgt := 4) dX0_normAt_58 (by decide) ?_
              refine s_loc C (ls' := [(0, .ref hg), (1, .int rk), (2, .int (nx + 1)), (3, .int (nI ((k1 + 1) + 1)))]) [2, 3, 1, 0] rfl ?_
              exact ih4 ((k1 + 1) + 1) (nx + 1) (by omega) (by rw [show z - ((k1 + 1) + 1) = u by omega, ← hI]; exact ((if_neg (fun h => c37 h.2)).trans (if_neg c42)).symm) (by omega)
            · skip
              refine s_aload_n C (pc := 45) dX0_normAt_45 rfl 0 rfl ?_
              refine s_get C (pc := 46) (T := TX0) (N := 5) (fun _ h => (List.mem_cons_of_mem _ (List.mem_append_right _ h))) 0 rfl rfl 0 (by decide) (List.mem_of_getElem? (i := 2) rfl) rfl rfl dX0_normAt_46 ?_
              refine s_iload_n C (pc := 49) dX0_normAt_49 rfl 3 rfl ?_
              refine s_iald C (pc := 50) 1 rfl (k1 + 1) rfl (by omega) (by decide) dX0_normAt_50 ?_
              exact s_iret C (pc := 51) hr hlk [0, 1] (by decide) (rfl) ((((if_neg (fun h => c37 h.2)).trans (if_pos c42)).symm.trans hI)) dX0_normAt_51
  refine s_loc C (ls' := [(0, .ref hg), (1, .int rk), (2, .int 0), (3, .int 0)]) [2, 3, 1, 0] rfl ?_
  exact L4 (z + 1) 0 0 (Nat.zero_le _) rfl (by omega)

set_option maxHeartbeats 4000000 in
set_option maxRecDepth 100000 in
theorem kX0_productReal (l : Launch) (X : XT) (h hp hq n : Nat) (P Q : Nat → Int32) (o f ll : Int32) (i j : Nat) (hi : i < n) (hj : j < n) (hn : n ≤ 4) : KI l yX0_productReal wsX0_productReal ({ frames := 2, cells := 0, slots := 0, locals := 42 }) X [.ref h, .int (nI i), .int (nI j)] [(h, .inr (1, [.ref hp, .ref hq, .int (nI n), .int o, .int f, .int ll])), (hp, .inl (X.2.1, 4, .inl (P))), (hq, .inl (X.2.1, 4, .inl (Q)))] [(h, .inr (1, [.ref hp, .ref hq, .int (nI n), .int o, .int f, .int ll])), (hp, .inl (X.2.1, 4, .inl (P))), (hq, .inl (X.2.1, 4, .inl (Q)))] (prRe P Q i j) := by
  refine k_ofI (cc := cX0_productReal) (own := RX0) (maxL := 3) (ret := (some .int)) (ls0 := [(0, .ref h), (1, .int (nI i)), (2, .int (nI j))]) (by decide) rfl rfl (Nat.le_of_ble_eq_true rfl) rfl ?_
  intro p e s m args below meth c A g C hr hlk
  refine s_aload_n C (pc := 0) dX0_productReal_0 rfl 0 rfl ?_
  refine s_iload_n C (pc := 1) dX0_productReal_1 rfl 1 rfl ?_
  refine s_calli C (pc := 2) (wr := []) (wc' := [(h, .inr (1, [.ref hp, .ref hq, .int (nI n), .int o, .int f, .int ll])), (hp, .inl (X.2.1, 4, .inl (P))), (hq, .inl (X.2.1, 4, .inl (Q)))]) (wn := [(h, .inr (1, [.ref hp, .ref hq, .int (nI n), .int o, .int f, .int ll])), (hp, .inl (X.2.1, 4, .inl (P))), (hq, .inl (X.2.1, 4, .inl (Q)))]) (r_VN C (As := [.int (nI i)]) (rest := []) (kX1_pOf l X h hp hq n P Q o f ll i (by first | assumption | omega | decide) (by first | assumption | omega | decide)) ⟨va_cnB 1 C.ts gX0_productReal_X1_pOf_n60 rfl rfl rfl (nm6 C) (C.ts _ (List.mem_of_getElem? (i := 2) rfl)) (by decide +kernel) ⟨Nat.le_of_ble_eq_true rfl, Nat.le_of_ble_eq_true rfl⟩, C.ts _ (List.mem_of_getElem? (i := 1) rfl), C.ts _ (List.mem_of_getElem? (i := 3) rfl)⟩ (q0 := 0) rfl rfl [0, 1, 2] (by decide) rfl rfl (Nat.le_of_ble_eq_true rfl) rfl dX0_productReal_2 ⟨Nat.zero_le _, Nat.zero_le _⟩) [0, 1, 2] [] [0, 1, 2] rfl rfl (by decide) (by decide) (by decide) rfl ?_
  refine s_aload_n C (pc := 5) dX0_productReal_5 rfl 0 rfl ?_
  refine s_iload_n C (pc := 6) dX0_productReal_6 rfl 2 rfl ?_
  refine s_calli C (pc := 7) (wr := []) (wc' := [(h, .inr (1, [.ref hp, .ref hq, .int (nI n), .int o, .int f, .int ll])), (hp, .inl (X.2.1, 4, .inl (P))), (hq, .inl (X.2.1, 4, .inl (Q)))]) (wn := [(h, .inr (1, [.ref hp, .ref hq, .int (nI n), .int o, .int f, .int ll])), (hp, .inl (X.2.1, 4, .inl (P))), (hq, .inl (X.2.1, 4, .inl (Q)))]) (r_VN C (As := [.int (nI j)]) (rest := [.int (P i)]) (kX1_pOf l X h hp hq n P Q o f ll j (by first | assumption | omega | decide) (by first | assumption | omega | decide)) ⟨va_cnB 1 C.ts gX0_productReal_X1_pOf_n60 rfl rfl rfl (nm6 C) (C.ts _ (List.mem_of_getElem? (i := 2) rfl)) (by decide +kernel) ⟨Nat.le_of_ble_eq_true rfl, Nat.le_of_ble_eq_true rfl⟩, C.ts _ (List.mem_of_getElem? (i := 1) rfl), C.ts _ (List.mem_of_getElem? (i := 3) rfl)⟩ (q0 := 0) rfl rfl [0, 1, 2] (by decide) rfl rfl (Nat.le_of_ble_eq_true rfl) rfl dX0_productReal_7 ⟨Nat.zero_le _, Nat.zero_le _⟩) [0, 1, 2] [] [0, 1, 2] rfl rfl (by decide) (by decide) (by decide) rfl ?_
  refine s_imul C (pc := 10) dX0_productReal_10 ?_
  refine s_aload_n C (pc := 11) dX0_productReal_11 rfl 0 rfl ?_
  refine s_iload_n C (pc := 12) dX0_productReal_12 rfl 1 rfl ?_
  refine s_calli C (pc := 13) (wr := []) (wc' := [(h, .inr (1, [.ref hp, .ref hq, .int (nI n), .int o, .int f, .int ll])), (hp, .inl (X.2.1, 4, .inl (P))), (hq, .inl (X.2.1, 4, .inl (Q)))]) (wn := [(h, .inr (1, [.ref hp, .ref hq, .int (nI n), .int o, .int f, .int ll])), (hp, .inl (X.2.1, 4, .inl (P))), (hq, .inl (X.2.1, 4, .inl (Q)))]) (r_VN C (As := [.int (nI i)]) (rest := [.int ((P i) * (P j))]) (kX1_qOf l X h hp hq n P Q o f ll i (by first | assumption | omega | decide) (by first | assumption | omega | decide)) ⟨va_cnB 1 C.ts gX0_productReal_X1_qOf_n63 rfl rfl rfl (nm7 C) (C.ts _ (List.mem_of_getElem? (i := 2) rfl)) (by decide +kernel) ⟨Nat.le_of_ble_eq_true rfl, Nat.le_of_ble_eq_true rfl⟩, C.ts _ (List.mem_of_getElem? (i := 11) rfl), C.ts _ (List.mem_of_getElem? (i := 12) rfl)⟩ (q0 := 0) rfl rfl [0, 1, 2] (by decide) rfl rfl (Nat.le_of_ble_eq_true rfl) rfl dX0_productReal_13 ⟨Nat.zero_le _, Nat.zero_le _⟩) [0, 1, 2] [] [0, 1, 2] rfl rfl (by decide) (by decide) (by decide) rfl ?_
  refine s_aload_n C (pc := 16) dX0_productReal_16 rfl 0 rfl ?_
  refine s_iload_n C (pc := 17) dX0_productReal_17 rfl 2 rfl ?_
  refine s_calli C (pc := 18) (wr := []) (wc' := [(h, .inr (1, [.ref hp, .ref hq, .int (nI n), .int o, .int f, .int ll])), (hp, .inl (X.2.1, 4, .inl (P))), (hq, .inl (X.2.1, 4, .inl (Q)))]) (wn := [(h, .inr (1, [.ref hp, .ref hq, .int (nI n), .int o, .int f, .int ll])), (hp, .inl (X.2.1, 4, .inl (P))), (hq, .inl (X.2.1, 4, .inl (Q)))]) (r_VN C (As := [.int (nI j)]) (rest := [.int (Q i), .int ((P i) * (P j))]) (kX1_qOf l X h hp hq n P Q o f ll j (by first | assumption | omega | decide) (by first | assumption | omega | decide)) ⟨va_cnB 1 C.ts gX0_productReal_X1_qOf_n63 rfl rfl rfl (nm7 C) (C.ts _ (List.mem_of_getElem? (i := 2) rfl)) (by decide +kernel) ⟨Nat.le_of_ble_eq_true rfl, Nat.le_of_ble_eq_true rfl⟩, C.ts _ (List.mem_of_getElem? (i := 11) rfl), C.ts _ (List.mem_of_getElem? (i := 12) rfl)⟩ (q0 := 0) rfl rfl [0, 1, 2] (by decide) rfl rfl (Nat.le_of_ble_eq_true rfl) rfl dX0_productReal_18 ⟨Nat.zero_le _, Nat.zero_le _⟩) [0, 1, 2] [] [0, 1, 2] rfl rfl (by decide) (by decide) (by decide) rfl ?_
  refine s_imul C (pc := 21) dX0_productReal_21 ?_
  refine s_isub C (pc := 22) dX0_productReal_22 ?_
  exact s_iret C (pc := 23) hr hlk [0, 1, 2] (by decide) (rfl) (rfl) dX0_productReal_23

set_option maxHeartbeats 4000000 in
set_option maxRecDepth 100000 in
theorem kX0_productImaginary (l : Launch) (X : XT) (h hp hq n : Nat) (P Q : Nat → Int32) (o f ll : Int32) (i j : Nat) (hi : i < n) (hj : j < n) (hn : n ≤ 4) : KI l yX0_productImaginary wsX0_productImaginary ({ frames := 2, cells := 0, slots := 0, locals := 42 }) X [.ref h, .int (nI i), .int (nI j)] [(h, .inr (1, [.ref hp, .ref hq, .int (nI n), .int o, .int f, .int ll])), (hp, .inl (X.2.1, 4, .inl (P))), (hq, .inl (X.2.1, 4, .inl (Q)))] [(h, .inr (1, [.ref hp, .ref hq, .int (nI n), .int o, .int f, .int ll])), (hp, .inl (X.2.1, 4, .inl (P))), (hq, .inl (X.2.1, 4, .inl (Q)))] (prIm P Q i j) := by
  refine k_ofI (cc := cX0_productImaginary) (own := RX0) (maxL := 3) (ret := (some .int)) (ls0 := [(0, .ref h), (1, .int (nI i)), (2, .int (nI j))]) (by decide) rfl rfl (Nat.le_of_ble_eq_true rfl) rfl ?_
  intro p e s m args below meth c A g C hr hlk
  refine s_aload_n C (pc := 0) dX0_productImaginary_0 rfl 0 rfl ?_
  refine s_iload_n C (pc := 1) dX0_productImaginary_1 rfl 1 rfl ?_
  refine s_calli C (pc := 2) (wr := []) (wc' := [(h, .inr (1, [.ref hp, .ref hq, .int (nI n), .int o, .int f, .int ll])), (hp, .inl (X.2.1, 4, .inl (P))), (hq, .inl (X.2.1, 4, .inl (Q)))]) (wn := [(h, .inr (1, [.ref hp, .ref hq, .int (nI n), .int o, .int f, .int ll])), (hp, .inl (X.2.1, 4, .inl (P))), (hq, .inl (X.2.1, 4, .inl (Q)))]) (r_VN C (As := [.int (nI i)]) (rest := []) (kX1_pOf l X h hp hq n P Q o f ll i (by first | assumption | omega | decide) (by first | assumption | omega | decide)) ⟨va_cnB 1 C.ts gX0_productImaginary_X1_pOf_n60 rfl rfl rfl (nm6 C) (C.ts _ (List.mem_of_getElem? (i := 2) rfl)) (by decide +kernel) ⟨Nat.le_of_ble_eq_true rfl, Nat.le_of_ble_eq_true rfl⟩, C.ts _ (List.mem_of_getElem? (i := 1) rfl), C.ts _ (List.mem_of_getElem? (i := 3) rfl)⟩ (q0 := 0) rfl rfl [0, 1, 2] (by decide) rfl rfl (Nat.le_of_ble_eq_true rfl) rfl dX0_productImaginary_2 ⟨Nat.zero_le _, Nat.zero_le _⟩) [0, 1, 2] [] [0, 1, 2] rfl rfl (by decide) (by decide) (by decide) rfl ?_
  refine s_aload_n C (pc := 5) dX0_productImaginary_5 rfl 0 rfl ?_
  refine s_iload_n C (pc := 6) dX0_productImaginary_6 rfl 2 rfl ?_
  refine s_calli C (pc := 7) (wr := []) (wc' := [(h, .inr (1, [.ref hp, .ref hq, .int (nI n), .int o, .int f, .int ll])), (hp, .inl (X.2.1, 4, .inl (P))), (hq, .inl (X.2.1, 4, .inl (Q)))]) (wn := [(h, .inr (1, [.ref hp, .ref hq, .int (nI n), .int o, .int f, .int ll])), (hp, .inl (X.2.1, 4, .inl (P))), (hq, .inl (X.2.1, 4, .inl (Q)))]) (r_VN C (As := [.int (nI j)]) (rest := [.int (P i)]) (kX1_qOf l X h hp hq n P Q o f ll j (by first | assumption | omega | decide) (by first | assumption | omega | decide)) ⟨va_cnB 1 C.ts gX0_productImaginary_X1_qOf_n63 rfl rfl rfl (nm7 C) (C.ts _ (List.mem_of_getElem? (i := 2) rfl)) (by decide +kernel) ⟨Nat.le_of_ble_eq_true rfl, Nat.le_of_ble_eq_true rfl⟩, C.ts _ (List.mem_of_getElem? (i := 11) rfl), C.ts _ (List.mem_of_getElem? (i := 12) rfl)⟩ (q0 := 0) rfl rfl [0, 1, 2] (by decide) rfl rfl (Nat.le_of_ble_eq_true rfl) rfl dX0_productImaginary_7 ⟨Nat.zero_le _, Nat.zero_le _⟩) [0, 1, 2] [] [0, 1, 2] rfl rfl (by decide) (by decide) (by decide) rfl ?_
  refine s_imul C (pc := 10) dX0_productImaginary_10 ?_
  refine s_aload_n C (pc := 11) dX0_productImaginary_11 rfl 0 rfl ?_
  refine s_iload_n C (pc := 12) dX0_productImaginary_12 rfl 1 rfl ?_
  refine s_calli C (pc := 13) (wr := []) (wc' := [(h, .inr (1, [.ref hp, .ref hq, .int (nI n), .int o, .int f, .int ll])), (hp, .inl (X.2.1, 4, .inl (P))), (hq, .inl (X.2.1, 4, .inl (Q)))]) (wn := [(h, .inr (1, [.ref hp, .ref hq, .int (nI n), .int o, .int f, .int ll])), (hp, .inl (X.2.1, 4, .inl (P))), (hq, .inl (X.2.1, 4, .inl (Q)))]) (r_VN C (As := [.int (nI i)]) (rest := [.int ((P i) * (Q j))]) (kX1_qOf l X h hp hq n P Q o f ll i (by first | assumption | omega | decide) (by first | assumption | omega | decide)) ⟨va_cnB 1 C.ts gX0_productImaginary_X1_qOf_n63 rfl rfl rfl (nm7 C) (C.ts _ (List.mem_of_getElem? (i := 2) rfl)) (by decide +kernel) ⟨Nat.le_of_ble_eq_true rfl, Nat.le_of_ble_eq_true rfl⟩, C.ts _ (List.mem_of_getElem? (i := 11) rfl), C.ts _ (List.mem_of_getElem? (i := 12) rfl)⟩ (q0 := 0) rfl rfl [0, 1, 2] (by decide) rfl rfl (Nat.le_of_ble_eq_true rfl) rfl dX0_productImaginary_13 ⟨Nat.zero_le _, Nat.zero_le _⟩) [0, 1, 2] [] [0, 1, 2] rfl rfl (by decide) (by decide) (by decide) rfl ?_
  refine s_aload_n C (pc := 16) dX0_productImaginary_16 rfl 0 rfl ?_
  refine s_iload_n C (pc := 17) dX0_productImaginary_17 rfl 2 rfl ?_
  refine s_calli C (pc := 18) (wr := []) (wc' := [(h, .inr (1, [.ref hp, .ref hq, .int (nI n), .int o, .int f, .int ll])), (hp, .inl (X.2.1, 4, .inl (P))), (hq, .inl (X.2.1, 4, .inl (Q)))]) (wn := [(h, .inr (1, [.ref hp, .ref hq, .int (nI n), .int o, .int f, .int ll])), (hp, .inl (X.2.1, 4, .inl (P))), (hq, .inl (X.2.1, 4, .inl (Q)))]) (r_VN C (As := [.int (nI j)]) (rest := [.int (Q i), .int ((P i) * (Q j))]) (kX1_pOf l X h hp hq n P Q o f ll j (by first | assumption | omega | decide) (by first | assumption | omega | decide)) ⟨va_cnB 1 C.ts gX0_productImaginary_X1_pOf_n60 rfl rfl rfl (nm6 C) (C.ts _ (List.mem_of_getElem? (i := 2) rfl)) (by decide +kernel) ⟨Nat.le_of_ble_eq_true rfl, Nat.le_of_ble_eq_true rfl⟩, C.ts _ (List.mem_of_getElem? (i := 1) rfl), C.ts _ (List.mem_of_getElem? (i := 3) rfl)⟩ (q0 := 0) rfl rfl [0, 1, 2] (by decide) rfl rfl (Nat.le_of_ble_eq_true rfl) rfl dX0_productImaginary_18 ⟨Nat.zero_le _, Nat.zero_le _⟩) [0, 1, 2] [] [0, 1, 2] rfl rfl (by decide) (by decide) (by decide) rfl ?_
  refine s_imul C (pc := 21) dX0_productImaginary_21 ?_
  refine s_iadd C (pc := 22) dX0_productImaginary_22 ?_
  exact s_iret C (pc := 23) hr hlk [0, 1, 2] (by decide) (rfl) (rfl) dX0_productImaginary_23

set_option maxHeartbeats 4000000 in
set_option maxRecDepth 100000 in
theorem kX0_start (l : Launch) (X : XT) (hg hgn z : Nat) (F : Nat → Int32) (ar0 lf gl : Int64) (h hp hq n : Nat) (P Q : Nat → Int32) (o f ll : Int32) (a : Int64)  : KV l yX0_start wsX0_start ({ frames := 1, cells := 0, slots := 0, locals := 23 }) X [.ref hg, .ref h, .long a] [(hg, .inr (0, [.ref hgn, .int (nI z), .long ar0, .long lf, .long gl])), (hgn, .inl (X.2.1, 144, .inl (F))), (h, .inr (1, [.ref hp, .ref hq, .int (nI n), .int o, .int f, .int ll])), (hp, .inl (X.2.1, 4, .inl (P))), (hq, .inl (X.2.1, 4, .inl (Q)))] [(hg, .inr (0, [.ref hgn, .int (nI 0), .long a, .long (lfL a f), .long (glL a ll)])), (hgn, .inl (X.2.1, 144, .inl (F))), (h, .inr (1, [.ref hp, .ref hq, .int (nI n), .int o, .int f, .int ll])), (hp, .inl (X.2.1, 4, .inl (P))), (hq, .inl (X.2.1, 4, .inl (Q)))] := by
  refine k_ofV (cc := cX0_start) (own := RX0) (maxL := 8) (ret := none) (ls0 := [(0, .ref hg), (1, .ref h), (2, .long a)]) (by decide) rfl rfl (Nat.le_of_ble_eq_true rfl) rfl ?_
  intro p e s m args below meth c A g C hr hlk
  refine s_aload_n C (pc := 0) dX0_start_0 rfl 0 rfl ?_
  refine s_iconst C (pc := 1) (v := 0) dX0_start_1 (by decide) ?_
  refine s_put C (pc := 2) (T := TX0) (N := 5) (ws' := [(hg, .inr (0, [.ref hgn, .int 0, .long ar0, .long lf, .long gl])), (hgn, .inl (X.2.1, 144, .inl (F))), (h, .inr (1, [.ref hp, .ref hq, .int (nI n), .int o, .int f, .int ll])), (hp, .inl (X.2.1, 4, .inl (P))), (hq, .inl (X.2.1, 4, .inl (Q)))]) (fun _ h => (List.mem_cons_of_mem _ (List.mem_append_left _ (List.mem_append_right _ h)))) 0 rfl rfl tyX0 tyX0_ok nmX0 1 (by decide) (List.mem_of_getElem? (i := 1) rfl) rfl rfl rfl rfl (Nat.le_of_ble_eq_true rfl) rfl dX0_start_2 ?_
  refine s_aload_n C (pc := 5) dX0_start_5 rfl 0 rfl ?_
  refine s_lload_n C (pc := 6) dX0_start_6 rfl 2 rfl ?_
  refine s_put C (pc := 7) (T := TX0) (N := 5) (ws' := [(hg, .inr (0, [.ref hgn, .int 0, .long a, .long lf, .long gl])), (hgn, .inl (X.2.1, 144, .inl (F))), (h, .inr (1, [.ref hp, .ref hq, .int (nI n), .int o, .int f, .int ll])), (hp, .inl (X.2.1, 4, .inl (P))), (hq, .inl (X.2.1, 4, .inl (Q)))]) (fun _ h => (List.mem_cons_of_mem _ (List.mem_append_left _ (List.mem_append_right _ h)))) 0 rfl rfl tyX0 tyX0_ok nmX0 2 (by decide) (List.mem_of_getElem? (i := 2) rfl) rfl rfl rfl rfl (Nat.le_of_ble_eq_true rfl) rfl dX0_start_7 ?_
  refine s_aload_n C (pc := 10) dX0_start_10 rfl 1 rfl ?_
  refine s_getN C (pc := 11) (T := TX1) (N := 6) (fun _ h => (List.mem_cons_of_mem _ (List.mem_append_right _ h))) 2 rfl rfl 4 (by decide) (nf5 C) rfl rfl dX0_start_11 ?_
  refine s_i2l C (pc := 14) dX0_start_14 ?_
  refine s_aload_n C (pc := 15) dX0_start_15 rfl 1 rfl ?_
  refine s_getN C (pc := 16) (T := TX1) (N := 6) (fun _ h => (List.mem_cons_of_mem _ (List.mem_append_right _ h))) 2 rfl rfl 4 (by decide) (nf5 C) rfl rfl dX0_start_16 ?_
  refine s_i2l C (pc := 19) dX0_start_19 ?_
  refine s_lmul C (pc := 20) dX0_start_20 ?_
  refine s_lstore C (pc := 21) (ls' := [(4, .long (f.toInt64 * f.toInt64)), (0, .ref hg), (1, .ref h), (2, .long a)]) dX0_start_21 (by decide) rfl ?_
  refine s_aload_n C (pc := 23) dX0_start_23 rfl 2 rfl ?_
  refine s_getN C (pc := 24) (T := TX1) (N := 6) (fun _ h => (List.mem_cons_of_mem _ (List.mem_append_right _ h))) 2 rfl rfl 5 (by decide) (nf7 C) rfl rfl dX0_start_24 ?_
  refine s_i2l C (pc := 27) dX0_start_27 ?_
  refine s_aload_n C (pc := 28) dX0_start_28 rfl 2 rfl ?_
  refine s_getN C (pc := 29) (T := TX1) (N := 6) (fun _ h => (List.mem_cons_of_mem _ (List.mem_append_right _ h))) 2 rfl rfl 5 (by decide) (nf7 C) rfl rfl dX0_start_29 ?_
  refine s_i2l C (pc := 32) dX0_start_32 ?_
  refine s_lmul C (pc := 33) dX0_start_33 ?_
  refine s_lstore C (pc := 34) (ls' := [(6, .long (ll.toInt64 * ll.toInt64)), (4, .long (f.toInt64 * f.toInt64)), (0, .ref hg), (1, .ref h), (2, .long a)]) dX0_start_34 (by decide) rfl ?_
  refine s_aload_n C (pc := 36) dX0_start_36 rfl 2 rfl ?_
  refine s_aload_n C (pc := 37) dX0_start_37 rfl 2 rfl ?_
  refine s_get C (pc := 38) (T := TX0) (N := 5) (fun _ h => (List.mem_cons_of_mem _ (List.mem_append_left _ (List.mem_append_right _ h)))) 0 rfl rfl 2 (by decide) (List.mem_of_getElem? (i := 2) rfl) rfl rfl dX0_start_38 ?_
  refine s_lload C (pc := 41) dX0_start_41 1 rfl ?_
  refine s_ladd C (pc := 43) dX0_start_43 ?_
  refine s_lconst C (pc := 44) (v := 1) dX0_start_44 (by decide) ?_
  refine s_lsub C (pc := 45) dX0_start_45 ?_
  refine s_lload C (pc := 46) dX0_start_46 1 rfl ?_
  refine s_calll C (pc := 48) (wr := [(hg, .inr (0, [.ref hgn, .int 0, .long a, .long lf, .long gl])), (hgn, .inl (X.2.1, 144, .inl (F))), (h, .inr (1, [.ref hp, .ref hq, .int (nI n), .int o, .int f, .int ll])), (hp, .inl (X.2.1, 4, .inl (P))), (hq, .inl (X.2.1, 4, .inl (Q)))]) (wc' := []) (wn := [(hg, .inr (0, [.ref hgn, .int 0, .long a, .long lf, .long gl])), (hgn, .inl (X.2.1, 144, .inl (F))), (h, .inr (1, [.ref hp, .ref hq, .int (nI n), .int o, .int f, .int ll])), (hp, .inl (X.2.1, 4, .inl (P))), (hq, .inl (X.2.1, 4, .inl (Q)))]) (r_SN C (As := [.long ((a + (f.toInt64 * f.toInt64)) - 1), .long (f.toInt64 * f.toInt64)]) (rest := [.ref hg]) (kX2_divided l X ((a + (f.toInt64 * f.toInt64)) - 1) (f.toInt64 * f.toInt64) ) ⟨va_cnB 2 C.ts gX0_start_X2_divided_n45 rfl rfl rfl (nm5 C) (C.ts _ (List.mem_of_getElem? (i := 6) rfl)) (by decide +kernel) ⟨Nat.le_of_ble_eq_true rfl, Nat.le_of_ble_eq_true rfl⟩, C.ts _ (List.mem_of_getElem? (i := 5) rfl), trivial⟩ [] (by decide) rfl rfl (Nat.le_of_ble_eq_true rfl) rfl dX0_start_48 ⟨Nat.zero_le _, Nat.zero_le _⟩) [] [0, 1, 2, 3, 4] [0, 1, 2, 3, 4] rfl rfl (by decide) (by decide) (by decide) rfl ?_
  refine s_put C (pc := 51) (T := TX0) (N := 5) (ws' := [(hg, .inr (0, [.ref hgn, .int 0, .long a, .long (dvL ((a + (f.toInt64 * f.toInt64)) - 1) (f.toInt64 * f.toInt64)), .long gl])), (hgn, .inl (X.2.1, 144, .inl (F))), (h, .inr (1, [.ref hp, .ref hq, .int (nI n), .int o, .int f, .int ll])), (hp, .inl (X.2.1, 4, .inl (P))), (hq, .inl (X.2.1, 4, .inl (Q)))]) (fun _ h => (List.mem_cons_of_mem _ (List.mem_append_left _ (List.mem_append_right _ h)))) 0 rfl rfl tyX0 tyX0_ok nmX0 3 (by decide) (List.mem_of_getElem? (i := 3) rfl) rfl rfl rfl rfl (Nat.le_of_ble_eq_true rfl) rfl dX0_start_51 ?_
  refine s_aload_n C (pc := 54) dX0_start_54 rfl 2 rfl ?_
  refine s_aload_n C (pc := 55) dX0_start_55 rfl 2 rfl ?_
  refine s_get C (pc := 56) (T := TX0) (N := 5) (fun _ h => (List.mem_cons_of_mem _ (List.mem_append_left _ (List.mem_append_right _ h)))) 0 rfl rfl 2 (by decide) (List.mem_of_getElem? (i := 2) rfl) rfl rfl dX0_start_56 ?_
  refine s_lload C (pc := 59) dX0_start_59 0 rfl ?_
  refine s_calll C (pc := 61) (wr := [(hg, .inr (0, [.ref hgn, .int 0, .long a, .long (dvL ((a + (f.toInt64 * f.toInt64)) - 1) (f.toInt64 * f.toInt64)), .long gl])), (hgn, .inl (X.2.1, 144, .inl (F))), (h, .inr (1, [.ref hp, .ref hq, .int (nI n), .int o, .int f, .int ll])), (hp, .inl (X.2.1, 4, .inl (P))), (hq, .inl (X.2.1, 4, .inl (Q)))]) (wc' := []) (wn := [(hg, .inr (0, [.ref hgn, .int 0, .long a, .long (dvL ((a + (f.toInt64 * f.toInt64)) - 1) (f.toInt64 * f.toInt64)), .long gl])), (hgn, .inl (X.2.1, 144, .inl (F))), (h, .inr (1, [.ref hp, .ref hq, .int (nI n), .int o, .int f, .int ll])), (hp, .inl (X.2.1, 4, .inl (P))), (hq, .inl (X.2.1, 4, .inl (Q)))]) (r_SN C (As := [.long a, .long (ll.toInt64 * ll.toInt64)]) (rest := [.ref hg]) (kX2_divided l X a (ll.toInt64 * ll.toInt64) ) ⟨va_cnB 2 C.ts gX0_start_X2_divided_n45 rfl rfl rfl (nm5 C) (C.ts _ (List.mem_of_getElem? (i := 6) rfl)) (by decide +kernel) ⟨Nat.le_of_ble_eq_true rfl, Nat.le_of_ble_eq_true rfl⟩, C.ts _ (List.mem_of_getElem? (i := 5) rfl), trivial⟩ [] (by decide) rfl rfl (Nat.le_of_ble_eq_true rfl) rfl dX0_start_61 ⟨Nat.zero_le _, Nat.zero_le _⟩) [] [0, 1, 2, 3, 4] [0, 1, 2, 3, 4] rfl rfl (by decide) (by decide) (by decide) rfl ?_
  refine s_put C (pc := 64) (T := TX0) (N := 5) (ws' := [(hg, .inr (0, [.ref hgn, .int 0, .long a, .long (dvL ((a + (f.toInt64 * f.toInt64)) - 1) (f.toInt64 * f.toInt64)), .long (dvL a (ll.toInt64 * ll.toInt64))])), (hgn, .inl (X.2.1, 144, .inl (F))), (h, .inr (1, [.ref hp, .ref hq, .int (nI n), .int o, .int f, .int ll])), (hp, .inl (X.2.1, 4, .inl (P))), (hq, .inl (X.2.1, 4, .inl (Q)))]) (fun _ h => (List.mem_cons_of_mem _ (List.mem_append_left _ (List.mem_append_right _ h)))) 0 rfl rfl tyX0 tyX0_ok nmX0 4 (by decide) (List.mem_of_getElem? (i := 4) rfl) rfl rfl rfl rfl (Nat.le_of_ble_eq_true rfl) rfl dX0_start_64 ?_
  exact s_vret C (pc := 67) hr hlk [0, 1, 2, 3, 4] (by decide) (rfl) dX0_start_67

set_option maxHeartbeats 4000000 in
set_option maxRecDepth 100000 in
theorem kX0_startPair (l : Launch) (X : XT) (hg hgn z : Nat) (F : Nat → Int32) (ar0 lf gl : Int64) (h hp hq n : Nat) (P Q : Nat → Int32) (o f ll : Int32) (i j : Nat) (hi : i < n) (hj : j < n) (hn : n ≤ 4) : KV l yX0_startPair wsX0_startPair ({ frames := 2, cells := 0, slots := 0, locals := 50 }) X [.ref hg, .ref h, .int (nI i), .int (nI j)] [(hg, .inr (0, [.ref hgn, .int (nI z), .long ar0, .long lf, .long gl])), (hgn, .inl (X.2.1, 144, .inl (F))), (h, .inr (1, [.ref hp, .ref hq, .int (nI n), .int o, .int f, .int ll])), (hp, .inl (X.2.1, 4, .inl (P))), (hq, .inl (X.2.1, 4, .inl (Q)))] [(hg, .inr (0, [.ref hgn, .int (nI 0), .long ((ar P Q i).toInt64 * (ar P Q j).toInt64), .long (lfL ((ar P Q i).toInt64 * (ar P Q j).toInt64) f), .long (glL ((ar P Q i).toInt64 * (ar P Q j).toInt64) ll)])), (hgn, .inl (X.2.1, 144, .inl (F))), (h, .inr (1, [.ref hp, .ref hq, .int (nI n), .int o, .int f, .int ll])), (hp, .inl (X.2.1, 4, .inl (P))), (hq, .inl (X.2.1, 4, .inl (Q)))] := by
  refine k_ofV (cc := cX0_startPair) (own := RX0) (maxL := 4) (ret := none) (ls0 := [(0, .ref hg), (1, .ref h), (2, .int (nI i)), (3, .int (nI j))]) (by decide) rfl rfl (Nat.le_of_ble_eq_true rfl) rfl ?_
  intro p e s m args below meth c A g C hr hlk
  refine s_aload_n C (pc := 0) dX0_startPair_0 rfl 0 rfl ?_
  refine s_aload_n C (pc := 1) dX0_startPair_1 rfl 1 rfl ?_
  refine s_aload_n C (pc := 2) dX0_startPair_2 rfl 1 rfl ?_
  refine s_iload_n C (pc := 3) dX0_startPair_3 rfl 2 rfl ?_
  refine s_calli C (pc := 4) (wr := [(hg, .inr (0, [.ref hgn, .int (nI z), .long ar0, .long lf, .long gl])), (hgn, .inl (X.2.1, 144, .inl (F)))]) (wc' := [(h, .inr (1, [.ref hp, .ref hq, .int (nI n), .int o, .int f, .int ll])), (hp, .inl (X.2.1, 4, .inl (P))), (hq, .inl (X.2.1, 4, .inl (Q)))]) (wn := [(hg, .inr (0, [.ref hgn, .int (nI z), .long ar0, .long lf, .long gl])), (hgn, .inl (X.2.1, 144, .inl (F))), (h, .inr (1, [.ref hp, .ref hq, .int (nI n), .int o, .int f, .int ll])), (hp, .inl (X.2.1, 4, .inl (P))), (hq, .inl (X.2.1, 4, .inl (Q)))]) (r_VN C (As := [.int (nI i)]) (rest := [.ref h, .ref hg]) (kX1_areaOf l X h hp hq n P Q o f ll i (by first | assumption | omega | decide) (by first | assumption | omega | decide)) ⟨va_cnB 1 C.ts gX0_startPair_X1_areaOf_n25 rfl rfl rfl (nm4 C) (C.ts _ (List.mem_of_getElem? (i := 2) rfl)) (by decide +kernel) ⟨Nat.le_of_ble_eq_true rfl, Nat.le_of_ble_eq_true rfl⟩, C.ts _ (List.mem_of_getElem? (i := 1) rfl), C.ts _ (List.mem_of_getElem? (i := 3) rfl)⟩ (q0 := 2) rfl rfl [2, 3, 4] (by decide) rfl rfl (Nat.le_of_ble_eq_true rfl) rfl dX0_startPair_4 ⟨Nat.zero_le _, Nat.zero_le _⟩) [2, 3, 4] [0, 1] [0, 1, 2, 3, 4] rfl rfl (by decide) (by decide) (by decide) rfl ?_
  refine s_i2l C (pc := 7) dX0_startPair_7 ?_
  refine s_aload_n C (pc := 8) dX0_startPair_8 rfl 1 rfl ?_
  refine s_iload_n C (pc := 9) dX0_startPair_9 rfl 3 rfl ?_
  refine s_calli C (pc := 10) (wr := [(hg, .inr (0, [.ref hgn, .int (nI z), .long ar0, .long lf, .long gl])), (hgn, .inl (X.2.1, 144, .inl (F)))]) (wc' := [(h, .inr (1, [.ref hp, .ref hq, .int (nI n), .int o, .int f, .int ll])), (hp, .inl (X.2.1, 4, .inl (P))), (hq, .inl (X.2.1, 4, .inl (Q)))]) (wn := [(hg, .inr (0, [.ref hgn, .int (nI z), .long ar0, .long lf, .long gl])), (hgn, .inl (X.2.1, 144, .inl (F))), (h, .inr (1, [.ref hp, .ref hq, .int (nI n), .int o, .int f, .int ll])), (hp, .inl (X.2.1, 4, .inl (P))), (hq, .inl (X.2.1, 4, .inl (Q)))]) (r_VN C (As := [.int (nI j)]) (rest := [.long ((ar P Q i).toInt64), .ref h, .ref hg]) (kX1_areaOf l X h hp hq n P Q o f ll j (by first | assumption | omega | decide) (by first | assumption | omega | decide)) ⟨va_cnB 1 C.ts gX0_startPair_X1_areaOf_n25 rfl rfl rfl (nm4 C) (C.ts _ (List.mem_of_getElem? (i := 2) rfl)) (by decide +kernel) ⟨Nat.le_of_ble_eq_true rfl, Nat.le_of_ble_eq_true rfl⟩, C.ts _ (List.mem_of_getElem? (i := 1) rfl), C.ts _ (List.mem_of_getElem? (i := 3) rfl)⟩ (q0 := 2) rfl rfl [2, 3, 4] (by decide) rfl rfl (Nat.le_of_ble_eq_true rfl) rfl dX0_startPair_10 ⟨Nat.zero_le _, Nat.zero_le _⟩) [2, 3, 4] [0, 1] [0, 1, 2, 3, 4] rfl rfl (by decide) (by decide) (by decide) rfl ?_
  refine s_i2l C (pc := 13) dX0_startPair_13 ?_
  refine s_lmul C (pc := 14) dX0_startPair_14 ?_
  refine s_callv C (pc := 15) (wr := []) (wc' := [(hg, .inr (0, [.ref hgn, .int (nI 0), .long (((ar P Q i).toInt64) * ((ar P Q j).toInt64)), .long (lfL (((ar P Q i).toInt64) * ((ar P Q j).toInt64)) f), .long (glL (((ar P Q i).toInt64) * ((ar P Q j).toInt64)) ll)])), (hgn, .inl (X.2.1, 144, .inl (F))), (h, .inr (1, [.ref hp, .ref hq, .int (nI n), .int o, .int f, .int ll])), (hp, .inl (X.2.1, 4, .inl (P))), (hq, .inl (X.2.1, 4, .inl (Q)))]) (wn := [(hg, .inr (0, [.ref hgn, .int (nI 0), .long (((ar P Q i).toInt64) * ((ar P Q j).toInt64)), .long (lfL (((ar P Q i).toInt64) * ((ar P Q j).toInt64)) f), .long (glL (((ar P Q i).toInt64) * ((ar P Q j).toInt64)) ll)])), (hgn, .inl (X.2.1, 144, .inl (F))), (h, .inr (1, [.ref hp, .ref hq, .int (nI n), .int o, .int f, .int ll])), (hp, .inl (X.2.1, 4, .inl (P))), (hq, .inl (X.2.1, 4, .inl (Q)))]) (r_V C (As := [.ref h, .long (((ar P Q i).toInt64) * ((ar P Q j).toInt64))]) (rest := []) (kX0_start l X hg hgn z F ar0 lf gl h hp hq n P Q o f ll (((ar P Q i).toInt64) * ((ar P Q j).toInt64)) ) (cwV 2 C.ts gX0_startPair_X0_start rfl rfl rfl (by decide +kernel) ⟨Nat.le_of_ble_eq_true rfl, Nat.le_of_ble_eq_true rfl⟩) (q0 := 0) rfl rfl [0, 1, 2, 3, 4] (by decide) rfl rfl (Nat.le_of_ble_eq_true rfl) rfl dX0_startPair_15 ⟨Nat.zero_le _, Nat.zero_le _⟩) [0, 1, 2, 3, 4] [] [0, 1, 2, 3, 4] rfl rfl (by decide) (by decide) (by decide) rfl ?_
  exact s_vret C (pc := 18) hr hlk [0, 1, 2, 3, 4] (by decide) (rfl) dX0_startPair_18
